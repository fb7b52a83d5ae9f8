/-! TOLD, AT. -/
/-- where line j comes from -/
def lf (D : Nat → Nat → Nat) (j : Nat) : Nat := if j = 0 then 0 else D 10 (j - 1)
def wL (D : Nat → Nat → Nat) : Prop := (1 ≤ D 12 7 ∧ D 12 7 ≤ 600) ∧ (∀ j, j < D 12 7 → lf D j < D 10 j ∧ D 10 j ≤ D 12 0) ∧ D 12 1 ≤ 4000 ∧ (∀ i, i < D 12 1 → D 8 i < 128) ∧ (∀ b, b ≤ D 12 0 → D 1 b ≤ D 12 1) ∧ D 12 5 ≤ 10001
def cLn (M : sm_M) (o : Nat) (D : Nat → Nat → Nat) : Prop := iV M o 4 = Int32.ofNat (D 12 5) ∧ jV M o 5 = Int64.ofNat (D 12 6) ∧ iV M o 6 = Int32.ofNat (D 12 7) ∧ jV M (o + 1) 12 = Int64.ofNat (D 12 8) ∧ (∀ j, j < D 12 7 → iV M (o + 12) j = Int32.ofNat (D 10 j) ∧ jV M (o + 13) j = Int64.ofNat (D 11 j)) ∧ ∀ i, i < D 12 1 → iV M (o + 1 + 1) i = Int32.ofNat (D 8 i)
def mLn (M : sm_M) (D : Nat → Nat → Nat) : Prop := iV M 116 65 = Int32.ofNat (D 12 5) ∧ jV M 116 66 = Int64.ofNat (D 12 6) ∧ iV M 116 64 = Int32.ofNat (D 12 7) ∧ jV M 116 67 = Int64.ofNat (D 12 8) ∧ (∀ j, j < D 12 7 → iV M 161 j = Int32.ofNat (lf D j) ∧ iV M 162 j = Int32.ofNat (D 10 j) ∧ jV M 163 j = Int64.ofNat (D 11 j)) ∧ ∀ i, i < D 12 1 → iV M 149 i = Int32.ofNat (D 8 i)
def tv (D : Nat → Nat → Nat) (x : Int32) : Int64 := if x = 0 then Int64.ofNat (D 12 6) else if x = 1 then Int64.ofNat (D 12 5) else if x = 2 then Int64.ofNat (D 12 0) else if x = 3 then Int64.ofNat (D 12 7) else if x = 4 then Int64.ofNat (D 12 8) else Int64.ofNat (D 2 (D 12 0) + D 3 (D 12 0))
theorem s129n {M : sm_M} {x : Int32} (hS : SH M) (hs : iV M 23 15 = 0) : sm_xJ 129 [.ref 23, .int (x)] M (fun r M2 => ((¬ (¬ x < 0 ∧ x ≤ 5) ∧ M2 = sm_new M 48 6) ∨ ((¬ x < 0 ∧ x ≤ 5) ∧ M2 = sm_new M 49 6)) ∧ r = M.1) (fun _ _ => False) := by
  refine g129_0 hS ⟨fun c => ⟨Or.inl ⟨fun w => w.1 c, rfl⟩, rfl⟩, fun c => ⟨fun c2 => ⟨fun _ => ⟨Or.inr ⟨⟨c, c2⟩, rfl⟩, rfl⟩, fun c3 => absurd hs c3⟩, fun c2 => ⟨Or.inl ⟨fun w => c2 w.2, rfl⟩, rfl⟩⟩⟩
section SETD
variable {D : Nat → Nat → Nat} {o : Nat} {x : Int32}
theorem s129 {M : sm_M} (hS : SH M) (hs : ¬ iV M 23 15 = 0) (hr : sm_rv M 23 13 = some o) (ho : fS o) (hw : wK D) (hl : wL D) (hK : cK M o D) (hL : cLn M o D) : sm_xJ 129 [.ref 23, .int (x)] M (fun r M2 => ¬ (¬ x < 0 ∧ x ≤ 5) ∧ r = M.1 ∧ M2 = sm_new M 48 6) (fun v M2 => (¬ x < 0 ∧ x ≤ 5) ∧ v = tv D x ∧ M2 = M) := by
  have hn := hw.1
  obtain ⟨l1, l2, l3, l4, l5, l6⟩ := hl
  refine g129_0 hS ⟨fun c => ⟨fun w => w.1 c, rfl, rfl⟩, fun c => ⟨fun c2 => ⟨fun c3 => absurd c3 hs, fun _ => ⟨o, hr, ho, fun h => ?_, fun h => ?_, fun h => ?_, fun h => ?_, fun h => ?_, fun h => ?_⟩⟩, fun c2 => ⟨fun w => c2 w.2, rfl, rfl⟩⟩⟩
  · subst h
    exact ⟨o, hr, ho, ⟨c, c2⟩, hL.2.1, rfl⟩
  · subst h
    exact ⟨o, hr, ho, ⟨c, c2⟩, by rw [hL.1, j_i64 (by omega)]; rfl, rfl⟩
  · subst h
    exact ⟨⟨c, c2⟩, by rw [hK.1, j_i64 (by omega)]; rfl, rfl⟩
  · subst h
    exact ⟨o, hr, ho, ⟨c, c2⟩, by rw [hL.2.2.1, j_i64 (by omega)]; rfl, rfl⟩
  · subst h
    exact ⟨⟨c, c2⟩, hL.2.2.2.1, rfl⟩
  · have h5 : x = 5 := by
      rcases h with h | h
      · exact absurd h c
      · rw [z_lt, show (4 : Int32).toInt = 4 from rfl] at h
        rw [z_le, show (5 : Int32).toInt = 5 from rfl] at c2
        rw [z_eq, show (5 : Int32).toInt = 5 from rfl]
        omega
    subst h5
    obtain ⟨-, -, -, a4, a5, -, -⟩ := hK.2.1 (D 12 0) (Nat.le_refl _)
    rw [hK.1, o_cl (by omega), a4, a5, j_add]
    exact ⟨(o_in (by omega)).mpr (by omega), (o_in (by omega)).mpr (by omega), ⟨c, c2⟩, rfl, rfl⟩
theorem mK.wI {M : sm_M} {k : Nat} {c : Int32} (h : mK M D) (hk : k < 60 ∨ 63 < k) : mK (sm_wI M 116 k c) D := h.fr (p := fun a b => a = 116 ∧ b = k) ((Fr.rf _ _).wI ⟨rfl, rfl⟩) ⟨fun q z1 z2 w => by omega, fun a q z1 z2 w => by omega⟩
theorem mLn.fr {M M2 : sm_M} {p : Nat → Nat → Prop} (h : mLn M D) (f : Fr p M M2) (hp : (∀ k, 64 ≤ k → k ≤ 67 → ¬ p 116 k) ∧ (∀ k, ¬ p 149 k) ∧ ∀ a k, 161 ≤ a → a ≤ 163 → ¬ p a k) : mLn M2 D := by
  obtain ⟨h1, h2, h3, h4, h5, h6⟩ := h
  obtain ⟨p1, p2, p3⟩ := hp
  refine ⟨by rw [f.2.1 _ _ (p1 65 (by omega) (by omega))]; exact h1, by rw [f.2.2 _ _ (p1 66 (by omega) (by omega))]; exact h2, by rw [f.2.1 _ _ (p1 64 (by omega) (by omega))]; exact h3, by rw [f.2.2 _ _ (p1 67 (by omega) (by omega))]; exact h4, fun j hj => ?_, fun i hi => by rw [f.2.1 _ _ (p2 i)]; exact h6 i hi⟩
  rw [f.2.1 _ _ (p3 161 j (by omega) (by omega)), f.2.1 _ _ (p3 162 j (by omega) (by omega)), f.2.2 _ _ (p3 163 j (by omega) (by omega))]
  exact h5 j hj
theorem mLn.wI {M : sm_M} {k : Nat} {c : Int32} (h : mLn M D) (hk : k < 64 ∨ 67 < k) : mLn (sm_wI M 116 k c) D := h.fr (p := fun a b => a = 116 ∧ b = k) ((Fr.rf _ _).wI ⟨rfl, rfl⟩) ⟨fun q z1 z2 w => by omega, fun q w => by omega, fun a q z1 z2 w => by omega⟩
def pm8 : Nat → Nat → Prop := fun a k => a = 116 ∧ (k = 0 ∨ 78 ≤ k ∧ k ≤ 85)
theorem s214n {M : sm_M} (hS : SH M) (hs : iV M 116 59 = 0) : sm_cJ 214 [.ref 116, .int (x)] M (fun _ M2 => ((¬ (¬ x < 0 ∧ x ≤ 5) ∧ iV M2 116 0 = 1) ∨ ((¬ x < 0 ∧ x ≤ 5) ∧ iV M2 116 0 = 2)) ∧ Fr pm8 M M2) := by
  refine g214_0 hS ?_
  rw [show (0 : Int64) = (0 : Int32).toInt64 from rfl, show (5 : Int64) = (5 : Int32).toInt64 from rfl, p166_i]
  refine ⟨fun c M4 s4 e4 => ⟨Or.inl ⟨c, by rw [e4, iV_wI, if_pos ⟨rfl, rfl⟩]⟩, by rw [e4]; exact (Fr.rf _ _).wI ⟨rfl, Or.inl rfl⟩⟩, fun c => ⟨fun _ M9 s9 e9 => ⟨Or.inr ⟨Classical.not_not.mp c, by rw [e9, iV_wI, if_pos ⟨rfl, rfl⟩]⟩, by rw [e9]; exact (Fr.rf _ _).wI ⟨rfl, Or.inl rfl⟩⟩, fun c3 => absurd hs c3⟩⟩
theorem s214 {M : sm_M} (hS : SH M) (hs : ¬ iV M 116 59 = 0) (hw : wK D) (hl : wL D) (hK : mK M D) (hL : mLn M D) : sm_cJ 214 [.ref 116, .int (x)] M (fun v M2 => ((¬ (¬ x < 0 ∧ x ≤ 5) ∧ iV M2 116 0 = 1) ∨ ((¬ x < 0 ∧ x ≤ 5) ∧ iV M2 116 0 = 0 ∧ v = tv D x)) ∧ Fr pm8 M M2) := by
  have hn := hw.1
  have hst := hw.2.2.2.1 (D 12 0) (by omega) (Nat.le_refl _)
  have hz := hw.2.2.2.2.1
  obtain ⟨l1, l2, l3, l4, l5, l6⟩ := hl
  refine g214_0 hS ?_
  rw [show (0 : Int64) = (0 : Int32).toInt64 from rfl, show (5 : Int64) = (5 : Int32).toInt64 from rfl, p166_i]
  refine ⟨fun c M4 s4 e4 => ⟨Or.inl ⟨c, by rw [e4, iV_wI, if_pos ⟨rfl, rfl⟩]⟩, by rw [e4]; exact (Fr.rf _ _).wI ⟨rfl, Or.inl rfl⟩⟩, fun c => ⟨fun c3 => absurd c3 hs, fun _ M11 s11 e11 => ?_⟩⟩
  have c := Classical.not_not.mp c
  have f : Fr pm8 M M11 := by rw [e11]; exact (Fr.rf _ _).wI ⟨rfl, Or.inl rfl⟩
  have z : iV M11 116 0 = 0 := by rw [e11, iV_wI, if_pos ⟨rfl, rfl⟩]
  have K11 : mK M11 D := by rw [e11]; exact hK.wI (by omega)
  have L11 : mLn M11 D := by rw [e11]; exact hL.wI (by omega)
  unfold tv
  refine ⟨fun h => ⟨Or.inr ⟨c, z, ?_⟩, f⟩, fun h0 => ⟨fun h => ⟨Or.inr ⟨c, z, ?_⟩, f⟩, fun h1 => ⟨fun h => ⟨Or.inr ⟨c, z, ?_⟩, f⟩, fun h2 => ⟨fun h => ⟨Or.inr ⟨c, z, ?_⟩, f⟩, fun h3 => ⟨fun h => ⟨Or.inr ⟨c, z, ?_⟩, f⟩, fun h4 => ?_⟩⟩⟩⟩⟩
  · rw [if_pos h]; exact L11.2.1
  · rw [if_neg h0, if_pos h, L11.1, j_i64 (by omega)]
  · rw [if_neg h0, if_neg h1, if_pos h, K11.1, j_i64 (by omega)]
  · rw [if_neg h0, if_neg h1, if_neg h2, if_pos h, L11.2.2.1, j_i64 (by omega)]
  · rw [if_neg h0, if_neg h1, if_neg h2, if_neg h3, if_pos h]; exact L11.2.2.2.1
  · rw [K11.1]
    refine (s207 (i := 0) s11 hw K11 (by omega) (Nat.le_refl _)).mono fun M13 k13 s13 => ?_
    obtain ⟨k1, k2⟩ := k13
    refine ⟨Or.inr ⟨c, ?_, ?_⟩, f.tr (k2.mono fun a k w => by unfold pm7 at w; unfold pm8; omega)⟩
    · rw [k2.2.1 116 0 (by unfold pm7; omega)]; exact z
    · rw [if_neg h0, if_neg h1, if_neg h2, if_neg h3, if_neg h4, k1.1]
      unfold eN
      have h9 := hst.1.mpr rfl
      rw [hst.2.2.2.2.2, h9, if_neg (by decide)]
      have h10 := hst.2.1
      rw [h9, if_neg (by decide)] at h10
      congr 1
      omega
def av (D : Nat → Nat → Nat) (b : Nat) (x : Int32) : Int64 := if x = 0 then Int64.ofNat (D 0 b) else if x = 1 then Int64.ofNat (D 1 b) else if x = 2 then Int64.ofNat (D 2 b) else Int64.ofNat (D 3 b)
theorem s132n {M : sm_M} {b : Int32} (hS : SH M) (hs : iV M 23 15 = 0) : sm_xJ 132 [.ref 23, .int (b), .int (x)] M (fun r M2 => ((¬ ((¬ x < 0 ∧ x ≤ 3) ∧ ¬ b < 1) ∧ M2 = sm_new M 48 6) ∨ (((¬ x < 0 ∧ x ≤ 3) ∧ ¬ b < 1) ∧ M2 = sm_new M 49 6)) ∧ r = M.1) (fun _ _ => False) := by
  refine g132_0 hS ⟨fun c => ⟨Or.inl ⟨fun w => w.1.1 c, rfl⟩, rfl⟩, fun c => ⟨fun c2 => ⟨fun _ => ⟨fun c4 => ⟨Or.inl ⟨fun w => w.2 c4, rfl⟩, rfl⟩, fun c4 => ⟨fun _ => ⟨fun _ => ⟨Or.inr ⟨⟨⟨c, c2⟩, c4⟩, rfl⟩, rfl⟩, fun c5 => absurd hs c5⟩, fun c5 => absurd (Int32.le_refl b) c5⟩⟩, fun c3 => absurd hs c3⟩, fun c2 => ⟨Or.inl ⟨fun w => c2 w.1.2, rfl⟩, rfl⟩⟩⟩
theorem s132 {M : sm_M} {b : Int32} (hS : SH M) (hs : ¬ iV M 23 15 = 0) (hr : sm_rv M 23 13 = some o) (ho : fS o) (hw : wK D) (hK : cK M o D) : sm_xJ 132 [.ref 23, .int (b), .int (x)] M (fun r M2 => ¬ (((¬ x < 0 ∧ x ≤ 3) ∧ ¬ b < 1) ∧ b ≤ Int32.ofNat (D 12 0)) ∧ r = M.1 ∧ M2 = sm_new M 48 6) (fun v M2 => (((¬ x < 0 ∧ x ≤ 3) ∧ ¬ b < 1) ∧ b ≤ Int32.ofNat (D 12 0)) ∧ v = av D b.toNatClampNeg x ∧ M2 = M) := by
  have hn := hw.1
  refine g132_0 hS ⟨fun c => ⟨fun w => w.1.1.1 c, rfl, rfl⟩, fun c => ⟨fun c2 => ⟨fun c3 => absurd c3 hs, fun _ => ⟨o, hr, ho, ?_⟩⟩, fun c2 => ⟨fun w => c2 w.1.1.2, rfl, rfl⟩⟩⟩
  rw [hK.1]
  refine ⟨fun c4 => ⟨fun w => w.1.2 c4, rfl, rfl⟩, fun c4 => ⟨fun c5 => ⟨fun c3 => absurd c3 hs, fun _ => ⟨o, hr, ho, ?_⟩⟩, fun c5 => ⟨fun w => c5 w.2, rfl, rfl⟩⟩⟩
  have hb0 : ¬ b < 0 := fun w => c4 (by rw [z_lt] at w ⊢; rw [show (0 : Int32).toInt = 0 from rfl] at w; rw [show (1 : Int32).toInt = 1 from rfl]; omega)
  obtain ⟨n, hnb, e⟩ := z_ps hb0
  subst e
  have hbn := (o_le hnb (by omega)).mp c5
  obtain ⟨a1, a2, -, a4, a5, -, -⟩ := hK.2.1 n hbn
  have hk0 := hw.2.2.1 n hbn
  have hin : vp_in (Int32.ofNat n) 601 := (o_in hnb).mpr (by omega)
  have all : ((¬ x < 0 ∧ x ≤ 3) ∧ ¬ Int32.ofNat n < 1) ∧ Int32.ofNat n ≤ Int32.ofNat (D 12 0) := ⟨⟨⟨c, c2⟩, c4⟩, c5⟩
  unfold av
  rw [o_cl hnb, a1, a2, a4, a5, j_i64 (by omega), j_i64 (by omega)]
  refine ⟨fun h => ⟨hin, all, by rw [if_pos h], rfl⟩, fun h => ⟨hin, all, by rw [if_neg (by rw [h]; decide), if_pos h], rfl⟩, fun h => ⟨hin, all, by rw [if_neg (by rw [h]; decide), if_neg (by rw [h]; decide), if_pos h], rfl⟩, fun h => ⟨hin, all, ?_, rfl⟩⟩
  have k : ∀ q : Int32, q ≤ 2 → ¬ q < 0 → x ≠ q := fun q q1 q2 e => by
    subst e
    rcases h with h | h
    · exact q2 h
    · exact absurd q1 (Int32.not_le.mpr h)
  rw [if_neg (k 0 (by decide) (by decide)), if_neg (k 1 (by decide) (by decide)), if_neg (k 2 (by decide) (by decide))]
theorem s215n {M : sm_M} {b : Int32} (hS : SH M) (hs : iV M 116 59 = 0) : sm_cJ 215 [.ref 116, .int (b), .int (x)] M (fun _ M2 => ((¬ ((¬ x < 0 ∧ x ≤ 3) ∧ ¬ b < 1) ∧ iV M2 116 0 = 1) ∨ (((¬ x < 0 ∧ x ≤ 3) ∧ ¬ b < 1) ∧ iV M2 116 0 = 2)) ∧ Fr pm8 M M2) := by
  refine g215_0 hS ?_
  rw [show (0 : Int64) = (0 : Int32).toInt64 from rfl, show (3 : Int64) = (3 : Int32).toInt64 from rfl, p166_i]
  refine ⟨fun c M4 s4 e4 => ⟨Or.inl ⟨fun w => c w.1, by rw [e4, iV_wI, if_pos ⟨rfl, rfl⟩]⟩, by rw [e4]; exact (Fr.rf _ _).wI ⟨rfl, Or.inl rfl⟩⟩, fun c => ⟨fun c2 => ⟨fun _ M9 s9 e9 => ⟨Or.inr ⟨⟨Classical.not_not.mp c, Int32.not_lt.mpr c2⟩, by rw [e9, iV_wI, if_pos ⟨rfl, rfl⟩]⟩, by rw [e9]; exact (Fr.rf _ _).wI ⟨rfl, Or.inl rfl⟩⟩, fun c3 => absurd hs c3⟩, fun c2 M25 s25 e25 => ⟨Or.inl ⟨fun w => c2 (Int32.not_lt.mp w.2), by rw [e25, iV_wI, if_pos ⟨rfl, rfl⟩]⟩, by rw [e25]; exact (Fr.rf _ _).wI ⟨rfl, Or.inl rfl⟩⟩⟩⟩
theorem s215 {M : sm_M} {b : Int32} (hS : SH M) (hs : ¬ iV M 116 59 = 0) (hw : wK D) (hK : mK M D) : sm_cJ 215 [.ref 116, .int (b), .int (x)] M (fun v M2 => ((¬ (((¬ x < 0 ∧ x ≤ 3) ∧ ¬ b < 1) ∧ b ≤ Int32.ofNat (D 12 0)) ∧ iV M2 116 0 = 1) ∨ ((((¬ x < 0 ∧ x ≤ 3) ∧ ¬ b < 1) ∧ b ≤ Int32.ofNat (D 12 0)) ∧ iV M2 116 0 = 0 ∧ v = av D b.toNatClampNeg x)) ∧ Fr pm8 M M2) := by
  have hn := hw.1
  refine g215_0 hS ?_
  rw [show (0 : Int64) = (0 : Int32).toInt64 from rfl, show (3 : Int64) = (3 : Int32).toInt64 from rfl, p166_i, hK.1]
  refine ⟨fun c M4 s4 e4 => ⟨Or.inl ⟨fun w => c w.1.1, by rw [e4, iV_wI, if_pos ⟨rfl, rfl⟩]⟩, by rw [e4]; exact (Fr.rf _ _).wI ⟨rfl, Or.inl rfl⟩⟩, fun c => ⟨fun c4 => ⟨fun c3 => absurd c3 hs, fun _ => ⟨fun c5 M11 s11 e11 => ?_, fun c5 M20 s20 e20 => ⟨Or.inl ⟨fun w => c5 w.2, by rw [e20, iV_wI, if_pos ⟨rfl, rfl⟩]⟩, by rw [e20]; exact (Fr.rf _ _).wI ⟨rfl, Or.inl rfl⟩⟩⟩⟩, fun c2 M25 s25 e25 => ⟨Or.inl ⟨fun w => c2 (Int32.not_lt.mp w.1.2), by rw [e25, iV_wI, if_pos ⟨rfl, rfl⟩]⟩, by rw [e25]; exact (Fr.rf _ _).wI ⟨rfl, Or.inl rfl⟩⟩⟩⟩
  have c := Classical.not_not.mp c
  have f : Fr pm8 M M11 := by rw [e11]; exact (Fr.rf _ _).wI ⟨rfl, Or.inl rfl⟩
  have z : iV M11 116 0 = 0 := by rw [e11, iV_wI, if_pos ⟨rfl, rfl⟩]
  have K11 : mK M11 D := by rw [e11]; exact hK.wI (by omega)
  have hb0 : ¬ b < 0 := fun w => Int32.not_lt.mpr c4 (by rw [z_lt] at w ⊢; rw [show (0 : Int32).toInt = 0 from rfl] at w; rw [show (1 : Int32).toInt = 1 from rfl]; omega)
  obtain ⟨n, hnb, e⟩ := z_ps hb0
  subst e
  have hbn := (o_le hnb (by omega)).mp c5
  have hn1 := (o_le (n := 1) (by omega) hnb).mp c4
  obtain ⟨a1, a2, -⟩ := K11.2.2.1 n hn1 hbn
  obtain ⟨a4, a5, -, -⟩ := K11.2.1 n hbn
  have hk0 := hw.2.2.1 n hbn
  have hin : vp_in (Int32.ofNat n) 602 := (o_in hnb).mpr (by omega)
  have all : ((¬ x < 0 ∧ x ≤ 3) ∧ ¬ Int32.ofNat n < 1) ∧ Int32.ofNat n ≤ Int32.ofNat (D 12 0) := ⟨⟨c, Int32.not_lt.mpr c4⟩, c5⟩
  unfold av
  rw [o_cl hnb, a1, a2, a4, a5, j_i64 (by omega), j_i64 (by omega)]
  exact ⟨fun h => ⟨hin, Or.inr ⟨all, z, by rw [if_pos h]⟩, f⟩, fun h0 => ⟨fun h => ⟨hin, Or.inr ⟨all, z, by rw [if_neg h0, if_pos h]⟩, f⟩, fun h1 => ⟨fun h => ⟨hin, Or.inr ⟨all, z, by rw [if_neg h0, if_neg h1, if_pos h]⟩, f⟩, fun h2 => ⟨hin, Or.inr ⟨all, z, by rw [if_neg h0, if_neg h1, if_neg h2]⟩, f⟩⟩⟩⟩
end SETD
