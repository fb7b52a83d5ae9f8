/-! ASKING FOR A LINE. -/
section ASK
variable {D : Nat → Nat → Nat} {o : Nat} {x : Int32}
theorem cLn.fr {M M2 : sm_M} {p : Nat → Nat → Prop} (h : cLn M o D) (f : Fr p M M2) (hp : ∀ a k, o ≤ a → a ≤ o + 13 → ¬ p a k) : cLn M2 o D := by
  obtain ⟨h1, h2, h3, h4, h5, h6⟩ := h
  have ei : ∀ a k, o ≤ a → a ≤ o + 13 → iV M2 a k = iV M a k := fun a k z1 z2 => f.2.1 a k (hp a k z1 z2)
  have ej : ∀ a k, o ≤ a → a ≤ o + 13 → jV M2 a k = jV M a k := fun a k z1 z2 => f.2.2 a k (hp a k z1 z2)
  refine ⟨by rw [ei _ _ (by omega) (by omega)]; exact h1, by rw [ej _ _ (by omega) (by omega)]; exact h2, by rw [ei _ _ (by omega) (by omega)]; exact h3, by rw [ej _ _ (by omega) (by omega)]; exact h4, fun j hj => ?_, fun i hi => by rw [ei _ _ (by omega) (by omega)]; exact h6 i hi⟩
  rw [ei _ _ (by omega) (by omega), ej _ _ (by omega) (by omega)]
  exact h5 j hj
theorem o_lt1 {n : Nat} (h1 : 1 ≤ n) (h : n < 2147483648) (x : Int32) : x ≤ Int32.ofNat n - 1 ↔ x < Int32.ofNat n := by
  rw [o_p h1, z_le, z_lt, o_ti (by omega), o_ti h]
  omega
theorem s135n {M : sm_M} (hS : SH M) (hs : iV M 23 15 = 0) : sm_xV 135 [.ref 23, .int (x)] M (fun r M2 => ((x < 0 ∧ M2 = sm_new M 48 6) ∨ (¬ x < 0 ∧ M2 = sm_new M 49 6)) ∧ r = M.1) (fun _ => False) := by
  refine g135_0 hS ⟨fun _ => ⟨fun c => ⟨Or.inl ⟨c, rfl⟩, rfl⟩, fun c => ⟨fun _ => ⟨fun _ => ⟨Or.inr ⟨c, rfl⟩, rfl⟩, fun c2 => absurd hs c2⟩, fun c2 => absurd (Int32.le_refl x) c2⟩⟩, fun c => absurd hs c⟩
theorem s135 {M : sm_M} (hS : SH M) (hs : ¬ iV M 23 15 = 0) (hr : sm_rv M 23 13 = some o) (ho : fS o) (hw : wK D) (hl : wL D) (hK : cK M o D) (hL : cLn M o D) : sm_xV 135 [.ref 23, .int (x)] M (fun r M2 => ¬ (¬ x < 0 ∧ x < Int32.ofNat (D 12 7)) ∧ r = M.1 ∧ M2 = sm_new M 48 6) (fun M2 => (¬ x < 0 ∧ x < Int32.ofNat (D 12 7)) ∧ cLine M2 41 D (lf D x.toNatClampNeg) (D 10 x.toNatClampNeg) ∧ Fr (pl 41) M M2) := by
  have hn := hw.1
  obtain ⟨l1, l2, l3, l4, l5, l6⟩ := hl
  refine g135_0 hS ⟨fun c => absurd c hs, fun _ => ⟨o, hr, ho, ?_⟩⟩
  rw [hL.2.2.1, o_lt1 (by omega) (by omega)]
  refine ⟨fun c => ⟨fun w => w.1 c, rfl, rfl⟩, fun c => ⟨fun c2 => ⟨fun c3 => absurd c3 hs, fun _ => ⟨o, hr, ho, ?_⟩⟩, fun c2 => ⟨fun w => c2 w.2, rfl, rfl⟩⟩⟩
  obtain ⟨j, hj, e⟩ := z_ps c
  subst e
  have hjl := (o_lt hj (by omega)).mp c2
  obtain ⟨q1, q2⟩ := l2 j hjl
  have hin : vp_in (Int32.ofNat j) 600 := (o_in hj).mpr (by omega)
  rw [o_eq0 hj, o_cl hj]
  refine ⟨fun h0 => ⟨o, hr, ho, hin, ?_⟩, fun h0 => ⟨o, hr, ho, ?_, o, hr, ho, hin, ?_⟩⟩
  · have e : lf D j = 0 := if_pos h0
    rw [(hL.2.2.2.2.1 j hjl).1]
    rw [e] at q1 ⊢
    exact (s112 (i := 0) hS ho fL_41 hw hK q1 q2).mono fun M2 k2 s2 => ⟨⟨c, c2⟩, k2.1, k2.2⟩
  · rw [o_p (by omega)]
    exact (o_in (by omega)).mpr (by omega)
  · have e : lf D j = D 10 (j - 1) := if_neg h0
    rw [o_p (by omega), o_cl (n := j - 1) (by omega), (hL.2.2.2.2.1 (j - 1) (by omega)).1, (hL.2.2.2.2.1 j hjl).1]
    rw [e] at q1 ⊢
    exact (s112 hS ho fL_41 hw hK q1 q2).mono fun M2 k2 s2 => ⟨⟨c, c2⟩, k2.1, k2.2⟩
/-- where the first word begins -/
def bg (D : Nat → Nat → Nat) (i j : Nat) : Nat := (if i = 0 then D 12 3 else 0) + (if D 12 4 = 2 then eL D i - eN D i j else if D 12 4 = 3 then (eL D i - eN D i j) / 2 else 0)
theorem spare_c {a b : Nat} (ha : a ≤ 3000000000000) (hb : b ≤ 3000000000000) : (if (0 : Int64) < Int64.ofNat a - Int64.ofNat b then Int64.ofNat a - Int64.ofNat b else 0) = Int64.ofNat (a - b) := by
  rcases Nat.lt_or_ge b a with h | h
  · rw [j_sub (by omega), if_pos]
    rw [show (0 : Int64) = Int64.ofNat 0 from rfl, j_lt (by omega) (by omega)]
    omega
  · have e : (Int64.ofNat a - Int64.ofNat b).toInt = (a : Int) - b := by
      rw [y_sub, j_ti (by omega), j_ti (by omega)]
      · rw [j_ti (by omega), j_ti (by omega)]; omega
      · rw [j_ti (by omega), j_ti (by omega)]; omega
    rw [if_neg, show a - b = 0 from by omega]
    · rfl
    · rw [y_lt, e, show (0 : Int64).toInt = 0 from rfl]
      omega
theorem P136 {M : sm_M} {l i j : Nat} (hw : wK D) (hij : i < j) (hj : j ≤ D 12 0) (hK : cK M o D) (hl : cLine M l D i j) : p136_0 M o l = Int64.ofNat (bg D i j) := by
  have hn := hw.1
  have hb := lb hw hij hj
  have hal := hw.2.2.2.2.2
  obtain ⟨q0, q1, q2, q3, q4, q5, q6, q7, q8, q9, q10⟩ := hl
  have k2 : Int32.ofNat (D 12 4) = (2 : Int32) ↔ D 12 4 = 2 := o_eq (m := 2) (by omega) (by omega)
  have k3 : Int32.ofNat (D 12 4) = (3 : Int32) ↔ D 12 4 = 3 := o_eq (m := 3) (by omega) (by omega)
  have ki : Int32.ofNat i = (0 : Int32) ↔ i = 0 := o_eq0 (by omega)
  unfold p136_0 bg
  rw [q0, q2, q5, hK.2.2.2.2.1, hK.2.2.2.2.2, spare_c (by omega) (by omega), j_i64 (by omega), show (2 : Int64) = Int64.ofNat 2 from rfl, j_div (by omega) (by omega), j_add, j_add, show (0 : Int64) = Int64.ofNat 0 from rfl, j_add, j_add]
  by_cases c0 : i = 0
  · rw [if_pos (ki.mpr c0), if_pos c0]
    by_cases c1 : D 12 4 = 2
    · rw [if_pos (k2.mpr c1), if_pos c1]
    · rw [if_neg (mt k2.mp c1), if_neg c1]
      by_cases c2 : D 12 4 = 3
      · rw [if_pos (k3.mpr c2), if_pos c2]
      · rw [if_neg (mt k3.mp c2), if_neg c2]; rfl
  · rw [if_neg (mt ki.mp c0), if_neg c0]
    by_cases c1 : D 12 4 = 2
    · rw [if_pos (k2.mpr c1), if_pos c1]
    · rw [if_neg (mt k2.mp c1), if_neg c1]
      by_cases c2 : D 12 4 = 3
      · rw [if_pos (k3.mpr c2), if_pos c2]
      · rw [if_neg (mt k3.mp c2), if_neg c2]
/-- the words of a line -/
def wd (D : Nat → Nat → Nat) (i j : Nat) : Nat := D 7 (j - 1) - D 7 i + 1
theorem D7_mono (hw : wK D) : ∀ d i, i + d ≤ D 12 0 → D 7 i ≤ D 7 (i + d)
  | 0, i, _ => Nat.le_refl _
  | d + 1, i, h => by
    have h1 := D7_mono hw d i (by omega)
    have h2 := (hw.2.2.2.1 (i + (d + 1)) (by omega) h).2.2.2.2.1
    rw [show i + (d + 1) - 1 = i + d from by omega] at h2
    omega
theorem P137 {M : sm_M} {l i j : Nat} (hw : wK D) (hij : i < j) (hj : j ≤ D 12 0) (hK : cK M o D) (hl : cLine M l D i j) : p137_0 M (o + 1) (iV M l 0) (iV M l 1) = Int32.ofNat (wd D i j) ∧ q137_0 M (o + 1) (iV M l 0) (iV M l 1) := by
  have hn := hw.1
  have hm := D7_mono hw (j - 1 - i) i (by omega)
  rw [show i + (j - 1 - i) = j - 1 from by omega] at hm
  have h7 := hw.2.2.1 (j - 1) (by omega)
  rw [hl.1, hl.2.1]
  constructor
  · unfold p137_0 wd
    rw [o_p (by omega), o_cl (n := j - 1) (by omega), o_cl (n := i) (by omega), (hK.2.1 (j - 1) (by omega)).2.2.1, (hK.2.1 i (by omega)).2.2.1, ← Int32.ofNat_sub _ _ hm, o_s]
  · unfold q137_0
    rw [o_p (by omega)]
    exact ⟨(o_in (by omega)).mpr (by omega), (o_in (by omega)).mpr (by omega)⟩
noncomputable def lv (D : Nat → Nat → Nat) (q : Nat) (x : Int32) : Int64 := if x = 0 then Int64.ofNat (lf D q) else if x = 1 then Int64.ofNat (D 10 q) else if x = 2 then (eR D (lf D q) (D 10 q)).toInt64 else if x = 3 then Int64.ofNat (eN D (lf D q) (D 10 q)) else if x = 4 then Int64.ofNat (bg D (lf D q) (D 10 q)) else if x = 5 then Int64.ofNat (D 11 q) else if x = 6 then Int64.ofNat (wd D (lf D q) (D 10 q)) else Int64.ofNat (eB D (lf D q) (D 10 q))
theorem s134n {M : sm_M} {y : Int32} (hS : SH M) (hs : iV M 23 15 = 0) : sm_xJ 134 [.ref 23, .int (x), .int (y)] M (fun r M2 => ((¬ ((¬ y < 0 ∧ y ≤ 7) ∧ ¬ x < 0) ∧ M2 = sm_new M 48 6) ∨ (((¬ y < 0 ∧ y ≤ 7) ∧ ¬ x < 0) ∧ M2 = sm_new M 49 6)) ∧ r = M.1) (fun _ _ => False) := by
  refine g134_0 hS ⟨fun c => ⟨Or.inl ⟨fun w => w.1.1 c, rfl⟩, rfl⟩, fun c => ⟨fun c2 => (s135n hS hs).mono (fun r M2 k => ?_) (fun M2 k => k.elim), fun c2 => ⟨Or.inl ⟨fun w => c2 w.1.2, rfl⟩, rfl⟩⟩⟩
  rcases k with ⟨⟨k1, k2⟩ | ⟨k1, k2⟩, k3⟩
  · exact ⟨Or.inl ⟨fun w => w.2 k1, k2⟩, k3⟩
  · exact ⟨Or.inr ⟨⟨⟨c, c2⟩, k1⟩, k2⟩, k3⟩
theorem s134 {M : sm_M} {y : Int32} (hS : SH M) (hs : ¬ iV M 23 15 = 0) (hr : sm_rv M 23 13 = some o) (ho : fS o) (hw : wK D) (hl : wL D) (hK : cK M o D) (hL : cLn M o D) : sm_xJ 134 [.ref 23, .int (x), .int (y)] M (fun r M2 => ¬ ((¬ y < 0 ∧ y ≤ 7) ∧ (¬ x < 0 ∧ x < Int32.ofNat (D 12 7))) ∧ r = M.1 ∧ M2 = sm_new M 48 6) (fun v M2 => ((¬ y < 0 ∧ y ≤ 7) ∧ (¬ x < 0 ∧ x < Int32.ofNat (D 12 7))) ∧ v = lv D x.toNatClampNeg y ∧ Fr (pl 41) M M2) := by
  have hn := hw.1
  have hd : ∀ a k, o ≤ a → a ≤ o + 13 → ¬ pl 41 a k := fun a k z1 z2 => by unfold pl; unfold fS at ho; omega
  have hl2 := hl
  obtain ⟨l1, l2, l3, l4, l5, l6⟩ := hl
  refine g134_0 hS ⟨fun c => ⟨fun w => w.1.1 c, rfl, rfl⟩, fun c => ⟨fun c2 => (s135 hS hs hr ho hw hl2 hK hL).mono (fun r M2 k => ⟨fun w => k.1 w.2, k.2⟩) (fun M4 k s4 => ?_), fun c2 => ⟨fun w => c2 w.1.2, rfl, rfl⟩⟩⟩
  obtain ⟨kr, kl, kf⟩ := k
  obtain ⟨q, hq, e⟩ := z_ps kr.1
  subst e
  have hql := (o_lt hq (by omega)).mp kr.2
  rw [o_cl hq] at kl ⊢
  obtain ⟨q1, q2⟩ := l2 q hql
  have hb := lb hw q1 q2
  have hB := eB_le D (lf D q) (D 10 q)
  have hm := D7_mono hw (D 10 q - 1 - lf D q) (lf D q) (by omega)
  have h7 := hw.2.2.1 (D 10 q - 1) (by omega)
  have K4 := hK.fr kf hd
  have L4 := hL.fr kf hd
  have hr4 : sm_rv M4 23 13 = some o := by rw [kf.1.2.2.2.2]; exact hr
  have p6 := P137 hw q1 q2 K4 kl
  have kl2 := kl
  obtain ⟨v0, v1, v2, v3, v4, v5, v6, v7, v8, v9, v10⟩ := kl
  have all : (¬ y < 0 ∧ y ≤ 7) ∧ (¬ Int32.ofNat q < 0 ∧ Int32.ofNat q < Int32.ofNat (D 12 7)) := ⟨⟨c, c2⟩, kr⟩
  unfold lv
  refine ⟨fun h => ⟨all, ?_, kf⟩, fun h => ⟨all, ?_, kf⟩, fun h => ⟨all, ?_, kf⟩, fun h => ⟨all, ?_, kf⟩, fun h => ⟨o, hr4, ho, all, ?_, kf⟩, fun h => ⟨o, hr4, ho, (o_in hq).mpr (by omega), all, ?_, kf⟩, fun h => ⟨o, hr4, ho, p6.2, all, ?_, kf⟩, fun h => ⟨all, ?_, kf⟩⟩
  · rw [if_pos h, v0, j_i64 (by omega)]
  · subst h; rw [if_neg (by decide), if_pos rfl, v1, j_i64 (by omega)]
  · subst h; rw [if_neg (by decide), if_neg (by decide), if_pos rfl, v8]
  · subst h; rw [if_neg (by decide), if_neg (by decide), if_neg (by decide), if_pos rfl, v2]
  · subst h; rw [if_neg (by decide), if_neg (by decide), if_neg (by decide), if_neg (by decide), if_pos rfl]; exact P136 hw q1 q2 K4 kl2
  · subst h; rw [if_neg (by decide), if_neg (by decide), if_neg (by decide), if_neg (by decide), if_neg (by decide), if_pos rfl]; exact (L4.2.2.2.2.1 q hql).2
  · subst h; rw [if_neg (by decide), if_neg (by decide), if_neg (by decide), if_neg (by decide), if_neg (by decide), if_neg (by decide), if_pos rfl, p6.1, j_i64 (by unfold wd; omega)]
  · have k : ∀ p : Int32, p ≤ 6 → ¬ p < 0 → y ≠ p := fun p p1 p2 e => by
      subst e
      rcases h with h | h
      · exact p2 h
      · exact absurd p1 (Int32.not_le.mpr h)
    rw [if_neg (k 0 (by decide) (by decide)), if_neg (k 1 (by decide) (by decide)), if_neg (k 2 (by decide) (by decide)), if_neg (k 3 (by decide) (by decide)), if_neg (k 4 (by decide) (by decide)), if_neg (k 5 (by decide) (by decide)), if_neg (k 6 (by decide) (by decide)), v9, j_i64 (by omega)]
end ASK
