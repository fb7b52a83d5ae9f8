/-! HYPHENS ARE READ: patterns; the other side. -/
section HRP
variable {tb : Nat → Nat} {tn : Nat} {A : sm_M}
def ppt : Nat → Nat → Prop := fun a k => a = 116 ∧ (k = 8 ∨ k = 45) ∨ a = 141 ∨ a = 142 ∨ a = 136 ∧ 300 ≤ k ∨ a = 135 ∧ 4800 ≤ k ∨ a = 137 ∧ 5100 ≤ k
theorem s189_1 {M : sm_M} {s : Nat → Nat} {n p : Nat} {T : Tt} (hS : SH M) (hT : wT T) (hM : mTr M T) (hp : p < T 0 0 0) (hn : T 3 p 0 = n) (hs : ∀ i, i < n → s i < 128) (hL : ∀ i, i < n → iV M 141 i = Int32.ofNat (s i)) : ∀ (d i : Nat), n - i = d → i ≤ n → (∀ j, j < i → T 1 p j = s j) → sm_w 189 (14, [some (.ref 116), some (.int (Int32.ofNat (300 + p))), some (.int (Int32.ofNat n)), some (.int (Int32.ofNat i))], []) M (rI (fun v M2 => (v = 1 ∧ pmq T s n p ∨ v = 0 ∧ ¬ pmq T s n p) ∧ M2 = M)) := by
  obtain ⟨⟨w0, w1⟩, w2, w3, w4, w5⟩ := hT.2.1 p hp
  have hE := hT.1
  obtain ⟨u1, u2, u3⟩ := hM.2.1 p hp
  intro d
  induction d with
  | zero =>
    intro i hd hi hj
    have ei : i = n := by omega
    subst ei
    exact g189_1 hS ⟨fun _ => ⟨Or.inl ⟨rfl, hn, hj⟩, rfl⟩, fun c => absurd ((o_le (by omega) (by omega)).mpr (Nat.le_refl _)) c⟩
  | succ d ih =>
    intro i hd hi hj
    have s1 := hs i (by omega)
    have w6 := w2 i (by omega)
    refine g189_1 hS ?_
    rw [show (16 : Int32) * Int32.ofNat (300 + p) + Int32.ofNat i = Int32.ofNat (16 * (300 + p) + i) from by rw [show (16 : Int32) = Int32.ofNat 16 from rfl, ← Int32.ofNat_mul, ← Int32.ofNat_add], o_cl (n := 16 * (300 + p) + i) (by omega), o_cl (n := i) (by omega), u2 i (by omega), hL i (by omega), o_eq (by omega) (by omega), o_s]
    refine ⟨fun c => absurd ((o_le (by omega) (by omega)).mp c) (by omega), fun _ => ⟨(o_in (by omega)).mpr (by omega), (o_in (by omega)).mpr (by omega), fun c => ih (i + 1) (by omega) (by omega) fun j hj2 => ?_, fun c => ⟨Or.inr ⟨rfl, fun z => c (z.2 i (by omega))⟩, rfl⟩⟩⟩
    by_cases ej : j = i
    · rw [ej]; exact c
    · exact hj j (by omega)
theorem s189 {M : sm_M} {s : Nat → Nat} {n p : Nat} {T : Tt} (hS : SH M) (hT : wT T) (hM : mTr M T) (hp : p < T 0 0 0) (hn : n ≤ 14) (hs : ∀ i, i < n → s i < 128) (hL : ∀ i, i < n → iV M 141 i = Int32.ofNat (s i)) : sm_cI 189 [.ref 116, .int (Int32.ofNat (300 + p)), .int (Int32.ofNat n)] M (fun v M2 => (v = 1 ∧ pmq T s n p ∨ v = 0 ∧ ¬ pmq T s n p) ∧ M2 = M) := by
  obtain ⟨⟨w0, w1⟩, w2, w3, w4, w5⟩ := hT.2.1 p hp
  have hE := hT.1
  obtain ⟨u1, u2, u3⟩ := hM.2.1 p hp
  refine g189_0 hS ?_
  rw [o_cl (n := 300 + p) (by omega), u1, o_eq (by omega) (by omega)]
  exact ⟨(o_in (by omega)).mpr (by omega), fun c => s189_1 hS hT hM hp c hs hL _ 0 rfl (Nat.zero_le _) fun j hj => by omega, fun c => ⟨Or.inr ⟨rfl, fun z => c z.1⟩, rfl⟩⟩
/-- the digits are kept -/
theorem s188_7 {g : Nat → Nat} {n q : Nat} {K : sm_M → Prop} (hn : n ≤ 14) (hr : q < 300) (hg9 : ∀ i, g i ≤ 9) (hA1 : ∀ i, i ≤ n → (iV A 142 i = -1 ∧ g i = 0 ∨ iV A 142 i = Int32.ofNat (g i))) (hk : ∀ M2, SH M2 → (∀ i, i ≤ n → iV M2 137 (17 * (300 + q) + i) = Int32.ofNat (g i)) → Fr (fun a k => a = 137 ∧ 17 * (300 + q) ≤ k ∧ k ≤ 17 * (300 + q) + n) A M2 → K M2) : ∀ (d k : Nat), n + 1 - k = d → k ≤ n + 1 → ∀ M, SH M → (∀ i, i < k → iV M 137 (17 * (300 + q) + i) = Int32.ofNat (g i)) → Fr (fun a k => a = 137 ∧ 17 * (300 + q) ≤ k ∧ k ≤ 17 * (300 + q) + n) A M → sm_w 188 (355, [some (.ref 116), none, none, some (.int (Int32.ofNat n)), none, none, none, none, none, some (.int (Int32.ofNat (q + 300))), some (.int (Int32.ofNat k))], []) M (rV K) := by
  intro d
  induction d with
  | zero =>
    intro k hd hk2 M hS hD hA
    have e : k = n + 1 := by omega
    subst e
    exact g188_7 hS ⟨fun _ => hk M hS (fun i hi => hD i (by omega)) hA, fun c => absurd ((o_lt (by omega) (by omega)).mpr (by omega)) c⟩
  | succ d ih =>
    intro k hd hk2 M hS hD hA
    refine g188_7 hS ?_
    have h142 : iV M 142 k = iV A 142 k := hA.2.1 142 k (by omega)
    have g9 := hg9 k
    rw [show (17 : Int32) * Int32.ofNat (q + 300) + Int32.ofNat k = Int32.ofNat (17 * (300 + q) + k) from by rw [show (17 : Int32) = Int32.ofNat 17 from rfl, ← Int32.ofNat_mul, ← Int32.ofNat_add, Nat.add_comm 300], o_cl (n := 17 * (300 + q) + k) (by omega), o_cl (n := k) (by omega), h142, o_s]
    have v40 : vp_in (Int32.ofNat k) 40 := (o_in (by omega)).mpr (by omega)
    have v37 : vp_in (Int32.ofNat (17 * (300 + q) + k)) 10200 := (o_in (by omega)).mpr (by omega)
    have go : ∀ M7 x, SH M7 → M7 = sm_wI M 137 (17 * (300 + q) + k) x → x = Int32.ofNat (g k) → sm_w 188 (355, [some (.ref 116), none, none, some (.int (Int32.ofNat n)), none, none, none, none, none, some (.int (Int32.ofNat (q + 300))), some (.int (Int32.ofNat (k + 1)))], []) M7 (rV K) := fun M7 x s7 e7 hx => by
      refine ih (k + 1) (by omega) (by omega) M7 s7 (fun i hi => ?_) (by rw [e7]; exact hA.wI ⟨rfl, by omega, by omega⟩)
      rw [e7, iV_wI]
      by_cases ei : i = k
      · rw [if_pos ⟨rfl, by omega⟩, ei]; exact hx
      · rw [if_neg (by omega)]; exact hD i (by omega)
    refine ⟨fun c => absurd ((o_lt (by omega) (by omega)).mp c) (by omega), fun _ => ⟨v40, fun c => ⟨v40, v37, fun M4 s4 e4 => go M4 _ s4 e4 ?_⟩, fun c => ⟨v37, fun M7 s7 e7 => go M7 _ s7 e7 ?_⟩⟩⟩
    · rcases hA1 k (by omega) with y | y
      · rw [y.1] at c; exact absurd c (by decide)
      · exact y
    · rcases hA1 k (by omega) with y | y
      · rw [y.2]; rfl
      · rw [y] at c; exact absurd (Int32.not_lt.mp (o_nn (by omega))) c
/-- the signs are kept -/
theorem s188_6 {s g : Nat → Nat} {n q : Nat} {K : sm_M → Prop} (hn : n ≤ 14) (hr : q < 300) (hg9 : ∀ i, g i ≤ 9) (hA0 : ∀ i, i < n → iV A 141 i = Int32.ofNat (s i)) (hA1 : ∀ i, i ≤ n → (iV A 142 i = -1 ∧ g i = 0 ∨ iV A 142 i = Int32.ofNat (g i))) (hk : ∀ M2, SH M2 → (∀ i, i < n → iV M2 135 (16 * (300 + q) + i) = Int32.ofNat (s i)) → (∀ i, i ≤ n → iV M2 137 (17 * (300 + q) + i) = Int32.ofNat (g i)) → Fr (fun a k => a = 135 ∧ 16 * (300 + q) ≤ k ∧ k < 16 * (300 + q) + n ∨ a = 137 ∧ 17 * (300 + q) ≤ k ∧ k ≤ 17 * (300 + q) + n) A M2 → K M2) : ∀ (d k : Nat), n - k = d → k ≤ n → ∀ M, SH M → (∀ i, i < k → iV M 135 (16 * (300 + q) + i) = Int32.ofNat (s i)) → Fr (fun a k => a = 135 ∧ 16 * (300 + q) ≤ k ∧ k < 16 * (300 + q) + n) A M → sm_w 188 (320, [some (.ref 116), none, none, some (.int (Int32.ofNat n)), none, none, none, none, none, some (.int (Int32.ofNat (q + 300))), some (.int (Int32.ofNat k))], []) M (rV K) := by
  intro d
  induction d with
  | zero =>
    intro k hd hk2 M hS hD hA
    have e : k = n := by omega
    subst e
    refine g188_6 hS ⟨fun _ => ?_, fun c => absurd ((o_le (by omega) (by omega)).mpr (Nat.le_refl _)) c⟩
    refine s188_7 (A := M) (g := g) hn hr hg9 (fun i hi => by rw [hA.2.1 _ _ (by omega)]; exact hA1 i hi) (fun M2 s2 hD2 f2 => hk M2 s2 (fun i hi => by rw [f2.2.1 _ _ (by omega)]; exact hD i hi) hD2 ((hA.mono fun a j z => Or.inl z).tr (f2.mono fun a j z => Or.inr z))) _ 0 rfl (Nat.zero_le _) M hS (fun i hi => by omega) (Fr.rf _ _)
  | succ d ih =>
    intro k hd hk2 M hS hD hA
    refine g188_6 hS ?_
    rw [show (16 : Int32) * Int32.ofNat (q + 300) + Int32.ofNat k = Int32.ofNat (16 * (300 + q) + k) from by rw [show (16 : Int32) = Int32.ofNat 16 from rfl, ← Int32.ofNat_mul, ← Int32.ofNat_add, Nat.add_comm 300], o_cl (n := 16 * (300 + q) + k) (by omega), o_cl (n := k) (by omega), hA.2.1 141 k (by omega), hA0 k (by omega), o_s]
    refine ⟨fun c => absurd ((o_le (by omega) (by omega)).mp c) (by omega), fun _ => ⟨(o_in (by omega)).mpr (by omega), (o_in (by omega)).mpr (by omega), fun M3 s3 e3 => ?_⟩⟩
    refine ih (k + 1) (by omega) (by omega) M3 s3 (fun i hi => ?_) (by rw [e3]; exact hA.wI ⟨rfl, by omega, by omega⟩)
    rw [e3, iV_wI]
    by_cases ei : i = k
    · rw [if_pos ⟨rfl, by omega⟩, ei]
    · rw [if_neg (by omega)]; exact hD i (by omega)
/-- the pattern is sought, and told -/
theorem s188_5 {s g : Nat → Nat} {n wf : Nat} {T : Tt} {M : sm_M} {K : sm_M → Prop} (hS : SH M) (hT : wT T) (hwf : wf ≤ 8192) (hn : n ≤ 14) (hs : ∀ i, i < n → s i < 128) (hg9 : ∀ i, g i ≤ 9) (h8 : iV M 116 8 = -1) (hM : mTr M T) (hL : ∀ i, i < n → iV M 141 i = Int32.ofNat (s i)) (hP : ∀ i, i ≤ n → (iV M 142 i = -1 ∧ g i = 0 ∨ iV M 142 i = Int32.ofNat (g i))) (hkn : ¬ rmP T s n → ∀ M2, SH M2 → M2 = sm_wI M 116 8 (Int32.ofNat wf) → K M2) (hky : rmP T s n → ∀ M2, SH M2 → mTr M2 (tPt T s n g) → iV M2 116 8 = -1 → Fr ppt M M2 → K M2) : ∀ (d k : Nat), T 0 0 0 - k = d → k ≤ T 0 0 0 → (∀ j, j < k → ¬ pmq T s n j) → sm_w 188 (241, [some (.ref 116), some (.int (Int32.ofNat wf)), none, some (.int (Int32.ofNat n)), none, none, none, none, none, some (.int (Int32.ofNat k)), none], []) M (rV K) := by
  have hE := hT.1
  have tell : ∀ k, k ≤ T 0 0 0 → pxq T s n = k → ((Int32.ofNat k = (300 : Int32) → sm_cV 177 [.ref 116, .int (Int32.ofNat wf)] M (fun M1 => SH M1 → K M1)) ∧ (¬ Int32.ofNat k = (300 : Int32) → ((Int32.ofNat k = (iV M 116 45) → ∀ M4, SH M4 → M4 = sm_wI M 116 45 ((iV M 116 45) + (1 : Int32)) → (vp_in (Int32.ofNat k + (300 : Int32)) 600) ∧ ∀ M7, SH M7 → M7 = sm_wI M4 136 (Int32.ofNat k + (300 : Int32)).toNatClampNeg (Int32.ofNat n) → sm_w 188 (320, [some (.ref 116), none, none, some (.int (Int32.ofNat n)), none, none, none, none, none, some (.int (Int32.ofNat k + (300 : Int32))), some (.int ((0 : Int32)))], []) M7 (rV K)) ∧ (¬ Int32.ofNat k = (iV M 116 45) → (vp_in (Int32.ofNat k + (300 : Int32)) 600) ∧ ∀ M10, SH M10 → M10 = sm_wI M 136 (Int32.ofNat k + (300 : Int32)).toNatClampNeg (Int32.ofNat n) → sm_w 188 (320, [some (.ref 116), none, none, some (.int (Int32.ofNat n)), none, none, none, none, none, some (.int (Int32.ofNat k + (300 : Int32))), some (.int ((0 : Int32)))], []) M10 (rV K))))) := fun k hk ek => by
    rw [hM.1.1, show Int32.ofNat k + (300 : Int32) = Int32.ofNat (k + 300) from (Int32.ofNat_add k 300).symm, o_s, o_eq (by omega) (by omega)]
    refine ⟨fun c => ?_, fun c => ?_⟩
    · have c60 := (o_eq (m := 300) (by omega) (by omega)).mp c
      exact (s177 hS h8).mono fun M1 e1 s1 => hkn (fun z => by rcases z with z | z <;> omega) M1 s1 e1
    · have c60 : ¬ k = 300 := fun z => c (by rw [z]; rfl)
      have hr : rmP T s n := by unfold rmP; omega
      have vi : vp_in (Int32.ofNat (k + 300)) 600 := (o_in (by omega)).mpr (by omega)
      rw [o_cl (n := k + 300) (by omega)]
      have fin : ∀ M7, SH M7 → Fr (fun a j => a = 116 ∧ j = 45 ∨ a = 136 ∧ j = 300 + k) M M7 → iV M7 116 45 = Int32.ofNat (tPt T s n g 0 0 0) → iV M7 136 (300 + k) = Int32.ofNat n → sm_w 188 (320, [some (.ref 116), none, none, some (.int (Int32.ofNat n)), none, none, none, none, none, some (.int (Int32.ofNat (k + 300))), some (.int ((0 : Int32)))], []) M7 (rV K) := fun M7 s7 f7 a45 a136 => by
        rw [← ek]
        refine s188_6 (A := M7) (s := s) (g := g) hn (by omega) hg9 (fun i hi => by rw [f7.2.1 _ _ (by omega)]; exact hL i hi) (fun i hi => by rw [f7.2.1 _ _ (by omega)]; exact hP i hi) (fun M2 s2 hD hD2 f2 => ?_) _ 0 rfl (Nat.zero_le _) M7 s7 (fun i hi => by omega) (Fr.rf _ _)
        have e0 : ∀ a b c, ¬ (a = 1 ∨ a = 2 ∨ a = 3) → ¬ (a = 0 ∧ b = 0 ∧ c = 0) → tPt T s n g a b c = T a b c := fun a b c z1 z2 => tPt_x (fun z => z1 z.1) z2
        have i2 : ∀ a j, ¬ (a = 135 ∧ 16 * (300 + pxq T s n) ≤ j ∧ j < 16 * (300 + pxq T s n) + n ∨ a = 137 ∧ 17 * (300 + pxq T s n) ≤ j ∧ j ≤ 17 * (300 + pxq T s n) + n) → ¬ (a = 116 ∧ j = 45 ∨ a = 136 ∧ j = 300 + k) → iV M2 a j = iV M a j := fun a j z1 z2 => by rw [f2.2.1 _ _ z1, f7.2.1 _ _ z2]
        refine hky hr M2 s2 ⟨⟨?_, ?_, ?_, ?_⟩, fun p hp => ?_, fun e he => ?_⟩ (by rw [i2 _ _ (by omega) (by omega)]; exact h8) ((f7.mono (q := ppt) fun a j z => by unfold ppt; omega).tr (f2.mono fun a j z => by unfold ppt; omega))
        · rw [f2.2.1 _ _ (by omega)]; exact a45
        · rw [e0 _ _ _ (by omega) (by omega), i2 _ _ (by omega) (by omega)]; exact hM.1.2.1
        · rw [e0 _ _ _ (by omega) (by omega), i2 _ _ (by omega) (by omega)]; exact hM.1.2.2.1
        · rw [e0 _ _ _ (by omega) (by omega), i2 _ _ (by omega) (by omega)]; exact hM.1.2.2.2
        · by_cases ep : p = pxq T s n
          · rw [ep, tPt_3]
            refine ⟨by rw [ek, f2.2.1 _ _ (by omega)]; exact a136, fun i hi => ?_, fun i hi => ?_⟩
            · rw [tPt_1]; exact hD i hi
            · rw [tPt_2]; exact hD2 i hi
          · have hp2 : p < T 0 0 0 := by
              rw [tPt_0] at hp
              by_cases z : pxq T s n < T 0 0 0
              · rw [if_pos z] at hp; exact hp
              · rw [if_neg z] at hp; omega
            obtain ⟨b1, b2, b3⟩ := hM.2.1 p hp2
            have w3 := (hT.2.1 p hp2).1.2
            rw [tPt_x (a := 3) (by omega) (by omega)]
            refine ⟨by rw [i2 _ _ (by omega) (by omega)]; exact b1, fun i hi => ?_, fun i hi => ?_⟩
            · rw [tPt_x (a := 1) (by omega) (by omega), i2 _ _ (by omega) (by omega)]; exact b2 i hi
            · rw [tPt_x (a := 2) (by omega) (by omega), i2 _ _ (by omega) (by omega)]; exact b3 i hi
        · rw [e0 _ _ _ (by omega) (by omega)] at he
          obtain ⟨b1, b2⟩ := hM.2.2 e he
          rw [e0 6 _ _ (by omega) (by omega)]
          refine ⟨by rw [i2 _ _ (by omega) (by omega)]; exact b1, fun i hi => ?_⟩
          rw [e0 4 _ _ (by omega) (by omega), e0 5 _ _ (by omega) (by omega), i2 _ _ (by omega) (by omega), i2 _ _ (by omega) (by omega)]
          exact b2 i hi
      refine ⟨fun c2 M4 s4 e4 => ⟨vi, fun M7 s7 e7 => fin M7 s7 ?_ ?_ ?_⟩, fun c2 => ⟨vi, fun M10 s10 e10 => fin M10 s10 ?_ ?_ ?_⟩⟩
      · rw [e7, e4]; exact ((Fr.rf _ _).wI (Or.inl ⟨rfl, rfl⟩)).wI (Or.inr ⟨rfl, by omega⟩)
      · rw [tPt_0, if_neg (by omega), e7, iV_wI, if_neg (by omega), e4, iV_wI, if_pos ⟨rfl, rfl⟩]
      · rw [e7, iV_wI, if_pos ⟨rfl, by omega⟩]
      · rw [e10]; exact (Fr.rf _ _).wI (Or.inr ⟨rfl, by omega⟩)
      · rw [tPt_0, if_pos (by omega), e10, iV_wI, if_neg (by omega)]; exact hM.1.1
      · rw [e10, iV_wI, if_pos ⟨rfl, by omega⟩]
  intro d
  induction d with
  | zero =>
    intro k hd hk hj
    have e : k = T 0 0 0 := by omega
    subst e
    have t := tell (T 0 0 0) (Nat.le_refl _) (pxq_u hj (Nat.le_refl _) (Or.inl rfl))
    refine g188_5 hS ⟨fun _ => t, fun c => absurd ?_ c⟩
    rw [hM.1.1]
    exact (o_le (by omega) (by omega)).mpr (Nat.le_refl _)
  | succ d ih =>
    intro k hd hk hj
    refine g188_5 hS ⟨fun c => ?_, fun _ => ?_⟩
    · rw [hM.1.1] at c
      exact absurd ((o_le (by omega) (by omega)).mp c) (by omega)
    · rw [show (300 : Int32) + Int32.ofNat k = Int32.ofNat (300 + k) from (Int32.ofNat_add 300 k).symm]
      refine (s189 hS hT hM (show k < T 0 0 0 by omega) hn hs hL).mono fun v13 M12 k12 s12 => ?_
      obtain ⟨k121, k122⟩ := k12
      subst k122
      rcases k121 with ⟨y1, y2⟩ | ⟨y1, y2⟩
      · rw [y1]
        exact ⟨fun c => absurd c (by decide), fun _ => tell k (by omega) (pxq_u hj (by omega) (Or.inr y2))⟩
      · rw [y1, o_s]
        refine ⟨fun _ => ih (k + 1) (by omega) (by omega) fun j hj2 => ?_, fun c => absurd rfl c⟩
        by_cases ej : j = k
        · rw [ej]; exact y2
        · exact hj j (by omega)
def Q188 (A : sm_M) (T : Tt) (tb : Nat → Nat) (wf wt : Nat) (M2 : sm_M) : Prop := ((okY tb wf wt ∧ rmP T (ySs tb wf wt) (ynn tb wf wt)) ∧ iV M2 116 8 = -1 ∧ mTr M2 (tPt T (ySs tb wf wt) (ynn tb wf wt) (yDd tb wf wt)) ∨ ¬ (okY tb wf wt ∧ rmP T (ySs tb wf wt) (ynn tb wf wt)) ∧ iV M2 116 8 = Int32.ofNat wf) ∧ Fr ppt A M2
theorem s188_f {M : sm_M} {wf : Nat} {x2 x3 x4 x6 x7 : Int32} {K : sm_M → Prop} (hS : SH M) (h8 : iV M 116 8 = -1) (hk : ∀ M2, SH M2 → M2 = sm_wI M 116 8 (Int32.ofNat wf) → K M2) : sm_w 188 (75, [some (.ref 116), some (.int (Int32.ofNat wf)), some (.int (x2)), some (.int (x3)), some (.int (x4)), none, some (.int (x6)), some (.int (x7)), some (.int ((0 : Int32))), none, none], []) M (rV K) := by
  have w := (s177 (x := Int32.ofNat wf) hS h8).mono fun M1 e1 (s1 : SH M1) => hk M1 s1 e1
  have f : sm_w 188 (222, [some (.ref 116), some (.int (Int32.ofNat wf)), none, some (.int (x3)), none, none, some (.int (x6)), none, some (.int ((0 : Int32))), none, none], []) M (rV K) := g188_4 hS ⟨fun _ => w, fun c => absurd rfl c⟩
  exact g188_2 hS ⟨fun _ => f, fun _ => ⟨fun _ => f, fun c => absurd rfl c⟩⟩
/-- row 142 as far as j -/
def dgI (M : sm_M) (tb : Nat → Nat) (b0 l j : Nat) : Prop := (∀ k, k < 40 → (iV M 142 k = -1 ∧ yD tb b0 l j k = 0 ∨ iV M 142 k = Int32.ofNat (yD tb b0 l j k))) ∧ (∀ k, k < 40 → l + xl tb b0 j < k → iV M 142 k = -1) ∧ (lsd tb b0 j → iV M 142 (l + xl tb b0 j) = Int32.ofNat (yD tb b0 l j (l + xl tb b0 j))) ∧ (¬ lsd tb b0 j → iV M 142 (l + xl tb b0 j) = -1)
theorem s188_2 {wf wt : Nat} {T : Tt} (hT : wT T) (hR : mR A tb tn) (hn : tn ≤ 8192) (hB : ∀ i, i < tn → tb i < 256) (h1 : wf < wt) (h2 : wt ≤ tn) (h8 : iV A 116 8 = -1) (hM : mTr A T) : ∀ (d j : Nat), plen tb wf wt - j = d → j ≤ plen tb wf wt → yg tb (wf + pld tb wf) j → ∀ M, SH M → (∀ i, i < pld tb wf + xl tb (wf + pld tb wf) j → iV M 141 i = Int32.ofNat (yS tb (wf + pld tb wf) (pld tb wf) j i)) → dgI M tb (wf + pld tb wf) (pld tb wf) j → Fr (fun a _ => a = 141 ∨ a = 142) A M → sm_w 188 (75, [some (.ref 116), some (.int (Int32.ofNat wf)), some (.int (Int32.ofNat wt)), some (.int (Int32.ofNat (pld tb wf + xl tb (wf + pld tb wf) j))), some (.int (Int32.ofNat (wf + pld tb wf + j))), none, some (.int (Int32.ofNat (xl tb (wf + pld tb wf) j))), some (.int ((0 : Int32))), some (.int ((1 : Int32))), none, none], []) M (rV (Q188 A T tb wf wt)) := by
  have l1 := pld_b tb wf
  have l2 := pdb_b tb wf wt
  have to := pto (tb := tb) h1
  have frx : ∀ {B C : sm_M}, Fr (fun a _ => a = 141 ∨ a = 142) B C → Fr ppt B C := fun f => f.mono fun a k z => by unfold ppt; omega
  have bad : ∀ M, Fr (fun a _ => a = 141 ∨ a = 142) A M → ¬ okY tb wf wt → ∀ M2, SH M2 → M2 = sm_wI M 116 8 (Int32.ofNat wf) → Q188 A T tb wf wt M2 := fun M f z M2 s2 e2 => ⟨Or.inr ⟨fun y => z y.1, by rw [e2, iV_wI, if_pos ⟨rfl, rfl⟩]⟩, by rw [e2]; exact (frx f).wI (Or.inl ⟨rfl, Or.inl rfl⟩)⟩
  -- behind all signs
  have fin : ∀ M x7, SH M → Fr (fun a _ => a = 141 ∨ a = 142) A M → yg tb (wf + pld tb wf) (plen tb wf wt) → (∀ i, i < ynn tb wf wt → iV M 141 i = Int32.ofNat (ySs tb wf wt i)) → dgI M tb (wf + pld tb wf) (pld tb wf) (plen tb wf wt) → sm_w 188 (75, [some (.ref 116), some (.int (Int32.ofNat wf)), some (.int (Int32.ofNat wt)), some (.int (Int32.ofNat (ynn tb wf wt))), some (.int (Int32.ofNat wt)), none, some (.int (Int32.ofNat (xl tb (wf + pld tb wf) (plen tb wf wt)))), some (.int (x7)), some (.int ((1 : Int32))), none, none], []) M (rV (Q188 A T tb wf wt)) := fun M x7 hS hA hg hL hD => by
    have x12 := yg_x _ hg
    have h8M : iV M 116 8 = -1 := by rw [hA.2.1 _ _ (by omega)]; exact h8
    have F := frx hA
    refine g188_2 hS ⟨fun _ => ?_, fun c => absurd ((o_le (by omega) (by omega)).mpr (Nat.le_refl _)) c⟩
    refine g188_4 hS ⟨fun c => absurd c (by decide), fun _ => ⟨fun c => ?_, fun c => ?_⟩⟩
    · have c0 := (o_eq (m := 0) (by omega) (by omega)).mp c
      exact (s177 hS h8M).mono fun M1 e1 s1 => bad M hA (fun z => by have := z.2; omega) M1 s1 e1
    · have c0 : 0 < xl tb (wf + pld tb wf) (plen tb wf wt) := by
        rcases Nat.lt_or_ge 0 (xl tb (wf + pld tb wf) (plen tb wf wt)) with z | z
        · exact z
        · exact absurd (by rw [show xl tb (wf + pld tb wf) (plen tb wf wt) = 0 from by omega]; rfl) c
      have ok : okY tb wf wt := ⟨hg, c0⟩
      obtain ⟨q1, q2, q3, q4⟩ := ySs_i ok
      obtain ⟨i1, i2, i3, i4, i5, i6⟩ := yX_i (l := pld tb wf) _ ok.1
      exact s188_5 (g := yDd tb wf wt) hS hT (by omega) q3 q2 i6 h8M (hM.eq (fun k hk => hA.2.1 _ _ (by omega)) fun a k a1 a2 => hA.2.1 _ _ (by omega)) hL (fun i hi => hD.1 i (by omega)) (fun hno M2 s2 e2 => ⟨Or.inr ⟨fun y => hno y.2, by rw [e2, iV_wI, if_pos ⟨rfl, rfl⟩]⟩, by rw [e2]; exact F.wI (Or.inl ⟨rfl, Or.inl rfl⟩)⟩) (fun hr M2 s2 m2 z8 f2 => ⟨Or.inl ⟨⟨ok, hr⟩, z8, m2⟩, F.tr f2⟩) _ 0 rfl (Nat.zero_le _) fun j hj => by omega
  intro d
  induction d with
  | zero =>
    intro j hd hj hg M hS hL hD hA
    have ej : j = plen tb wf wt := by omega
    subst ej
    have x12 := yg_x _ hg
    by_cases cd : pdb tb wf wt = 1
    · have eS : ySs tb wf wt = tp (yS tb (wf + pld tb wf) (pld tb wf) (plen tb wf wt)) (pld tb wf + xl tb (wf + pld tb wf) (plen tb wf wt)) 46 := if_pos cd
      have eN : ynn tb wf wt = pld tb wf + xl tb (wf + pld tb wf) (plen tb wf wt) + 1 := by unfold ynn; omega
      have ed : wf + pld tb wf < wt ∧ tb (wt - 1) = 46 := by
        unfold pdb at cd
        by_cases z : wf + pld tb wf < wt ∧ tb (wt - 1) = 46
        · exact z
        · rw [if_neg z] at cd; omega
      have R := hR.fr hA ⟨by omega, fun k => by omega⟩
      have ep : wf + pld tb wf + plen tb wf wt = wt - 1 := by omega
      have t46 : tb (wt - 1) = 46 := ed.2
      have nd : ¬ dg (tb (wt - 1)) = true := fun z => by have := dg_48 z; omega
      have ns : ¬ sl (tb (wt - 1)) = true := fun z => by have := sl_97 z; omega
      rw [ep]
      refine g188_2 hS ?_
      rw [o_cl (n := wt - 1) (by omega), R.2 _ (by omega), P174 M (by omega), P173 M (by omega), o_cl (n := pld tb wf + xl tb (wf + pld tb wf) (plen tb wf wt)) (by omega), o_s, o_s, show wt - 1 + 1 = wt from by omega, t46, ← eN]
      refine ⟨fun c => absurd ((o_le (by omega) (by omega)).mp c) (by omega), fun _ => ⟨fun c => absurd c (by decide), fun _ => ⟨(o_in (by omega)).mpr (by omega), fun _ => ⟨fun _ => ⟨fun _ => ⟨fun _ => ⟨(o_in (by omega)).mpr (by omega), fun M3 s3 e3 => ?_⟩, fun c => absurd rfl c⟩, fun c => absurd (by rw [← t46]; exact ns) c⟩, fun c => absurd (by rw [← t46]; exact nd) c⟩, fun c => absurd rfl c⟩⟩⟩
      refine fin M3 1 s3 (by rw [e3]; exact hA.wI (Or.inl rfl)) hg (fun i hi => ?_) ?_
      · rw [eS, e3, iV_wI]
        by_cases ei : i = pld tb wf + xl tb (wf + pld tb wf) (plen tb wf wt)
        · rw [if_pos ⟨rfl, ei⟩, ei, tp_e]; rfl
        · rw [if_neg (fun z => ei z.2), tp_o _ _ _ ei]; exact hL i (by omega)
      · have i142 : ∀ k, iV M3 142 k = iV M 142 k := fun k => by rw [e3, iV_wI, if_neg (by omega)]
        exact ⟨fun k hk => by rw [i142]; exact hD.1 k hk, fun k k1 k2 => by rw [i142]; exact hD.2.1 k k1 k2, fun z => by rw [i142]; exact hD.2.2.1 z, fun z => by rw [i142]; exact hD.2.2.2 z⟩
    · have eS : ySs tb wf wt = yS tb (wf + pld tb wf) (pld tb wf) (plen tb wf wt) := if_neg cd
      have eN : ynn tb wf wt = pld tb wf + xl tb (wf + pld tb wf) (plen tb wf wt) := by unfold ynn; omega
      rw [show wf + pld tb wf + plen tb wf wt = wt from by omega, ← eN]
      exact fin M 0 hS hA hg (fun i hi => by rw [eS]; exact hL i (by omega)) hD
  | succ d ih =>
    intro j hd hj hg M hS hL hD hA
    have R := hR.fr hA ⟨by omega, fun k => by omega⟩
    have h8M : iV M 116 8 = -1 := by rw [hA.2.1 _ _ (by omega)]; exact h8
    have x12 := yg_x _ hg
    obtain ⟨i1, i2, i3, i4, i5, i6⟩ := yX_i (l := pld tb wf) _ hg
    have u : wf + pld tb wf + j < tn := by omega
    have hc := hB _ u
    have up : okY tb wf wt → yg tb (wf + pld tb wf) (j + 1) := fun z => yg_le (plen tb wf wt - (j + 1)) (j + 1) (by rw [show j + 1 + (plen tb wf wt - (j + 1)) = plen tb wf wt from by omega]; exact z.1)
    have bad0 : ∀ M2, Fr (fun a _ => a = 141 ∨ a = 142) A M2 → ¬ okY tb wf wt → ∀ x3 x4 x6 x7 : Int32, SH M2 → sm_w 188 (75, [some (.ref 116), some (.int (Int32.ofNat wf)), some (.int (Int32.ofNat wt)), some (.int (x3)), some (.int (x4)), none, some (.int (x6)), some (.int (x7)), some (.int ((0 : Int32))), none, none], []) M2 (rV (Q188 A T tb wf wt)) := fun M2 f2 z x3 x4 x6 x7 s2 => s188_f s2 (by rw [f2.2.1 _ _ (by omega)]; exact h8) (bad M2 f2 z)
    have v40 : vp_in (Int32.ofNat (pld tb wf + xl tb (wf + pld tb wf) j)) 40 := (o_in (by omega)).mpr (by omega)
    refine g188_2 hS ?_
    rw [o_cl (n := wf + pld tb wf + j) (by omega), R.2 _ u, P174 M hc, P173 M hc, o_cl (n := pld tb wf + xl tb (wf + pld tb wf) j) (by omega), o_s, o_s]
    refine ⟨fun c => absurd ((o_le (by omega) (by omega)).mp c) (by omega), fun _ => ⟨fun c => absurd c (by decide), fun _ => ⟨(o_in (by omega)).mpr (by omega), fun _ => ⟨fun cd => ⟨fun cs => ⟨fun c46 => ⟨v40, fun M3 s3 e3 => ?_⟩, fun c46 => ⟨v40, fun M6 s6 e6 => ?_⟩⟩, fun cs => ?_⟩, fun cd => ⟨v40, fun c0 => ⟨v40, fun M10 s10 e10 => ?_⟩, fun c0 => ⟨v40, fun M13 s13 e13 => ?_⟩⟩⟩, fun c => absurd rfl c⟩⟩⟩
    · -- a dot where none may stand
      have f3 : Fr (fun a _ => a = 141 ∨ a = 142) A M3 := by rw [e3]; exact hA.wI (Or.inl rfl)
      have no : ¬ okY tb wf wt := fun z => by
        rcases (up z).2 with w | w
        · exact cs w.1
        · exact cd w.1
      have e46 := (o_eq (m := 46) (by omega) (by omega)).mp c46
      have hlast : wf + pld tb wf + j + 1 < wt := by
        rcases Nat.lt_or_ge (wf + pld tb wf + j + 1) wt with z | z
        · exact z
        · exfalso
          have e1 : wf + pld tb wf + j = wt - 1 := by omega
          have e2 : pdb tb wf wt = 1 := by
            unfold pdb
            rw [if_pos ⟨by omega, by rw [← e1]; exact e46⟩]
          omega
      refine g188_2 s3 ⟨fun c => absurd ((o_le (by omega) (by omega)).mp c) (by omega), fun _ => ⟨fun c => absurd c (by decide), fun _ => ⟨(o_in (by omega)).mpr (by omega), fun c => absurd c (by decide), fun _ => ?_⟩⟩⟩
      exact bad0 M3 f3 no _ _ _ _ s3
    · have f6 : Fr (fun a _ => a = 141 ∨ a = 142) A M6 := by rw [e6]; exact hA.wI (Or.inl rfl)
      refine bad0 M6 f6 (fun z => ?_) _ _ _ _ s6
      rcases (up z).2 with w | w
      · exact cs w.1
      · exact cd w.1
    · -- a letter
      have csl := Classical.not_not.mp cs
      refine ⟨fun c12 => ?_, fun c12 => ?_⟩
      · have c3 := (o_le (n := 12) (by omega) (by omega)).mp c12
        refine g188_3 hS ⟨fun _ => bad0 M hA (fun z => ?_) _ _ _ _ hS, fun y => absurd rfl y⟩
        rcases (up z).2 with w | w
        · omega
        · exact cd w.1
      · have c3 : xl tb (wf + pld tb wf) j < 12 := by
          rcases Nat.lt_or_ge (xl tb (wf + pld tb wf) j) 12 with z | z
          · exact z
          · exact absurd ((o_le (n := 12) (by omega) (by omega)).mpr z) c12
        refine g188_3 hS ⟨fun y => absurd y (by decide), fun _ => ⟨v40, fun M2 s2 e2 => ?_⟩⟩
        rw [o_cl (n := pld tb wf + xl tb (wf + pld tb wf) j) (by omega)] at e2
        rw [o_s (pld tb wf + xl tb (wf + pld tb wf) j), o_s (wf + pld tb wf + j), o_s (xl tb (wf + pld tb wf) j)]
        have eS : yS tb (wf + pld tb wf) (pld tb wf) (j + 1) = tp (yS tb (wf + pld tb wf) (pld tb wf) j) (pld tb wf + xl tb (wf + pld tb wf) j) (tb (wf + pld tb wf + j)) := if_pos csl
        have eD : yD tb (wf + pld tb wf) (pld tb wf) (j + 1) = yD tb (wf + pld tb wf) (pld tb wf) j := if_neg cd
        have i142 : ∀ k, iV M2 142 k = iV M 142 k := fun k => by rw [e2, iV_wI, if_neg (by omega)]
        have nl : ¬ lsd tb (wf + pld tb wf) (j + 1) := fun z => cd (lsd_s.mp z)
        have z := ih (j + 1) (by omega) (by omega) ⟨hg, Or.inl ⟨csl, c3⟩⟩ M2 s2 (fun i hi => ?_) ⟨fun k hk => by rw [eD, i142]; exact hD.1 k hk, fun k k1 k2 => by rw [xl_y csl] at k2; rw [i142]; exact hD.2.1 k k1 (by omega), fun z => absurd z nl, fun _ => by rw [xl_y csl, i142]; exact hD.2.1 _ (by omega) (by omega)⟩ (by rw [e2]; exact hA.wI (Or.inl rfl))
        · rw [xl_y csl, show pld tb wf + (xl tb (wf + pld tb wf) j + 1) = pld tb wf + xl tb (wf + pld tb wf) j + 1 from by omega, show wf + pld tb wf + (j + 1) = wf + pld tb wf + j + 1 from by omega] at z
          exact z
        · rw [xl_y csl] at hi
          rw [eS, e2, iV_wI]
          by_cases ei : i = pld tb wf + xl tb (wf + pld tb wf) j
          · rw [if_pos ⟨rfl, ei⟩, ei, tp_e]
          · rw [if_neg (fun y => ei y.2), tp_o _ _ _ ei]; exact hL i (by omega)
    · -- a second digit
      have f10 : Fr (fun a _ => a = 141 ∨ a = 142) A M10 := by rw [e10]; exact hA.wI (Or.inr rfl)
      have hl : lsd tb (wf + pld tb wf) j := Classical.byContradiction fun z => by
        rw [hD.2.2.2 z] at c0
        exact absurd c0 (by decide)
      refine bad0 M10 f10 (fun z => ?_) _ _ _ _ s10
      rcases (up z).2 with w | w
      · exact sl_dg w.1 (Classical.not_not.mp cd)
      · exact w.2 hl
    · have cdg := Classical.not_not.mp cd
      have d9 := dg_48 cdg
      have ns : ¬ sl (tb (wf + pld tb wf + j)) = true := fun z => sl_dg z cdg
      have hl : ¬ lsd tb (wf + pld tb wf) j := fun z => by
        rw [hD.2.2.1 z] at c0
        have := i6 (pld tb wf + xl tb (wf + pld tb wf) j)
        exact absurd (Int32.not_lt.mp (o_nn (by omega))) c0
      rw [show (48 : Int32) = Int32.ofNat 48 from rfl, ← Int32.ofNat_sub _ _ (by omega)] at e13
      have eS : yS tb (wf + pld tb wf) (pld tb wf) (j + 1) = yS tb (wf + pld tb wf) (pld tb wf) j := if_neg ns
      have eD : yD tb (wf + pld tb wf) (pld tb wf) (j + 1) = tp (yD tb (wf + pld tb wf) (pld tb wf) j) (pld tb wf + xl tb (wf + pld tb wf) j) (tb (wf + pld tb wf + j) - 48) := if_pos cdg
      have z := ih (j + 1) (by omega) (by omega) ⟨hg, Or.inr ⟨cdg, hl⟩⟩ M13 s13 (fun i hi => by rw [xl_n ns] at hi; rw [eS, e13, iV_wI, if_neg (by omega)]; exact hL i hi) ⟨fun k hk => ?_, fun k k1 k2 => ?_, fun _ => ?_, fun z => absurd (lsd_s.mpr cdg) z⟩ (by rw [e13]; exact hA.wI (Or.inr rfl))
      · rw [xl_n ns, show wf + pld tb wf + (j + 1) = wf + pld tb wf + j + 1 from by omega] at z
        exact z
      · rw [eD, e13, iV_wI]
        by_cases ek : k = pld tb wf + xl tb (wf + pld tb wf) j
        · rw [if_pos ⟨rfl, ek⟩, ek, tp_e]; exact Or.inr rfl
        · rw [if_neg (fun y => ek y.2), tp_o _ _ _ ek]; exact hD.1 k hk
      · rw [xl_n ns] at k2
        rw [e13, iV_wI, if_neg (by omega)]; exact hD.2.1 k k1 k2
      · rw [xl_n ns, eD, tp_e, e13, iV_wI, if_pos ⟨rfl, rfl⟩]
theorem s188 {M : sm_M} {wf wt : Nat} {T : Tt} (hS : SH M) (hT : wT T) (hR : mR M tb tn) (hn : tn ≤ 8192) (hB : ∀ i, i < tn → tb i < 256) (h1 : wf < wt) (h2 : wt ≤ tn) (h8 : iV M 116 8 = -1) (hM : mTr M T) : sm_cV 188 [.ref 116, .int (Int32.ofNat wf), .int (Int32.ofNat wt)] M (Q188 M T tb wf wt) := by
  have l1 := pld_b tb wf
  have hb := hB wf (by omega)
  have start : ∀ M2, SH M2 → (∀ k, k < 40 → iV M2 142 k = -1) → Fr (fun a _ => a = 141 ∨ a = 142) M M2 → (∀ i, i < pld tb wf → iV M2 141 i = Int32.ofNat (yS tb (wf + pld tb wf) (pld tb wf) 0 i)) → sm_w 188 (75, [some (.ref 116), some (.int (Int32.ofNat wf)), some (.int (Int32.ofNat wt)), some (.int (Int32.ofNat (pld tb wf))), some (.int (Int32.ofNat (wf + pld tb wf))), none, some (.int ((0 : Int32))), some (.int ((0 : Int32))), some (.int ((1 : Int32))), none, none], []) M2 (rV (Q188 M T tb wf wt)) := fun M2 s2 hz f2 hL => by
    exact s188_2 (A := M) hT hR hn hB h1 h2 h8 hM _ 0 rfl (Nat.zero_le _) trivial M2 s2 hL ⟨fun k hk => Or.inl ⟨hz k hk, rfl⟩, fun k k1 k2 => hz k k1, fun z => by have := z.1; omega, fun _ => hz _ (by show pld tb wf + 0 < 40; omega)⟩ f2
  have clr : ∀ (d k : Nat), 40 - k = d → k ≤ 40 → ∀ M2, SH M2 → (∀ j, j < k → iV M2 142 j = -1) → Fr (fun a _ => a = 141 ∨ a = 142) M M2 → sm_w 188 (8, [some (.ref 116), some (.int (Int32.ofNat wf)), some (.int (Int32.ofNat wt)), some (.int ((0 : Int32))), some (.int (Int32.ofNat wf)), some (.int (Int32.ofNat k)), none, none, none, none, none], []) M2 (rV (Q188 M T tb wf wt)) := fun d => by
    induction d with
    | zero =>
      intro k hd hk2 M2 s2 hz f2
      have e : k = 40 := by omega
      subst e
      have R := hR.fr f2 ⟨by omega, fun k => by omega⟩
      refine g188_1 s2 ⟨fun _ => ?_, fun c => absurd ((o_le (n := 40) (m := 40) (by omega) (by omega)).mpr (Nat.le_refl _)) c⟩
      rw [o_cl (n := wf) (by omega), R.2 wf (by omega), o_s wf]
      refine ⟨(o_in (by omega)).mpr (by omega), fun c => ⟨(o_in (n := 0) (by omega)).mpr (by omega), fun M3 s3 e3 => ?_⟩, fun c => ?_⟩
      · have e46 := (o_eq (m := 46) (by omega) (by omega)).mp c
        have el : pld tb wf = 1 := by unfold pld; rw [if_pos e46]
        rw [show (0 : Int32).toNatClampNeg = 0 from rfl] at e3
        have z := start M3 s3 (fun k hk => by rw [e3, iV_wI, if_neg (by omega)]; exact hz k hk) (by rw [e3]; exact f2.wI (Or.inl rfl)) (fun i hi => ?_)
        · rw [el] at z
          exact z
        · have ei : i = 0 := by omega
          have eS : yS tb (wf + pld tb wf) (pld tb wf) 0 = tp (fun _ => 0) 0 46 := if_pos el
          rw [ei, eS, tp_e, e3, iV_wI, if_pos ⟨rfl, rfl⟩]
          rfl
      · have el : pld tb wf = 0 := by unfold pld; rw [if_neg (fun z => c (by rw [z]; rfl))]
        have z := start M2 s2 hz f2 (fun i hi => by omega)
        rw [el] at z
        exact z
    | succ d ih =>
      intro k hd hk2 M2 s2 hz f2
      refine g188_1 s2 ?_
      rw [o_cl (n := k) (by omega), o_s k]
      refine ⟨fun c => absurd ((o_le (n := 40) (by omega) (by omega)).mp c) (by omega), fun _ => ⟨(o_in (by omega)).mpr (by omega), fun M3 s3 e3 => ih (k + 1) (by omega) (by omega) M3 s3 (fun j hj => ?_) (by rw [e3]; exact f2.wI (Or.inr rfl))⟩⟩
      rw [e3, iV_wI]
      by_cases ej : j = k
      · rw [if_pos ⟨rfl, ej⟩]
      · rw [if_neg (fun z => ej z.2)]; exact hz j (by omega)
  exact g188_0 hS (clr _ 0 rfl (Nat.zero_le _) M hS (fun j hj => by omega) (Fr.rf _ _))
end HRP
