/-! THE CLASS'S LEVELS. -/
theorem cC.eq {M M2 : sm_M} {x0 N : Nat} {par sg : Nat → Nat} (h : cC M x0 N par sg) (e : ∀ a k, x0 ≤ a → a ≤ x0 + 8 → iV M2 a k = iV M a k) : cC M2 x0 N par sg := by
  obtain ⟨h1, h2, h3, h4, h5⟩ := h
  refine ⟨h1, by rw [e _ _ (by omega) (by omega)]; exact h2, fun y hy => by rw [e _ _ (by omega) (by omega)]; exact h3 y hy, fun y y1 hy => ?_, h5⟩
  rw [e _ _ (by omega) (by omega), e _ _ (by omega) (by omega)]
  exact h4 y y1 hy
theorem cG.eq {M M2 : sm_M} {x0 N : Nat} {par sg nd : Nat → Nat} {T : Nat → Nat → Nat → Nat} (h : cG M x0 N par sg nd T) (e : ∀ a k, x0 ≤ a → a ≤ x0 + 8 → iV M2 a k = iV M a k) (ej : ∀ k, jV M2 (x0 + 5) k = jV M (x0 + 5) k) : cG M2 x0 N par sg nd T := by
  obtain ⟨⟨h1, h2, h3, h4⟩, h5, h6, h7, h8⟩ := h
  refine ⟨⟨by rw [e _ _ (by omega) (by omega)]; exact h1, by rw [e _ _ (by omega) (by omega)]; exact h2, by rw [e _ _ (by omega) (by omega)]; exact h3, by rw [e _ _ (by omega) (by omega)]; exact h4⟩, h5, fun y hy => by rw [e _ _ (by omega) (by omega)]; exact h6 y hy, fun p hp => by rw [ej]; exact h7 p hp, fun x hx => ?_⟩
  obtain ⟨a1, a2, a3⟩ := h8 x hx
  refine ⟨by rw [e _ _ (by omega) (by omega)]; exact a1, fun i hi => by rw [e _ _ (by omega) (by omega)]; exact a2 i hi, fun k hk => by rw [e _ _ (by omega) (by omega)]; exact a3 k hk⟩
theorem cTb.eq {M M2 : sm_M} {x0 : Nat} {T : Nat → Nat → Nat → Nat} (h : cTb M x0 T) (e : ∀ a k, x0 ≤ a → a ≤ x0 + 8 → iV M2 a k = iV M a k) (ej : ∀ k, jV M2 (x0 + 5) k = jV M (x0 + 5) k) : cTb M2 x0 T := by
  obtain ⟨N, par, sg, nd, h1, h2⟩ := h
  exact ⟨N, par, sg, nd, h1.eq e, h2.eq e ej⟩
def plv (x0 : Nat) : Nat → Nat → Prop := fun a _ => a = x0 + 9
/-- levels raised at the first k places from f on -/
def upl (T : Nat → Nat → Nat → Nat) (q f : Nat) (V : Nat → Nat) (k j : Nat) : Nat := if f ≤ j ∧ j < f + k ∧ V j < dk T q (j - f) then dk T q (j - f) else V j
theorem s94_1 {A : sm_M} {x0 q f n : Nat} {x1 : Int64} {V : Nat → Nat} {T : Nat → Nat → Nat → Nat} (hx : fH x0) (hn : n ≤ 4000) (hf : f ≤ n) (hd : ∀ k, k ≤ 12 → ((x1 >>> (((4 : Int32) * Int32.ofNat k).toInt64 &&& 63)).toInt32 &&& (15 : Int32)) = Int32.ofNat (dk T q k)) (hd9 : ∀ k, dk T q k ≤ 9) (hV : ∀ j, j ≤ n → V j ≤ 9) : ∀ (d k : Nat), 13 - k = d → k ≤ 13 → f + k ≤ n + 1 → ∀ M, SH M → (∀ j, j ≤ n → iV M (x0 + 9) j = Int32.ofNat (upl T q f V k j)) → Fr (plv x0) A M → sm_w 94 (3, [some (.ref x0), some (.long (x1)), none, some (.int (Int32.ofNat f)), some (.int (Int32.ofNat n)), some (.int (Int32.ofNat k)), none], []) M (rV (fun M2 => (∀ j, j ≤ n → iV M2 (x0 + 9) j = Int32.ofNat (upl T q f V 13 j)) ∧ Fr (plv x0) A M2)) := by
  intro d
  induction d with
  | zero =>
    intro k hd hk hfk M hS hI hA
    have e : k = 13 := by omega
    subst e
    exact g94_1 hS hx ⟨fun _ => ⟨hI, hA⟩, fun c => absurd ((o_lt (n := 12) (by omega) (by omega)).mpr (by omega)) c⟩
  | succ d ih =>
    intro k hdk hk hfk M hS hI hA
    refine g94_1 hS hx ⟨fun c => absurd ((o_lt (n := 12) (by omega) (by omega)).mp c) (by omega), fun _ => ?_⟩
    rw [show Int32.ofNat f + Int32.ofNat k = Int32.ofNat (f + k) from (Int32.ofNat_add f k).symm, o_lt (by omega) (by omega)]
    refine ⟨fun c => ⟨fun j hj => ?_, hA⟩, fun c => ⟨(o_in (by omega)).mpr (by omega), fun M2 s2 e2 => ?_⟩⟩
    · rw [hI j hj]
      congr 1
      unfold upl
      by_cases z : f ≤ j ∧ j < f + k ∧ V j < dk T q (j - f)
      · rw [if_pos z, if_pos ⟨z.1, by omega, z.2.2⟩]
      · rw [if_neg z, if_neg (fun w => z ⟨w.1, by omega, w.2.2⟩)]
    · rw [hd k (by omega), o_cl (by omega), hI (f + k) (by omega)] at e2
      have eu : upl T q f V k (f + k) = V (f + k) := by unfold upl; rw [if_neg (by omega)]
      rw [eu] at e2
      have v9 := hV (f + k) (by omega)
      have d9 := hd9 k
      rw [o_s]
      refine ih (k + 1) (by omega) (by omega) (by omega) M2 s2 (fun j hj => ?_) (by rw [e2]; exact hA.wI rfl)
      rw [e2, iV_wI]
      by_cases ej : j = f + k
      · subst ej
        rw [if_pos ⟨rfl, rfl⟩]
        unfold upl
        rw [show f + k - f = k from by omega]
        by_cases z : V (f + k) < dk T q k
        · rw [if_pos ((o_lt (by omega) (by omega)).mpr z), if_pos ⟨by omega, by omega, z⟩]
        · rw [if_neg (fun w => z ((o_lt (by omega) (by omega)).mp w)), if_neg (fun w => z w.2.2)]
      · rw [if_neg (by omega), hI j hj]
        congr 1
        unfold upl
        by_cases z : f ≤ j ∧ j < f + k ∧ V j < dk T q (j - f)
        · rw [if_pos z, if_pos ⟨z.1, by omega, z.2.2⟩]
        · rw [if_neg z, if_neg (fun w => z ⟨w.1, by omega, w.2.2⟩)]
theorem s94 {M : sm_M} {x0 q f n : Nat} {x1 : Int64} {V : Nat → Nat} {T : Nat → Nat → Nat → Nat} (hS : SH M) (hx : fH x0) (hn : n ≤ 4000) (hf : f ≤ n) (hd : ∀ k, k ≤ 12 → ((x1 >>> (((4 : Int32) * Int32.ofNat k).toInt64 &&& 63)).toInt32 &&& (15 : Int32)) = Int32.ofNat (dk T q k)) (hd9 : ∀ k, dk T q k ≤ 9) (hV : ∀ j, j ≤ n → V j ≤ 9) (hI : ∀ j, j ≤ n → iV M (x0 + 9) j = Int32.ofNat (V j)) : sm_cV 94 [.ref x0, .long (x1), .int (Int32.ofNat f), .int (Int32.ofNat n)] M (fun M2 => (∀ j, j ≤ n → iV M2 (x0 + 9) j = Int32.ofNat (upl T q f V 13 j)) ∧ Fr (plv x0) M M2) := by
  refine g94_0 hS hx (s94_1 (V := V) hx hn hf hd hd9 hV 13 0 (by omega) (by omega) (by omega) M hS (fun j hj => ?_) (Fr.rf _ _))
  rw [hI j hj]
  unfold upl
  rw [if_neg (by omega)]
/-- letters -/
def lt (c : Nat) : Bool := (97 ≤ c && c ≤ 122) || (65 ≤ c && c ≤ 90)
def sml (c : Nat) : Nat := if 65 ≤ c ∧ c ≤ 90 then c + 32 else c
theorem lt_sm {c : Nat} (h : lt c = true) : sml c < 128 ∧ ¬ sml c = 46 ∧ c < 128 ∧ ¬ c = 45 ∧ ¬ c = 32 ∧ 97 ≤ sml c ∧ sml c ≤ 122 := by
  unfold lt at h
  simp at h
  unfold sml
  split <;> omega
theorem p70_s (M : sm_M) {c : Nat} (h : c < 128) : p70_0 M (Int32.ofNat c) = Int32.ofNat (sml c) := by
  unfold p70_0 sml
  rw [show (65 : Int32) = Int32.ofNat 65 from rfl, show (90 : Int32) = Int32.ofNat 90 from rfl]
  by_cases a : c < 65
  · rw [if_pos ((o_lt (by omega) (by omega)).mpr a), if_neg (by omega)]
  · rw [if_neg (fun z => a ((o_lt (by omega) (by omega)).mp z))]
    by_cases b : 90 < c
    · rw [if_pos ((o_lt (by omega) (by omega)).mpr b), if_neg (by omega)]
    · rw [if_neg (fun z => b ((o_lt (by omega) (by omega)).mp z)), if_pos ⟨by omega, by omega⟩, ← Int32.ofNat_sub c 65 (by omega), show (97 : Int32) = Int32.ofNat 97 from rfl, ← Int32.ofNat_add]
      congr 1
      omega
/-- the row of letters with its dots -/
def rwd (n : Nat) (L : Nat → Nat) (j : Nat) : Nat := if j = 0 ∨ j = n + 1 then 46 else sml (L (j - 1))
/-- pattern p stands at a -/
def mt (T : Nat → Nat → Nat → Nat) (n : Nat) (r : Nat → Nat) (p a : Nat) : Prop := a + T 3 p 0 ≤ n + 2 ∧ ∀ i, i < T 3 p 0 → T 1 p i = r (a + i)
theorem dk_9 {T : Nat → Nat → Nat → Nat} (h : wT T) {q : Nat} (hq : q < T 0 0 0) (k : Nat) : dk T q k ≤ 9 := by
  unfold dk
  split
  · exact (h.2.1 q hq).2.2.1 _ (by assumption)
  · omega
/-- raising is taking one pattern more -/
theorem upl_s {T : Nat → Nat → Nat → Nat} (h : wT T) {q st n : Nat} {L : Nat → Nat} (hq : q < T 0 0 0) (hL : ∀ i, i < n → lt (L i) = true) (hst : st ≤ n) (hm : mt T n (rwd n L) q st) (V : Nat → Nat) (j : Nat) : upl T q (st - 1) V 13 j = if st ≤ j + 1 ∧ j + 1 ≤ st + T 3 q 0 ∧ V j < T 2 q (j + 1 - st) then T 2 q (j + 1 - st) else V j := by
  obtain ⟨⟨w1, w2⟩, w3, w4, w5, w6⟩ := h.2.1 q hq
  have m0 := hm.2 0 (by omega)
  rw [Nat.add_zero] at m0
  unfold upl dk
  rcases Nat.eq_zero_or_pos st with z | z
  · subst z
    have el : ld T q = 1 := by unfold ld; rw [if_pos (by rw [m0]; rfl)]
    rw [el]
    simp only [Nat.sub_zero, Nat.zero_sub, Nat.zero_add, Nat.zero_le, true_and]
    by_cases c : j + 1 ≤ T 3 q 0
    · rw [if_pos c]
      by_cases c2 : V j < T 2 q (j + 1)
      · by_cases c3 : j < 13
        · rw [if_pos ⟨c3, c2⟩, if_pos ⟨c, c2⟩]
        · have := w6 (j + 1) (by omega) c
          omega
      · rw [if_neg (fun y => c2 y.2), if_neg (fun y => c2 y.2)]
    · rw [if_neg c, if_neg (fun y => absurd y.2 (Nat.not_lt_zero _)), if_neg (fun y => c y.1)]
  · have e2 : rwd n L st = sml (L (st - 1)) := by unfold rwd; rw [if_neg (by omega)]
    have e3 := lt_sm (hL (st - 1) (by omega))
    have el : ld T q = 0 := by unfold ld; rw [if_neg (by rw [m0, e2]; exact e3.2.1)]
    rw [el]
    simp only [Nat.add_zero]
    by_cases c0 : st ≤ j + 1
    · rw [show j - (st - 1) = j + 1 - st from by omega]
      by_cases c : j + 1 - st ≤ T 3 q 0
      · rw [if_pos c]
        by_cases c2 : V j < T 2 q (j + 1 - st)
        · by_cases c3 : j < st - 1 + 13
          · rw [if_pos ⟨by omega, c3, c2⟩, if_pos ⟨c0, by omega, c2⟩]
          · have := w6 (j + 1 - st) (by omega) c
            omega
        · rw [if_neg (fun y => c2 y.2.2), if_neg (fun y => c2 y.2.2)]
      · rw [if_neg c, if_neg (fun y => absurd y.2.2 (Nat.not_lt_zero _)), if_neg (by omega)]
    · rw [if_neg (by omega), if_neg (by omega)]
