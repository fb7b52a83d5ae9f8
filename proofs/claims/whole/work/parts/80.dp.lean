/-! CHOOSING: the best rows, as a table of entries: cost, break before, kind before. -/
def pbk (e : Option (Nat × Nat × Nat)) : Nat := match e with
  | none => 0
  | some (_, b, _) => b
def bet (P Q : Nat → Option (Nat × Nat × Nat)) (i cl cost g : Nat) : Prop := match Q cl with
  | none => True
  | some (k, b, h) => cost < k ∨ (cost = k ∧ b = i ∧ pbk (P g) < pbk (P h))
noncomputable def cnd (D : Nat → Nat → Nat) (i j : Nat) (P : Nat → Option (Nat × Nat × Nat)) (g : Nat) (Q : Nat → Option (Nat × Nat × Nat)) : Nat → Option (Nat × Nat × Nat) := match P g with
  | none => Q
  | some (k, _, _) => fun c => @ite _ (c = eC D i j ∧ bet P Q i (eC D i j) (k + (alo D i j + beh D i j g)) g) (Classical.propDecidable _) (some (k + (alo D i j + beh D i j g), i, g)) (Q c)
/-- the lines from i to j -/
noncomputable def stp (D : Nat → Nat → Nat) (i j : Nat) (P : Nat → Option (Nat × Nat × Nat)) : Nat → (Nat → Option (Nat × Nat × Nat)) → (Nat → Option (Nat × Nat × Nat))
  | 0, Q => Q
  | g + 1, Q => cnd D i j P g (stp D i j P g Q)
def cE (M : sm_M) (s : Nat) (e : Option (Nat × Nat × Nat)) : Prop := match e with
  | none => jV M 37 s = -1
  | some (k, b, h) => jV M 37 s = Int64.ofNat k ∧ (4 ≤ s → iV M 38 s = Int32.ofNat b ∧ iV M 39 s = Int32.ofNat h)
def bE (m : Nat) (e : Option (Nat × Nat × Nat)) : Prop := match e with
  | none => True
  | some (k, b, h) => k ≤ m * 2100000000000 ∧ b ≤ 600 ∧ h ≤ 3
theorem j_m1 {k : Nat} (h : k < 9223372036854775808) : ¬ Int64.ofNat k = -1 := by
  rw [y_eq, j_ti h, show (-1 : Int64).toInt = -1 from rfl]
  omega
theorem alo_b {D : Nat → Nat → Nat} (hw : wK D) {i j : Nat} (hij : i < j) (hj : j ≤ D 12 0) (g : Nat) : alo D i j + beh D i j g ≤ 2100000000000 := by
  have hb := lb hw hij hj
  have hsq := sq_b (eB_le D i j)
  have h1 : pen D i j ≤ 5500 := by
    unfold pen
    repeat' split
    all_goals omega
  have h2 : lng D i j ≤ 2001300500000 := by
    unfold lng
    split <;> omega
  have h3 : beh D i j g ≤ 10000 := by
    unfold beh
    split <;> omega
  unfold alo
  omega
section DP
variable {D : Nat → Nat → Nat} {o i j : Nat} {P : Nat → Option (Nat × Nat × Nat)}
theorem cnd_n {g : Nat} {Q : Nat → Option (Nat × Nat × Nat)} (h : P g = none) : cnd D i j P g Q = Q := by
  unfold cnd
  rw [h]
theorem cnd_o {g c : Nat} {Q : Nat → Option (Nat × Nat × Nat)} (h : ¬ c = eC D i j) : cnd D i j P g Q c = Q c := by
  cases hp : P g with
  | none => rw [cnd_n hp]
  | some x =>
    obtain ⟨k, b, q⟩ := x
    unfold cnd
    rw [hp]
    exact if_neg (fun z => h z.1)
theorem cnd_t {g k b h : Nat} {Q : Nat → Option (Nat × Nat × Nat)} (hp : P g = some (k, b, h)) (hb : bet P Q i (eC D i j) (k + (alo D i j + beh D i j g)) g) : cnd D i j P g Q (eC D i j) = some (k + (alo D i j + beh D i j g), i, g) := by
  unfold cnd
  rw [hp]
  exact if_pos ⟨rfl, hb⟩
theorem cnd_f {g k b h : Nat} {Q : Nat → Option (Nat × Nat × Nat)} (hp : P g = some (k, b, h)) (hb : ¬ bet P Q i (eC D i j) (k + (alo D i j + beh D i j g)) g) : cnd D i j P g Q = Q := by
  unfold cnd
  rw [hp]
  funext c
  exact if_neg (fun z => hb z.2)
theorem stp_o {c : Nat} {Q : Nat → Option (Nat × Nat × Nat)} (h : ¬ c = eC D i j) : ∀ g, stp D i j P g Q c = Q c
  | 0 => rfl
  | g + 1 => (cnd_o h).trans (stp_o h g)
/-- what holds of the entry under way: from i itself only by an earlier kind -/
def sInv (P : Nat → Option (Nat × Nat × Nat)) (i g : Nat) (e : Option (Nat × Nat × Nat)) : Prop := ∀ k b h, e = some (k, b, h) → b = i → h < g ∧ ∃ x, P h = some x
def p789 (s : Nat) : Nat → Nat → Prop := fun a k => (a = 37 ∨ a = 38 ∨ a = 39) ∧ k = s
theorem s120_1 {A : sm_M} {Q : Nat → Option (Nat × Nat × Nat)} (ho : fS o) (hw : wK D) (hij : i < j) (hj : j ≤ D 12 0) (hP : ∀ c, c < 4 → bE i (P c)) (h0 : i = 0 → ∀ c, c < 4 → ¬ c = 1 → P c = none) : ∀ (d g : Nat), 4 - g = d → g ≤ 4 → ∀ M, SH M → cLine M 40 D i j → (∀ c, c < 4 → cE M (4 * i + c) (P c)) → cE M (4 * j + eC D i j) (stp D i j P g Q (eC D i j)) → bE j (stp D i j P g Q (eC D i j)) → sInv P i g (stp D i j P g Q (eC D i j)) → Fr (p789 (4 * j + eC D i j)) A M → sm_w 120 (31, [some (.ref 36), some (.ref o), some (.long (Int64.ofNat (alo D i j))), none, some (.int (Int32.ofNat (4 * j + eC D i j))), some (.int (Int32.ofNat g)), none, none, none, none], []) M (rV (fun M2 => cE M2 (4 * j + eC D i j) (stp D i j P 4 Q (eC D i j)) ∧ bE j (stp D i j P 4 Q (eC D i j)) ∧ Fr (p789 (4 * j + eC D i j)) A M2)) := by
  have hn := hw.1
  have hC := eC_le D i j
  intro d
  induction d with
  | zero =>
    intro g hd hg M hS hln hcP hcQ hbQ hI hA
    have e : g = 4 := by omega
    subst e
    exact g120_1 hS ho ⟨fun _ => ⟨hcQ, hbQ, hA⟩, fun c => absurd (Int32.le_refl _) c⟩
  | succ d ih =>
    intro g hd hg M hS hln hcP hcQ hbQ hI hA
    have ih := ih (g + 1) (by omega) (by omega)
    have hg3 : g ≤ 3 := by omega
    have e4 : Int32.ofNat i * (4 : Int32) = Int32.ofNat (4 * i) := by
      rw [show (4 : Int32) = Int32.ofNat 4 from rfl, ← Int32.ofNat_mul, Nat.mul_comm]
    have in1 : vp_in (Int32.ofNat (4 * i + g)) 2404 := (o_in (by omega)).mpr (by omega)
    have in2 : vp_in (Int32.ofNat (4 * j + eC D i j)) 2404 := (o_in (by omega)).mpr (by omega)
    have es : stp D i j P (g + 1) Q = cnd D i j P g (stp D i j P g Q) := rfl
    rw [es] at ih
    have hcg := hcP g (by omega)
    have hbg := hP g (by omega)
    have hp3 := P123 (o := o) hg3 hln
    have hab := alo_b hw hij hj g
    refine g120_1 hS ho ⟨fun c => absurd ((o_le (n := 4) (by omega) (by omega)).mp c) (by omega), fun _ => ?_⟩
    rw [hln.1, e4, ← Int32.ofNat_add, o_cl (by omega), o_s]
    refine ⟨in1, fun c => ?_, fun c => ?_⟩
    · have hn0 : P g = none := by
        cases hpg : P g with
        | none => rfl
        | some x =>
          obtain ⟨k, b, h⟩ := x
          rw [hpg] at hcg hbg
          have hk1 : k ≤ i * 2100000000000 := hbg.1
          have : i * 2100000000000 ≤ 600 * 2100000000000 := Nat.mul_le_mul_right _ (by omega)
          rw [hcg.1] at c
          exact absurd c (j_m1 (by omega))
      rw [cnd_n hn0] at ih
      refine ih M hS hln hcP hcQ hbQ (fun k b h q1 q2 => ?_) hA
      obtain ⟨a1, a2⟩ := hI k b h q1 q2
      exact ⟨by omega, a2⟩
    · cases hpg : P g with
      | none =>
        rw [hpg] at hcg
        exact absurd hcg c
      | some x =>
        obtain ⟨k, b, h⟩ := x
        rw [hpg] at hcg hbg
        have hk1 : k ≤ i * 2100000000000 := hbg.1
        have hk2 : i * 2100000000000 ≤ 600 * 2100000000000 := Nat.mul_le_mul_right _ (by omega)
        have hk3 : (i + 1) * 2100000000000 ≤ j * 2100000000000 := Nat.mul_le_mul_right _ (by omega)
        have hk4 : j * 2100000000000 ≤ 600 * 2100000000000 := Nat.mul_le_mul_right _ (by omega)
        rw [hcg.1, hp3, j_add, j_add, Nat.add_assoc]
        have hko : k + (alo D i j + beh D i j g) < 9223372036854775808 := by omega
        -- is it better
        have hdec : (p124_0 M (Int32.ofNat (4 * j + eC D i j)) (Int64.ofNat (k + (alo D i j + beh D i j g))) (Int32.ofNat g) = 0 ↔ ¬ bet P (stp D i j P g Q) i (eC D i j) (k + (alo D i j + beh D i j g)) g) ∧ q124_0 M (Int32.ofNat (4 * j + eC D i j)) (Int64.ofNat (k + (alo D i j + beh D i j g))) (Int32.ofNat g) := by
          unfold p124_0 q124_0 bet
          rw [o_cl (by omega), hln.1, e4]
          cases hq : stp D i j P g Q (eC D i j) with
          | none =>
            rw [hq] at hcQ
            have hcQ : jV M 37 (4 * j + eC D i j) = -1 := hcQ
            rw [if_pos hcQ]
            exact ⟨⟨fun z => absurd z (by decide), fun z => absurd trivial z⟩, in2, fun _ => trivial, fun z => absurd hcQ z⟩
          | some y =>
            obtain ⟨k', b', h'⟩ := y
            rw [hq] at hcQ hbQ
            have hbQ : k' ≤ j * 2100000000000 ∧ b' ≤ 600 ∧ h' ≤ 3 := hbQ
            obtain ⟨c1, c2⟩ := hcQ
            obtain ⟨c3, c4⟩ := c2 (by omega)
            have nm : ¬ jV M 37 (4 * j + eC D i j) = -1 := by rw [c1]; exact j_m1 (by omega)
            rw [if_neg nm, c1, c3, c4, ← Int32.ofNat_add, ← Int32.ofNat_add, o_cl (n := 4 * i + h') (by omega), o_cl (n := 4 * i + g) (by omega)]
            have ka : Int64.ofNat k' ≤ Int64.ofNat (k + (alo D i j + beh D i j g)) ↔ k' ≤ k + (alo D i j + beh D i j g) := j_le (by omega) (by omega)
            have kb : Int64.ofNat (k + (alo D i j + beh D i j g)) ≤ Int64.ofNat k' ↔ k + (alo D i j + beh D i j g) ≤ k' := j_le (by omega) (by omega)
            have kc : Int32.ofNat b' = Int32.ofNat i ↔ b' = i := o_eq (by omega) (by omega)
            constructor
            · by_cases q1 : k' ≤ k + (alo D i j + beh D i j g)
              · rw [if_pos (ka.mpr q1)]
                by_cases q2 : k + (alo D i j + beh D i j g) ≤ k'
                · rw [if_pos (kb.mpr q2)]
                  by_cases q3 : b' = i
                  · rw [if_pos (kc.mpr q3)]
                    obtain ⟨r1, ⟨x1, x2, x3⟩, r2⟩ := hI k' b' h' hq q3
                    have hi0 : ¬ i = 0 := fun z => by
                      have e1 := h0 z g (by omega)
                      have e2 := h0 z h' (by omega)
                      by_cases g1 : g = 1
                      · rw [e2 (by omega)] at r2; cases r2
                      · rw [e1 g1] at hpg; cases hpg
                    have d1 := hcP h' (by omega)
                    have d2 := hP h' (by omega)
                    rw [r2] at d1 d2
                    have m1 : iV M 38 (4 * i + h') = Int32.ofNat x2 := (d1.2 (by omega)).1
                    have m2 : iV M 38 (4 * i + g) = Int32.ofNat b := (hcg.2 (by omega)).1
                    have d3 : x2 ≤ 600 := d2.2.1
                    have d4 : b ≤ 600 := hbg.2.1
                    have kd : Int32.ofNat x2 ≤ Int32.ofNat b ↔ x2 ≤ b := o_le (by omega) (by omega)
                    rw [m1, m2, hpg]
                    show ((if Int32.ofNat x2 ≤ Int32.ofNat b then (0 : Int32) else 1) = 0) ↔ ¬ (k + (alo D i j + beh D i j g) < k' ∨ (k + (alo D i j + beh D i j g) = k' ∧ b' = i ∧ b < pbk (P h')))
                    rw [r2]
                    show ((if Int32.ofNat x2 ≤ Int32.ofNat b then (0 : Int32) else 1) = 0) ↔ ¬ (k + (alo D i j + beh D i j g) < k' ∨ (k + (alo D i j + beh D i j g) = k' ∧ b' = i ∧ b < x2))
                    by_cases q4 : x2 ≤ b
                    · rw [if_pos (kd.mpr q4)]
                      exact ⟨fun _ w => by rcases w with w | w <;> omega, fun _ => rfl⟩
                    · rw [if_neg (mt kd.mp q4)]
                      exact ⟨fun z => absurd z (by decide), fun z => absurd (Or.inr ⟨by omega, q3, by omega⟩) z⟩
                  · rw [if_neg (mt kc.mp q3)]
                    exact ⟨fun _ w => by rcases w with w | w; omega; exact q3 w.2.1, fun _ => rfl⟩
                · rw [if_neg (mt kb.mp q2)]
                  exact ⟨fun _ w => by rcases w with w | w <;> omega, fun _ => rfl⟩
              · rw [if_neg (mt ka.mp q1)]
                exact ⟨fun z => absurd z (by decide), fun z => absurd (Or.inl (by omega)) z⟩
            · exact ⟨in2, fun z => absurd z (by rw [← c1]; exact nm), fun _ => ⟨in2, fun _ => ⟨in2, fun _ => ⟨in2, in2, fun _ => ⟨in1, (o_in (by omega)).mpr (by omega)⟩, fun _ => trivial⟩, fun _ => trivial⟩, fun _ => trivial⟩⟩
        obtain ⟨hd1, hd2⟩ := hdec
        rw [hd1]
        refine ⟨hd2, fun c2 => ?_, fun c2 => ⟨in2, fun M4 s4 e4' => ⟨in2, fun M7 s7 e7 => ⟨in2, fun M10 s10 e10 => ?_⟩⟩⟩⟩
        · rw [cnd_f hpg c2] at ih
          refine ih M hS hln hcP hcQ hbQ (fun k b h q1 q2 => ?_) hA
          obtain ⟨a1, a2⟩ := hI k b h q1 q2
          exact ⟨by omega, a2⟩
        · have c2 := Classical.not_not.mp c2
          rw [cnd_t hpg c2] at ih
          rw [o_cl (by omega)] at e4' e7 e10
          have f10 : Fr (p789 (4 * j + eC D i j)) M M10 := by
            rw [e10, e7, e4']
            exact (((Fr.rf _ _).wJ ⟨Or.inl rfl, rfl⟩).wI ⟨Or.inr (Or.inl rfl), rfl⟩).wI ⟨Or.inr (Or.inr rfl), rfl⟩
          have v40 : iV M4 40 0 = Int32.ofNat i := by rw [e4', iV_wJ]; exact hln.1
          refine ih M10 s10 (cLine_fr hln f10 fun q => by unfold p789; omega) (fun c hc => ?_) ⟨?_, fun _ => ⟨?_, ?_⟩⟩ ⟨by omega, by omega, hg3⟩ (fun k b h q1 q2 => ?_) (hA.tr f10)
          · have z := hcP c hc
            have ej : jV M10 37 (4 * i + c) = jV M 37 (4 * i + c) := f10.2.2 _ _ (by unfold p789; omega)
            have e1 : iV M10 38 (4 * i + c) = iV M 38 (4 * i + c) := f10.2.1 _ _ (by unfold p789; omega)
            have e2 : iV M10 39 (4 * i + c) = iV M 39 (4 * i + c) := f10.2.1 _ _ (by unfold p789; omega)
            unfold cE at z ⊢
            rw [ej, e1, e2]
            exact z
          · rw [e10, jV_wI, e7, jV_wI, e4', jV_wJ, if_pos ⟨rfl, rfl⟩]
          · rw [e10, iV_wI, if_neg (by omega), e7, iV_wI, if_pos ⟨rfl, rfl⟩]; exact v40
          · rw [e10, iV_wI, if_pos ⟨rfl, rfl⟩]
          · cases q1
            exact ⟨by omega, ⟨_, hpg⟩⟩
end DP
