/-! CHOOSING: both, whole. -/
def p213 : Nat → Nat → Prop := fun a k => a = 116 ∧ (k = 64 ∨ k = 66) ∨ a = 161 ∨ a = 162 ∨ a = 163
theorem s213 {D : Nat → Nat → Nat} {M : sm_M} {h : Nat} (hS : SH M) (hw : wK D) (hK : mK M D) (hE : ∀ j, j ≤ D 12 0 → ∀ c, c < 4 → mE M (4 * j + c) (Ent D j c)) (hb : bstF (Ent D (D 12 0)) 4 = some h) : sm_cV 213 [.ref 116] M (fun M2 => jV M2 116 66 = Int64.ofNat (ck D (D 12 0, h)) ∧ iV M2 116 64 = Int32.ofNat (nL D (D 12 0, h)) ∧ (∀ j, j < nL D (D 12 0, h) → iV M2 161 j = Int32.ofNat (pre D (pa D (D 12 0, h) (nL D (D 12 0, h) - 1 - j))).1 ∧ iV M2 162 j = Int32.ofNat (rE D (D 12 0, h) j) ∧ jV M2 163 j = Int64.ofNat (rK D (D 12 0, h) j)) ∧ Fr p213 M M2) := by
  obtain ⟨b1, b2⟩ := (bstF_s (Ent D (D 12 0)) 4).1 h hb
  have hx : vx D (D 12 0, h) := ⟨Nat.le_refl _, by show h ≤ 3; omega, b2⟩
  refine g213_0 hS (s213_1 hS hw hK hE hb (fun M2 s2 e2 => ?_) 4 0 (by omega) (by omega))
  have f2 : Fr p213 M M2 := by rw [e2]; exact (Fr.rf _ _).wJ (Or.inl ⟨rfl, Or.inr rfl⟩)
  have E2 : ∀ j, j ≤ D 12 0 → ∀ c, c < 4 → mE M2 (4 * j + c) (Ent D j c) := fun j hj c hc => mE_fr (hE j hj c hc) f2 (by unfold p213; omega)
  refine s213_2 (x := (D 12 0, h)) s2 hw E2 hx (fun M1 s1 e1 => ?_) _ 0 rfl (Nat.zero_le _)
  have f1 : Fr p213 M M1 := by rw [e1]; exact f2.wI (Or.inl ⟨rfl, Or.inl rfl⟩)
  have E1 : ∀ j, j ≤ D 12 0 → ∀ c, c < 4 → mE M1 (4 * j + c) (Ent D j c) := fun j hj c hc => mE_fr (hE j hj c hc) f1 (by unfold p213; omega)
  have z := s213_3 (A := M1) (x := (D 12 0, h)) hw hx _ 0 rfl (Nat.zero_le _) M1 s1 E1 (fun j j1 j2 => by omega) (Fr.rf _ _)
  rw [Nat.sub_zero] at z
  refine z.mono fun oo M3 q => ?_
  obtain ⟨q1, q2, q3⟩ := q
  refine ⟨q1, ?_, ?_, q2, f1.tr (q3.mono fun a k w => by unfold p163 at w; unfold p213; omega)⟩
  · rw [q3.2.2 116 66 (by unfold p163; omega), e1, jV_wI, e2, jV_wJ, if_pos ⟨rfl, rfl⟩]
  · rw [q3.2.1 116 64 (by unfold p163; omega), e1, iV_wI, if_pos ⟨rfl, rfl⟩]
/-- the same with another bound of badness -/
def wt (D : Nat → Nat → Nat) (t : Nat) : Nat → Nat → Nat := fun a b => if a = 12 ∧ b = 5 then t else D a b
theorem wt_5 (D : Nat → Nat → Nat) (t : Nat) : wt D t 12 5 = t := rfl
theorem wK.wt {D : Nat → Nat → Nat} (h : wK D) (t : Nat) : wK (wt D t) := h
theorem cK.wt {M : sm_M} {o : Nat} {D : Nat → Nat → Nat} (h : cK M o D) (t : Nat) : cK M o (wt D t) := h
theorem mK.wt {M : sm_M} {D : Nat → Nat → Nat} (h : mK M D) (t : Nat) : mK M (wt D t) := h
theorem stp_k {D : Nat → Nat → Nat} {i j : Nat} {P Q : Nat → Option (Nat × Nat × Nat)} {c : Nat} (h : ∃ x, Q c = some x) : ∀ g, ∃ x, stp D i j P g Q c = some x
  | 0 => h
  | g + 1 => by
    have ih := stp_k (D := D) (i := i) (j := j) (P := P) h g
    show ∃ x, cnd D i j P g (stp D i j P g Q) c = some x
    by_cases hc : c = eC D i j
    · cases hp : P g with
      | none => rw [cnd_n hp]; exact ih
      | some y =>
        obtain ⟨k, b, q⟩ := y
        by_cases hb : bet P (stp D i j P g Q) i (eC D i j) (k + (alo D i j + beh D i j g)) g
        · rw [hc, cnd_t hp hb]; exact ⟨_, rfl⟩
        · rw [cnd_f hp hb]; exact ih
    · rw [cnd_o hc]; exact ih
/-- where long lines are taken, every break is reached -/
theorem Ent_long {D : Nat → Nat → Nat} (h5 : D 12 5 = 10001) {j : Nat} (hj : 1 ≤ j) : ∃ x, Ent D j (eC D 0 j) = some x := by
  have hjk : ∀ i, jok D i j := fun i => ⟨by have := eB_le D i j; omega, Or.inr h5⟩
  have h1 : ∃ x, Pt D j 1 (eC D 0 j) = some x := by
    rw [Pt_s (k := 0) (by omega), lst_y (hjk 0)]
    have e2 : stp D 0 j (Ent D 0) 4 (Pt D j 0) = cnd D 0 j (Ent D 0) 3 (cnd D 0 j (Ent D 0) 2 (cnd D 0 j (Ent D 0) 1 (cnd D 0 j (Ent D 0) 0 (Pt D j 0)))) := rfl
    have n0 : Ent D 0 0 = none := rfl
    have n2 : Ent D 0 2 = none := rfl
    have n3 : Ent D 0 3 = none := rfl
    have n1 : Ent D 0 1 = some (0, 0, 0) := rfl
    rw [e2, cnd_n n3, cnd_n n2, cnd_n n0]
    refine ⟨_, cnd_t n1 ?_⟩
    unfold bet
    rw [Pt_0 hj]
    exact trivial
  have hk : ∀ d, 1 + d ≤ j → ∃ x, Pt D j (1 + d) (eC D 0 j) = some x := by
    intro d
    induction d with
    | zero => intro _; exact h1
    | succ d ih =>
      intro hd
      rw [show 1 + (d + 1) = (1 + d) + 1 from by omega, Pt_s (by omega), lst_y (hjk _)]
      exact stp_k (ih (by omega)) 4
  have := hk (j - 1) (by omega)
  rw [show 1 + (j - 1) = j from by omega] at this
  exact this
theorem bst_some {Q : Nat → Option (Nat × Nat × Nat)} {c : Nat} (hc : c < 4) (h : ¬ Q c = none) : ∃ g, bstF Q 4 = some g := by
  cases hb : bstF Q 4 with
  | none => exact absurd ((bstF_s Q 4).2 hb c hc) h
  | some g => exact ⟨g, rfl⟩
/-- a row is found under the bound t -/
def rch (D : Nat → Nat → Nat) (t : Nat) : Prop := ∃ h, bstF (Ent (wt D t) (D 12 0)) 4 = some h
/-- which bound is taken -/
noncomputable def ft (D : Nat → Nat → Nat) (t : Nat) : Nat := @ite _ (rch D t) (Classical.propDecidable _) t (@ite _ (rch D 10000) (Classical.propDecidable _) 10000 10001)
theorem rch_long {D : Nat → Nat → Nat} (hw : wK D) : rch D 10001 := by
  obtain ⟨x, hx⟩ := Ent_long (D := wt D 10001) rfl (j := D 12 0) hw.1.1
  exact bst_some (c := eC (wt D 10001) 0 (D 12 0)) (by have := eC_le (wt D 10001) 0 (D 12 0); omega) (by rw [hx]; intro z; cases z)
theorem rch_no {D : Nat → Nat → Nat} {t : Nat} (h : ∀ c, c < 4 → Ent (wt D t) (D 12 0) c = none) : ¬ rch D t := fun z => by
  obtain ⟨g, hg⟩ := z
  obtain ⟨g1, x, g2⟩ := (bstF_s _ 4).1 g hg
  rw [h g g1] at g2
  cases g2
def pch (o : Nat) : Nat → Nat → Prop := fun a k => a = 37 ∨ a = 38 ∨ a = 39 ∨ a = 40 ∨ a = o ∧ (k = 4 ∨ k = 5 ∨ k = 6) ∨ a = o + 12 ∨ a = o + 13
/-- what the choice leaves in the setting -/
def chP (M2 : sm_M) (o : Nat) (D : Nat → Nat → Nat) : Prop := ∃ h, bstF (Ent D (D 12 0)) 4 = some h ∧ iV M2 o 4 = Int32.ofNat (D 12 5) ∧ jV M2 o 5 = Int64.ofNat (ck D (D 12 0, h)) ∧ iV M2 o 6 = Int32.ofNat (nL D (D 12 0, h)) ∧ ∀ j, j < nL D (D 12 0, h) → iV M2 (o + 12) j = Int32.ofNat (rE D (D 12 0, h) j) ∧ jV M2 (o + 13) j = Int64.ofNat (rK D (D 12 0, h) j)
theorem s105_k {D : Nat → Nat → Nat} {A M : sm_M} {o : Nat} (hS : SH M) (ho : fS o) (hw : wK D) (hK : cK M o D) (hE : ∀ j, j ≤ D 12 0 → ∀ c, c < 4 → cE M (4 * j + c) (Ent D j c)) (h4 : iV M o 4 = Int32.ofNat (D 12 5)) (hb : ∃ h, bstF (Ent D (D 12 0)) 4 = some h) (hA : Fr (pch o) A M) : sm_cV 126 [.ref 36, .ref o] M (fun M2 => SH M2 → chP M2 o D ∧ Fr (pch o) A M2) := by
  obtain ⟨h, hb⟩ := hb
  refine (s126 hS ho hw hK hE hb).mono fun M2 k2 s2 => ?_
  obtain ⟨k1, k3, k4, k5⟩ := k2
  refine ⟨⟨h, hb, ?_, k1, k3, k4⟩, hA.tr (k5.mono fun a k z => by unfold pkr at z; unfold pch; omega)⟩
  rw [k5.2.1 o 4 (by unfold pkr; omega)]
  exact h4
theorem s105 {D : Nat → Nat → Nat} {M : sm_M} {o t : Nat} (hS : SH M) (ho : fS o) (hw : wK D) (ht : t ≤ 10000) (hK : cK M o D) : sm_cV 105 [.ref 36, .ref o, .int (Int32.ofNat t)] M (fun M2 => chP M2 o (wt D (ft D t)) ∧ Fr (pch o) M M2) := by
  have hoo : o = 88 ∨ o = 102 := ho
  have hcK : ∀ (M2 : sm_M), Fr (pch o) M M2 → cK M2 o D := fun M2 f => by
    obtain ⟨h1, h2, h3, h4, h5, h6⟩ := hK
    have ei : ∀ a k, o ≤ a → a ≤ o + 11 → ¬ (a = o ∧ (k = 4 ∨ k = 5 ∨ k = 6)) → iV M2 a k = iV M a k := fun a k z1 z2 z3 => f.2.1 a k (by unfold pch; omega)
    have ej : ∀ a k, o < a → a ≤ o + 11 → jV M2 a k = jV M a k := fun a k z1 z2 => f.2.2 a k (by unfold pch; omega)
    refine ⟨by rw [ei _ _ (by omega) (by omega) (by omega)]; exact h1, fun b hb => ?_, fun b h0 hb => by rw [ei _ _ (by omega) (by omega) (by omega)]; exact h3 b h0 hb, by rw [ei _ _ (by omega) (by omega) (by omega)]; exact h4, by rw [ei _ _ (by omega) (by omega) (by omega)]; exact h5, by rw [ei _ _ (by omega) (by omega) (by omega)]; exact h6⟩
    rw [ei _ _ (by omega) (by omega) (by omega), ei _ _ (by omega) (by omega) (by omega), ei _ _ (by omega) (by omega) (by omega), ej _ _ (by omega) (by omega), ej _ _ (by omega) (by omega), ej _ _ (by omega) (by omega), ej _ _ (by omega) (by omega)]
    exact h2 b hb
  have up : ∀ A B : sm_M, Fr (pfr o) A B → Fr (pch o) A B := fun A B f => f.mono fun a k z => by unfold pfr at z; unfold pch; omega
  refine g105_0 hS ho ((s106 (D := wt D t) hS ho (hw.wt t) (by show t ≤ 10001; omega) rfl (hK.wt t)).mono fun v M1 k1 s1 => ?_)
  obtain ⟨q1, q2, q3, q4⟩ := k1
  have f1 := up _ _ q4
  refine ⟨fun c => ?_, fun c => ?_⟩
  · have n1 : ¬ rch D t := by
      rcases q1 with z | z
      · exact rch_no z.2
      · rw [z.1] at c; exact absurd c (by decide)
    refine (s106 (D := wt D 10000) s1 ho (hw.wt _) (by show 10000 ≤ 10001; omega) rfl ((hcK M1 f1).wt _)).mono fun v5 M4 k4 s4 => ?_
    obtain ⟨r1, r2, r3, r4⟩ := k4
    have f4 := f1.tr (up _ _ r4)
    refine ⟨fun c2 => ?_, fun c2 => ?_⟩
    · have n2 : ¬ rch D 10000 := by
        rcases r1 with z | z
        · exact rch_no z.2
        · rw [z.1] at c2; exact absurd c2 (by decide)
      have ef : ft D t = 10001 := by unfold ft; rw [if_neg n1, if_neg n2]
      refine (s106 (D := wt D 10001) s4 ho (hw.wt _) (by show 10001 ≤ 10001; omega) rfl ((hcK M4 f4).wt _)).mono fun v8 M7 k7 s7 => ?_
      obtain ⟨t1, t2, t3, t4⟩ := k7
      have f7 := f4.tr (up _ _ t4)
      rw [ef]
      exact s105_k s7 ho (hw.wt _) ((hcK M7 f7).wt _) t2 t3 (rch_long hw) f7
    · have y2 : rch D 10000 := by
        rcases r1 with z | z
        · exact absurd z.1 c2
        · exact z.2
      have ef : ft D t = 10000 := by unfold ft; rw [if_neg n1, if_pos y2]
      rw [ef]
      exact s105_k s4 ho (hw.wt _) ((hcK M4 f4).wt _) r2 r3 y2 f4
  · have y1 : rch D t := by
      rcases q1 with z | z
      · exact absurd z.1 c
      · exact z.2
    have ef : ft D t = t := by unfold ft; rw [if_pos y1]
    rw [ef]
    exact s105_k s1 ho (hw.wt _) ((hcK M1 f1).wt _) q2 q3 y1 f1
