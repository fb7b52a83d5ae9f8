/-! METHODS by their segments. -/
-- 46 LineSetter$FontReader.takeNumber(I)I
theorem t46 : sP 46 = (4, sp_46, sh_46) := rfl
theorem sr46 : sm_srt sp_46 = true := by decide +kernel
theorem g46_0 {M : sm_M} {x1 : Int32} {K : Int32 → sm_M → Prop} (hS : SH M)  (h : sm_cI 29 [.ref 24, .int (iV M 33 1)] M (fun v5 M4 => SH M4 → ∀ M7, SH M7 → M7 = sm_wI M4 33 1 v5 → sm_w 46 (8, [some (.ref 33), some (.int (x1)), some (.int ((0 : Int32))), some (.int ((0 : Int32)))], []) M7 (rI K))) : sm_w 46 (sm_in sP 46 [.ref 33, .int (x1)]) M (rI K) := by
  show sm_w 46 (0, [some (.ref 33), some (.int (x1)), none, none], []) M (rI K)
  refine sm_w.run t46 sr46 0 1 (M2 := M) (f2 := (1, [some (.ref 33), some (.int (x1)), none, none], [.ref 33])) rfl ⟨trivial, trivial⟩ ?_
  refine sm_w.cV t46 sr46 1 (i := 28) (as := [.ref 33]) (g := (1, [some (.ref 33), some (.int (x1)), none, none], [])) rfl ⟨by decide, by decide, (Nat.le_of_ble_eq_true rfl), (sm_K.g (k_33 hS) (sm_sh.rf _)).1, (sm_K.g (k_33 hS) (sm_sh.rf _)).2, (Nat.le_of_ble_eq_true rfl)⟩ (Nat.le_of_ble_eq_true rfl) (by decide) (sm_cV.s2 (by decide) hS (g28_0 (K := fun M1 => sm_w 46 (8, [some (.ref 33), some (.int (x1)), some (.int ((0 : Int32))), some (.int ((0 : Int32)))], []) M1 (rI K)) hS h)) (fun M1 h => ?_)
  obtain ⟨hS3, h⟩ := h
  refine sm_w.run t46 sr46 2 4 (M2 := M1) (f2 := (8, [some (.ref 33), some (.int (x1)), some (.int ((0 : Int32))), some (.int ((0 : Int32)))], [])) rfl ⟨trivial, (Nat.le_of_ble_eq_true rfl), trivial, (Nat.le_of_ble_eq_true rfl), trivial⟩ ?_
  exact h
theorem g46_1 {M : sm_M} {x1 : Int32} {x2 : Int32} {x3 : Int32} {K : Int32 → sm_M → Prop} (hS : SH M)  (h : (((7 : Int32) < x2 → ((x2 < (1 : Int32) → ∀ M4, SH M4 → M4 = sm_wI M 33 2 (iV M 33 1) → K (-1 : Int32) M4) ∧ (¬ x2 < (1 : Int32) → (((7 : Int32) < x2 → ∀ M9, SH M9 → M9 = sm_wI M 33 2 (iV M 33 1) → K (-1 : Int32) M9) ∧ (¬ (7 : Int32) < x2 → ((x3 ≤ x1 → ∀ M11, SH M11 → M11 = sm_wI M 33 1 ((iV M 33 1) + x2) → K x3 M11) ∧ (¬ x3 ≤ x1 → ∀ M16, SH M16 → M16 = sm_wI M 33 2 (iV M 33 1) → K (-1 : Int32) M16))))))) ∧ (¬ (7 : Int32) < x2 → (q30_0 M 24 ((iV M 33 1) + x2)) ∧ (((p42_0 M (p30_0 M 24 ((iV M 33 1) + x2))) = 0 → ((x2 < (1 : Int32) → ∀ M22, SH M22 → M22 = sm_wI M 33 2 (iV M 33 1) → K (-1 : Int32) M22) ∧ (¬ x2 < (1 : Int32) → (((7 : Int32) < x2 → ∀ M27, SH M27 → M27 = sm_wI M 33 2 (iV M 33 1) → K (-1 : Int32) M27) ∧ (¬ (7 : Int32) < x2 → ((x3 ≤ x1 → ∀ M29, SH M29 → M29 = sm_wI M 33 1 ((iV M 33 1) + x2) → K x3 M29) ∧ (¬ x3 ≤ x1 → ∀ M34, SH M34 → M34 = sm_wI M 33 2 (iV M 33 1) → K (-1 : Int32) M34))))))) ∧ (¬ (p42_0 M (p30_0 M 24 ((iV M 33 1) + x2))) = 0 → (q30_0 M 24 ((iV M 33 1) + x2)) ∧ sm_w 46 (8, [some (.ref 33), some (.int (x1)), some (.int (x2 + (1 : Int32))), some (.int (((x3 * (10 : Int32)) + (p30_0 M 24 ((iV M 33 1) + x2))) - (48 : Int32)))], []) M (rI K)))))) : sm_w 46 (8, [some (.ref 33), some (.int (x1)), some (.int (x2)), some (.int (x3))], []) M (rI K) := by
  refine sm_w.run t46 sr46 6 3 (M2 := M) (f2 := (if (7 : Int32) < x2 then 61 else 14, [some (.ref 33), some (.int (x1)), some (.int (x2)), some (.int (x3))], [])) rfl ⟨trivial, trivial, trivial, trivial⟩ ?_
  refine sm_w.ite (fun hc => ?_) (fun hc => ?_)
  · have h := h.1 hc
    refine sm_w.run t46 sr46 34 3 (M2 := M) (f2 := (if x2 < (1 : Int32) then 77 else 66, [some (.ref 33), some (.int (x1)), some (.int (x2)), some (.int (x3))], [])) rfl ⟨trivial, trivial, trivial, trivial⟩ ?_
    refine sm_w.ite (fun hc => ?_) (fun hc => ?_)
    · have h := h.1 hc
      refine sm_w.run t46 sr46 43 1 (M2 := M) (f2 := (78, [some (.ref 33), some (.int (x1)), some (.int (x2)), some (.int (x3))], [.ref 33])) rfl ⟨trivial, trivial⟩ ?_
      refine sm_w.cI t46 sr46 44 (i := 45) (as := [.ref 33]) (g := (78, [some (.ref 33), some (.int (x1)), some (.int (x2)), some (.int (x3))], [])) rfl ⟨by decide, by decide, (Nat.le_of_ble_eq_true rfl), (sm_K.g (k_33 hS) (sm_sh.rf _)).1, (sm_K.g (k_33 hS) (sm_sh.rf _)).2, (Nat.le_of_ble_eq_true rfl)⟩ (Nat.le_of_ble_eq_true rfl) (by decide) (sm_cI.s2 (by decide) hS (g45_0 (K := fun v2 M1 => K (-1 : Int32) M1) hS h)) (fun v2 M1 h => ?_)
      obtain ⟨hS3, h⟩ := h
      refine sm_w.run t46 sr46 45 2 (M2 := M1) (f2 := (83, [some (.ref 33), some (.int (x1)), some (.int (x2)), some (.int (x3))], [.int ((-1 : Int32))])) rfl ⟨rfl, trivial, trivial⟩ ?_
      exact sm_w.end t46 sr46 47 (o := .returned (some (.int ((-1 : Int32))))) (M2 := M1) rfl rfl (by decide) (⟨_, rfl, h⟩)
    · have h := h.2 hc
      refine sm_w.run t46 sr46 37 3 (M2 := M) (f2 := (if (7 : Int32) < x2 then 77 else 72, [some (.ref 33), some (.int (x1)), some (.int (x2)), some (.int (x3))], [])) rfl ⟨trivial, trivial, trivial, trivial⟩ ?_
      refine sm_w.ite (fun hc => ?_) (fun hc => ?_)
      · have h := h.1 hc
        refine sm_w.run t46 sr46 43 1 (M2 := M) (f2 := (78, [some (.ref 33), some (.int (x1)), some (.int (x2)), some (.int (x3))], [.ref 33])) rfl ⟨trivial, trivial⟩ ?_
        refine sm_w.cI t46 sr46 44 (i := 45) (as := [.ref 33]) (g := (78, [some (.ref 33), some (.int (x1)), some (.int (x2)), some (.int (x3))], [])) rfl ⟨by decide, by decide, (Nat.le_of_ble_eq_true rfl), (sm_K.g (k_33 hS) (sm_sh.rf _)).1, (sm_K.g (k_33 hS) (sm_sh.rf _)).2, (Nat.le_of_ble_eq_true rfl)⟩ (Nat.le_of_ble_eq_true rfl) (by decide) (sm_cI.s2 (by decide) hS (g45_0 (K := fun v7 M6 => K (-1 : Int32) M6) hS h)) (fun v7 M6 h => ?_)
        obtain ⟨hS8, h⟩ := h
        refine sm_w.run t46 sr46 45 2 (M2 := M6) (f2 := (83, [some (.ref 33), some (.int (x1)), some (.int (x2)), some (.int (x3))], [.int ((-1 : Int32))])) rfl ⟨rfl, trivial, trivial⟩ ?_
        exact sm_w.end t46 sr46 47 (o := .returned (some (.int ((-1 : Int32))))) (M2 := M6) rfl rfl (by decide) (⟨_, rfl, h⟩)
      · have h := h.2 hc
        refine sm_w.run t46 sr46 40 3 (M2 := M) (f2 := (if x3 ≤ x1 then 84 else 77, [some (.ref 33), some (.int (x1)), some (.int (x2)), some (.int (x3))], [])) rfl ⟨trivial, trivial, trivial, trivial⟩ ?_
        refine sm_w.ite (fun hc => ?_) (fun hc => ?_)
        · have h := h.1 hc
          refine sm_w.run t46 sr46 48 6 (M2 := sm_wI M 33 1 ((iV M 33 1) + x2)) (f2 := (94, [some (.ref 33), some (.int (x1)), some (.int (x2)), some (.int (x3))], [])) rfl ⟨trivial, rfl, sm_K.g (k_33 hS) (sm_sh.rf _), trivial, trivial, ⟨(sm_K.p (k_33 hS) (sm_sh.rf _)).1, (sm_K.p (k_33 hS) (sm_sh.rf _)).2.1, (sm_K.p (k_33 hS) (sm_sh.rf _)).2.2, Or.inl rfl⟩, trivial⟩ ?_
          have hS12 : SH (sm_wI M 33 1 ((iV M 33 1) + x2)) := SH.wI hS _ _ _
          have h := h _ hS12 rfl
          generalize sm_wI M 33 1 ((iV M 33 1) + x2) = M11 at h hS12 ⊢
          refine sm_w.run t46 sr46 54 1 (M2 := M11) (f2 := (95, [some (.ref 33), some (.int (x1)), some (.int (x2)), some (.int (x3))], [.int (x3)])) rfl ⟨trivial, trivial⟩ ?_
          exact sm_w.end t46 sr46 55 (o := .returned (some (.int (x3)))) (M2 := M11) rfl rfl (by decide) (⟨_, rfl, h⟩)
        · have h := h.2 hc
          refine sm_w.run t46 sr46 43 1 (M2 := M) (f2 := (78, [some (.ref 33), some (.int (x1)), some (.int (x2)), some (.int (x3))], [.ref 33])) rfl ⟨trivial, trivial⟩ ?_
          refine sm_w.cI t46 sr46 44 (i := 45) (as := [.ref 33]) (g := (78, [some (.ref 33), some (.int (x1)), some (.int (x2)), some (.int (x3))], [])) rfl ⟨by decide, by decide, (Nat.le_of_ble_eq_true rfl), (sm_K.g (k_33 hS) (sm_sh.rf _)).1, (sm_K.g (k_33 hS) (sm_sh.rf _)).2, (Nat.le_of_ble_eq_true rfl)⟩ (Nat.le_of_ble_eq_true rfl) (by decide) (sm_cI.s2 (by decide) hS (g45_0 (K := fun v14 M13 => K (-1 : Int32) M13) hS h)) (fun v14 M13 h => ?_)
          obtain ⟨hS15, h⟩ := h
          refine sm_w.run t46 sr46 45 2 (M2 := M13) (f2 := (83, [some (.ref 33), some (.int (x1)), some (.int (x2)), some (.int (x3))], [.int ((-1 : Int32))])) rfl ⟨rfl, trivial, trivial⟩ ?_
          exact sm_w.end t46 sr46 47 (o := .returned (some (.int ((-1 : Int32))))) (M2 := M13) rfl rfl (by decide) (⟨_, rfl, h⟩)
  · have h := h.2 hc
    refine sm_w.run t46 sr46 9 2 (M2 := M) (f2 := (18, [some (.ref 33), some (.int (x1)), some (.int (x2)), some (.int (x3))], [va_rf (sm_rv M 33 0)])) rfl ⟨trivial, sm_K.g (k_33 hS) (sm_sh.rf _), trivial⟩ ?_
    refine sm_w.fld (r_33_0 hS) ?_
    obtain ⟨c18, h⟩ := h
    refine sm_w.run t46 sr46 11 4 (M2 := M) (f2 := (24, [some (.ref 33), some (.int (x1)), some (.int (x2)), some (.int (x3))], [.int ((iV M 33 1) + x2), .ref 24])) rfl ⟨trivial, sm_K.g (k_33 hS) (sm_sh.rf _), trivial, trivial, trivial⟩ ?_
    refine sm_w.cI t46 sr46 15 (i := 30) (as := [.ref 24, .int ((iV M 33 1) + x2)]) (g := (24, [some (.ref 33), some (.int (x1)), some (.int (x2)), some (.int (x3))], [])) rfl ⟨by decide, by decide, (Nat.le_of_ble_eq_true rfl), (sm_K.g (kB_0 hS fB_24) (sm_sh.rf _)).1, (sm_K.g (kB_0 hS fB_24) (sm_sh.rf _)).2, (Nat.le_of_ble_eq_true rfl)⟩ (Nat.le_of_ble_eq_true rfl) (by decide) (p30_c hS fB_24 c18) (fun vz M2 hz => ?_)
    obtain ⟨hz1, hz2⟩ := hz
    subst hz1
    have hz2 := hz2.symm
    subst hz2
    refine sm_w.cI t46 sr46 16 (i := 42) (as := [.int (p30_0 M 24 ((iV M 33 1) + x2))]) (g := (27, [some (.ref 33), some (.int (x1)), some (.int (x2)), some (.int (x3))], [])) rfl ⟨(Nat.le_of_ble_eq_true rfl), (Nat.le_of_ble_eq_true rfl)⟩ (Nat.le_of_ble_eq_true rfl) (by decide) (p42_c hS) (fun vz M2 hz => ?_)
    obtain ⟨hz1, hz2⟩ := hz
    subst hz1
    have hz2 := hz2.symm
    subst hz2
    refine sm_w.run t46 sr46 17 1 (M2 := M) (f2 := (if (p42_0 M (p30_0 M 24 ((iV M 33 1) + x2))) = 0 then 61 else 33, [some (.ref 33), some (.int (x1)), some (.int (x2)), some (.int (x3))], [])) rfl ⟨trivial, trivial⟩ ?_
    refine sm_w.ite (fun hc => ?_) (fun hc => ?_)
    · have h := h.1 hc
      refine sm_w.run t46 sr46 34 3 (M2 := M) (f2 := (if x2 < (1 : Int32) then 77 else 66, [some (.ref 33), some (.int (x1)), some (.int (x2)), some (.int (x3))], [])) rfl ⟨trivial, trivial, trivial, trivial⟩ ?_
      refine sm_w.ite (fun hc => ?_) (fun hc => ?_)
      · have h := h.1 hc
        refine sm_w.run t46 sr46 43 1 (M2 := M) (f2 := (78, [some (.ref 33), some (.int (x1)), some (.int (x2)), some (.int (x3))], [.ref 33])) rfl ⟨trivial, trivial⟩ ?_
        refine sm_w.cI t46 sr46 44 (i := 45) (as := [.ref 33]) (g := (78, [some (.ref 33), some (.int (x1)), some (.int (x2)), some (.int (x3))], [])) rfl ⟨by decide, by decide, (Nat.le_of_ble_eq_true rfl), (sm_K.g (k_33 hS) (sm_sh.rf _)).1, (sm_K.g (k_33 hS) (sm_sh.rf _)).2, (Nat.le_of_ble_eq_true rfl)⟩ (Nat.le_of_ble_eq_true rfl) (by decide) (sm_cI.s2 (by decide) hS (g45_0 (K := fun v20 M19 => K (-1 : Int32) M19) hS h)) (fun v20 M19 h => ?_)
        obtain ⟨hS21, h⟩ := h
        refine sm_w.run t46 sr46 45 2 (M2 := M19) (f2 := (83, [some (.ref 33), some (.int (x1)), some (.int (x2)), some (.int (x3))], [.int ((-1 : Int32))])) rfl ⟨rfl, trivial, trivial⟩ ?_
        exact sm_w.end t46 sr46 47 (o := .returned (some (.int ((-1 : Int32))))) (M2 := M19) rfl rfl (by decide) (⟨_, rfl, h⟩)
      · have h := h.2 hc
        refine sm_w.run t46 sr46 37 3 (M2 := M) (f2 := (if (7 : Int32) < x2 then 77 else 72, [some (.ref 33), some (.int (x1)), some (.int (x2)), some (.int (x3))], [])) rfl ⟨trivial, trivial, trivial, trivial⟩ ?_
        refine sm_w.ite (fun hc => ?_) (fun hc => ?_)
        · have h := h.1 hc
          refine sm_w.run t46 sr46 43 1 (M2 := M) (f2 := (78, [some (.ref 33), some (.int (x1)), some (.int (x2)), some (.int (x3))], [.ref 33])) rfl ⟨trivial, trivial⟩ ?_
          refine sm_w.cI t46 sr46 44 (i := 45) (as := [.ref 33]) (g := (78, [some (.ref 33), some (.int (x1)), some (.int (x2)), some (.int (x3))], [])) rfl ⟨by decide, by decide, (Nat.le_of_ble_eq_true rfl), (sm_K.g (k_33 hS) (sm_sh.rf _)).1, (sm_K.g (k_33 hS) (sm_sh.rf _)).2, (Nat.le_of_ble_eq_true rfl)⟩ (Nat.le_of_ble_eq_true rfl) (by decide) (sm_cI.s2 (by decide) hS (g45_0 (K := fun v25 M24 => K (-1 : Int32) M24) hS h)) (fun v25 M24 h => ?_)
          obtain ⟨hS26, h⟩ := h
          refine sm_w.run t46 sr46 45 2 (M2 := M24) (f2 := (83, [some (.ref 33), some (.int (x1)), some (.int (x2)), some (.int (x3))], [.int ((-1 : Int32))])) rfl ⟨rfl, trivial, trivial⟩ ?_
          exact sm_w.end t46 sr46 47 (o := .returned (some (.int ((-1 : Int32))))) (M2 := M24) rfl rfl (by decide) (⟨_, rfl, h⟩)
        · have h := h.2 hc
          refine sm_w.run t46 sr46 40 3 (M2 := M) (f2 := (if x3 ≤ x1 then 84 else 77, [some (.ref 33), some (.int (x1)), some (.int (x2)), some (.int (x3))], [])) rfl ⟨trivial, trivial, trivial, trivial⟩ ?_
          refine sm_w.ite (fun hc => ?_) (fun hc => ?_)
          · have h := h.1 hc
            refine sm_w.run t46 sr46 48 6 (M2 := sm_wI M 33 1 ((iV M 33 1) + x2)) (f2 := (94, [some (.ref 33), some (.int (x1)), some (.int (x2)), some (.int (x3))], [])) rfl ⟨trivial, rfl, sm_K.g (k_33 hS) (sm_sh.rf _), trivial, trivial, ⟨(sm_K.p (k_33 hS) (sm_sh.rf _)).1, (sm_K.p (k_33 hS) (sm_sh.rf _)).2.1, (sm_K.p (k_33 hS) (sm_sh.rf _)).2.2, Or.inl rfl⟩, trivial⟩ ?_
            have hS30 : SH (sm_wI M 33 1 ((iV M 33 1) + x2)) := SH.wI hS _ _ _
            have h := h _ hS30 rfl
            generalize sm_wI M 33 1 ((iV M 33 1) + x2) = M29 at h hS30 ⊢
            refine sm_w.run t46 sr46 54 1 (M2 := M29) (f2 := (95, [some (.ref 33), some (.int (x1)), some (.int (x2)), some (.int (x3))], [.int (x3)])) rfl ⟨trivial, trivial⟩ ?_
            exact sm_w.end t46 sr46 55 (o := .returned (some (.int (x3)))) (M2 := M29) rfl rfl (by decide) (⟨_, rfl, h⟩)
          · have h := h.2 hc
            refine sm_w.run t46 sr46 43 1 (M2 := M) (f2 := (78, [some (.ref 33), some (.int (x1)), some (.int (x2)), some (.int (x3))], [.ref 33])) rfl ⟨trivial, trivial⟩ ?_
            refine sm_w.cI t46 sr46 44 (i := 45) (as := [.ref 33]) (g := (78, [some (.ref 33), some (.int (x1)), some (.int (x2)), some (.int (x3))], [])) rfl ⟨by decide, by decide, (Nat.le_of_ble_eq_true rfl), (sm_K.g (k_33 hS) (sm_sh.rf _)).1, (sm_K.g (k_33 hS) (sm_sh.rf _)).2, (Nat.le_of_ble_eq_true rfl)⟩ (Nat.le_of_ble_eq_true rfl) (by decide) (sm_cI.s2 (by decide) hS (g45_0 (K := fun v32 M31 => K (-1 : Int32) M31) hS h)) (fun v32 M31 h => ?_)
            obtain ⟨hS33, h⟩ := h
            refine sm_w.run t46 sr46 45 2 (M2 := M31) (f2 := (83, [some (.ref 33), some (.int (x1)), some (.int (x2)), some (.int (x3))], [.int ((-1 : Int32))])) rfl ⟨rfl, trivial, trivial⟩ ?_
            exact sm_w.end t46 sr46 47 (o := .returned (some (.int ((-1 : Int32))))) (M2 := M31) rfl rfl (by decide) (⟨_, rfl, h⟩)
    · have h := h.2 hc
      refine sm_w.run t46 sr46 18 5 (M2 := M) (f2 := (41, [some (.ref 33), some (.int (x1)), some (.int (x2)), some (.int (x3))], [va_rf (sm_rv M 33 0), .int (x3 * (10 : Int32))])) rfl ⟨trivial, trivial, trivial, trivial, sm_K.g (k_33 hS) (sm_sh.rf _), trivial⟩ ?_
      refine sm_w.fld (r_33_0 hS) ?_
      obtain ⟨c36, h⟩ := h
      refine sm_w.run t46 sr46 23 4 (M2 := M) (f2 := (47, [some (.ref 33), some (.int (x1)), some (.int (x2)), some (.int (x3))], [.int ((iV M 33 1) + x2), .ref 24, .int (x3 * (10 : Int32))])) rfl ⟨trivial, sm_K.g (k_33 hS) (sm_sh.rf _), trivial, trivial, trivial⟩ ?_
      refine sm_w.cI t46 sr46 27 (i := 30) (as := [.ref 24, .int ((iV M 33 1) + x2)]) (g := (47, [some (.ref 33), some (.int (x1)), some (.int (x2)), some (.int (x3))], [.int (x3 * (10 : Int32))])) rfl ⟨by decide, by decide, (Nat.le_of_ble_eq_true rfl), (sm_K.g (kB_0 hS fB_24) (sm_sh.rf _)).1, (sm_K.g (kB_0 hS fB_24) (sm_sh.rf _)).2, (Nat.le_of_ble_eq_true rfl)⟩ (Nat.le_of_ble_eq_true rfl) (by decide) (p30_c hS fB_24 c36) (fun vz M2 hz => ?_)
      obtain ⟨hz1, hz2⟩ := hz
      subst hz1
      have hz2 := hz2.symm
      subst hz2
      refine sm_w.run t46 sr46 28 6 (M2 := M) (f2 := (8, [some (.ref 33), some (.int (x1)), some (.int (x2 + (1 : Int32))), some (.int (((x3 * (10 : Int32)) + (p30_0 M 24 ((iV M 33 1) + x2))) - (48 : Int32)))], [])) rfl ⟨trivial, trivial, trivial, (Nat.le_of_ble_eq_true rfl), (Nat.le_of_ble_eq_true rfl), trivial, trivial⟩ ?_
      exact h
-- 48 LineSetter$FontReader.takeOne(I)Z
theorem t48 : sP 48 = (2, sp_48, sh_48) := rfl
theorem sr48 : sm_srt sp_48 = true := by decide +kernel
theorem g48_0 {M : sm_M} {x1 : Int32} {K : Int32 → sm_M → Prop} (hS : SH M)  (h : sm_cI 29 [.ref 24, .int (iV M 33 1)] M (fun v8 M7 => SH M7 → ∀ M10, SH M10 → M10 = sm_wI M7 33 1 v8 → (q30_0 M10 24 (iV M10 33 1)) ∧ (((p30_0 M10 24 (iV M10 33 1)) = x1 → ∀ M5, SH M5 → M5 = sm_wI M10 33 1 ((iV M10 33 1) + (1 : Int32)) → K (1 : Int32) M5) ∧ (¬ (p30_0 M10 24 (iV M10 33 1)) = x1 → K (0 : Int32) M10)))) : sm_w 48 (sm_in sP 48 [.ref 33, .int (x1)]) M (rI K) := by
  show sm_w 48 (0, [some (.ref 33), some (.int (x1))], []) M (rI K)
  refine sm_w.run t48 sr48 0 1 (M2 := M) (f2 := (1, [some (.ref 33), some (.int (x1))], [.ref 33])) rfl ⟨trivial, trivial⟩ ?_
  refine sm_w.cV t48 sr48 1 (i := 28) (as := [.ref 33]) (g := (1, [some (.ref 33), some (.int (x1))], [])) rfl ⟨by decide, by decide, (Nat.le_of_ble_eq_true rfl), (sm_K.g (k_33 hS) (sm_sh.rf _)).1, (sm_K.g (k_33 hS) (sm_sh.rf _)).2, (Nat.le_of_ble_eq_true rfl)⟩ (Nat.le_of_ble_eq_true rfl) (by decide) (sm_cV.s2 (by decide) hS (g28_0 (K := fun M1 => (q30_0 M1 24 (iV M1 33 1)) ∧ (((p30_0 M1 24 (iV M1 33 1)) = x1 → ∀ M5, SH M5 → M5 = sm_wI M1 33 1 ((iV M1 33 1) + (1 : Int32)) → K (1 : Int32) M5) ∧ (¬ (p30_0 M1 24 (iV M1 33 1)) = x1 → K (0 : Int32) M1))) hS h)) (fun M1 h => ?_)
  obtain ⟨hS3, h⟩ := h
  refine sm_w.run t48 sr48 2 2 (M2 := M1) (f2 := (8, [some (.ref 33), some (.int (x1))], [va_rf (sm_rv M1 33 0)])) rfl ⟨trivial, sm_K.g (k_33 hS3) (sm_sh.rf _), trivial⟩ ?_
  refine sm_w.fld (r_33_0 hS3) ?_
  obtain ⟨c4, h⟩ := h
  refine sm_w.run t48 sr48 4 2 (M2 := M1) (f2 := (12, [some (.ref 33), some (.int (x1))], [.int (iV M1 33 1), .ref 24])) rfl ⟨trivial, sm_K.g (k_33 hS3) (sm_sh.rf _), trivial⟩ ?_
  refine sm_w.cI t48 sr48 6 (i := 30) (as := [.ref 24, .int (iV M1 33 1)]) (g := (12, [some (.ref 33), some (.int (x1))], [])) rfl ⟨by decide, by decide, (Nat.le_of_ble_eq_true rfl), (sm_K.g (kB_0 hS3 fB_24) (sm_sh.rf _)).1, (sm_K.g (kB_0 hS3 fB_24) (sm_sh.rf _)).2, (Nat.le_of_ble_eq_true rfl)⟩ (Nat.le_of_ble_eq_true rfl) (by decide) (p30_c hS3 fB_24 c4) (fun vz M2 hz => ?_)
  obtain ⟨hz1, hz2⟩ := hz
  subst hz1
  have hz2 := hz2.symm
  subst hz2
  refine sm_w.run t48 sr48 7 2 (M2 := M1) (f2 := (if (p30_0 M1 24 (iV M1 33 1)) = x1 then 21 else 19, [some (.ref 33), some (.int (x1))], [])) rfl ⟨trivial, trivial, trivial⟩ ?_
  refine sm_w.ite (fun hc => ?_) (fun hc => ?_)
  · have h := h.1 hc
    refine sm_w.run t48 sr48 11 6 (M2 := sm_wI M1 33 1 ((iV M1 33 1) + (1 : Int32))) (f2 := (31, [some (.ref 33), some (.int (x1))], [])) rfl ⟨trivial, rfl, sm_K.g (k_33 hS3) (sm_sh.rf _), trivial, trivial, ⟨(sm_K.p (k_33 hS3) (sm_sh.rf _)).1, (sm_K.p (k_33 hS3) (sm_sh.rf _)).2.1, (sm_K.p (k_33 hS3) (sm_sh.rf _)).2.2, Or.inl rfl⟩, trivial⟩ ?_
    have hS6 : SH (sm_wI M1 33 1 ((iV M1 33 1) + (1 : Int32))) := SH.wI hS3 _ _ _
    have h := h _ hS6 rfl
    generalize sm_wI M1 33 1 ((iV M1 33 1) + (1 : Int32)) = M5 at h hS6 ⊢
    refine sm_w.run t48 sr48 17 1 (M2 := M5) (f2 := (32, [some (.ref 33), some (.int (x1))], [.int ((1 : Int32))])) rfl ⟨trivial, trivial⟩ ?_
    exact sm_w.end t48 sr48 18 (o := .returned (some (.int ((1 : Int32))))) (M2 := M5) rfl rfl (by decide) (⟨_, rfl, h⟩)
  · have h := h.2 hc
    refine sm_w.run t48 sr48 9 1 (M2 := M1) (f2 := (20, [some (.ref 33), some (.int (x1))], [.int ((0 : Int32))])) rfl ⟨trivial, trivial⟩ ?_
    exact sm_w.end t48 sr48 10 (o := .returned (some (.int ((0 : Int32))))) (M2 := M1) rfl rfl (by decide) (⟨_, rfl, h⟩)
-- 49 LineSetter$Font.tellWidth(II)V
theorem t49 : sP 49 = (3, sp_49, sh_49) := rfl
theorem sr49 : sm_srt sp_49 = true := by decide +kernel
theorem g49_0 {M : sm_M} {x0 : Nat} {x1 : Int32} {x2 : Int32} {K : sm_M → Prop} (hS : SH M) (hx0 : fF x0) (h : ((x1 < 0 → K M) ∧ (¬ x1 < 0 → ((x1 < (128 : Int32) → (vp_in x1 128) ∧ (((iV M (x0 + 2) x1.toNatClampNeg) = 0 → (vp_in x1 128) ∧ ∀ M3, SH M3 → M3 = sm_wI M (x0 + 2) x1.toNatClampNeg (1 : Int32) → ∀ M5, SH M5 → M5 = sm_wI M3 x0 2 ((iV M3 x0 2) + (1 : Int32)) → (vp_in x1 128) ∧ ∀ M8, SH M8 → M8 = sm_wI M5 (x0 + 1) x1.toNatClampNeg x2 → K M8) ∧ (¬ (iV M (x0 + 2) x1.toNatClampNeg) = 0 → (vp_in x1 128) ∧ ∀ M11, SH M11 → M11 = sm_wI M (x0 + 1) x1.toNatClampNeg x2 → K M11))) ∧ (¬ x1 < (128 : Int32) → K M))))) : sm_w 49 (sm_in sP 49 [.ref x0, .int (x1), .int (x2)]) M (rV K) := by
  show sm_w 49 (0, [some (.ref x0), some (.int (x1)), some (.int (x2))], []) M (rV K)
  refine sm_w.run t49 sr49 0 2 (M2 := M) (f2 := (if x1 < 0 then 13 else 4, [some (.ref x0), some (.int (x1)), some (.int (x2))], [])) rfl ⟨trivial, trivial, trivial⟩ ?_
  refine sm_w.ite (fun hc => ?_) (fun hc => ?_)
  · have h := h.1 hc
    exact sm_w.end t49 sr49 7 (o := .returned none) (M2 := M) rfl trivial (by decide) (⟨rfl, h⟩)
  · have h := h.2 hc
    refine sm_w.run t49 sr49 2 3 (M2 := M) (f2 := (9, [some (.ref x0), some (.int (x1)), some (.int (x2))], [va_rf (sm_rv M x0 0), .int (x1)])) rfl ⟨trivial, trivial, sm_K.g (kF_0 hS hx0) (sm_sh.rf _), trivial⟩ ?_
    refine sm_w.fld (rF_0 hS hx0) ?_
    refine sm_w.run t49 sr49 5 1 (M2 := M) (f2 := (10, [some (.ref x0), some (.int (x1)), some (.int (x2))], [.int (Int32.ofNat (sm_ln M (x0 + 1))), .int (x1)])) rfl ⟨sm_K.l (kF_1 hS hx0) (sm_sh.rf _) (by decide), trivial⟩ ?_
    refine sm_w.aln (lF_1 hS hx0) ?_
    refine sm_w.run t49 sr49 6 1 (M2 := M) (f2 := (if x1 < (128 : Int32) then 14 else 13, [some (.ref x0), some (.int (x1)), some (.int (x2))], [])) rfl ⟨trivial, trivial⟩ ?_
    refine sm_w.ite (fun hc => ?_) (fun hc => ?_)
    · have h := h.1 hc
      refine sm_w.run t49 sr49 8 2 (M2 := M) (f2 := (18, [some (.ref x0), some (.int (x1)), some (.int (x2))], [va_rf (sm_rv M x0 1)])) rfl ⟨trivial, sm_K.g (kF_0 hS hx0) (sm_sh.rf _), trivial⟩ ?_
      refine sm_w.fld (rF_1 hS hx0) ?_
      obtain ⟨c1, h⟩ := h
      refine sm_w.run t49 sr49 10 3 (M2 := M) (f2 := (if (iV M (x0 + 2) x1.toNatClampNeg) = 0 then 23 else 40, [some (.ref x0), some (.int (x1)), some (.int (x2))], [])) rfl ⟨trivial, sm_K.a2 (kF_2 hS hx0) (lF_2 hS hx0) c1, trivial, trivial⟩ ?_
      refine sm_w.ite (fun hc => ?_) (fun hc => ?_)
      · have h := h.1 hc
        refine sm_w.run t49 sr49 13 2 (M2 := M) (f2 := (27, [some (.ref x0), some (.int (x1)), some (.int (x2))], [va_rf (sm_rv M x0 1)])) rfl ⟨trivial, sm_K.g (kF_0 hS hx0) (sm_sh.rf _), trivial⟩ ?_
        refine sm_w.fld (rF_1 hS hx0) ?_
        obtain ⟨c2, h⟩ := h
        refine sm_w.run t49 sr49 15 3 (M2 := sm_wI M (x0 + 2) x1.toNatClampNeg (1 : Int32)) (f2 := (30, [some (.ref x0), some (.int (x1)), some (.int (x2))], [])) rfl ⟨trivial, trivial, sm_K.s2 (kF_2 hS hx0) (lF_2 hS hx0) c2, trivial⟩ ?_
        have hS4 : SH (sm_wI M (x0 + 2) x1.toNatClampNeg (1 : Int32)) := SH.wI hS _ _ _
        have h := h _ hS4 rfl
        generalize sm_wI M (x0 + 2) x1.toNatClampNeg (1 : Int32) = M3 at h hS4 ⊢
        refine sm_w.run t49 sr49 18 6 (M2 := sm_wI M3 x0 2 ((iV M3 x0 2) + (1 : Int32))) (f2 := (40, [some (.ref x0), some (.int (x1)), some (.int (x2))], [])) rfl ⟨trivial, rfl, sm_K.g (kF_0 hS4 hx0) (sm_sh.rf _), trivial, trivial, ⟨(sm_K.p (kF_0 hS4 hx0) (sm_sh.rf _)).1, (sm_K.p (kF_0 hS4 hx0) (sm_sh.rf _)).2.1, (sm_K.p (kF_0 hS4 hx0) (sm_sh.rf _)).2.2, Or.inl rfl⟩, trivial⟩ ?_
        have hS6 : SH (sm_wI M3 x0 2 ((iV M3 x0 2) + (1 : Int32))) := SH.wI hS4 _ _ _
        have h := h _ hS6 rfl
        generalize sm_wI M3 x0 2 ((iV M3 x0 2) + (1 : Int32)) = M5 at h hS6 ⊢
        refine sm_w.run t49 sr49 24 2 (M2 := M5) (f2 := (44, [some (.ref x0), some (.int (x1)), some (.int (x2))], [va_rf (sm_rv M5 x0 0)])) rfl ⟨trivial, sm_K.g (kF_0 hS6 hx0) (sm_sh.rf _), trivial⟩ ?_
        refine sm_w.fld (rF_0 hS6 hx0) ?_
        obtain ⟨c7, h⟩ := h
        refine sm_w.run t49 sr49 26 3 (M2 := sm_wI M5 (x0 + 1) x1.toNatClampNeg x2) (f2 := (47, [some (.ref x0), some (.int (x1)), some (.int (x2))], [])) rfl ⟨trivial, trivial, sm_K.s2 (kF_1 hS6 hx0) (lF_1 hS6 hx0) c7, trivial⟩ ?_
        have hS9 : SH (sm_wI M5 (x0 + 1) x1.toNatClampNeg x2) := SH.wI hS6 _ _ _
        have h := h _ hS9 rfl
        generalize sm_wI M5 (x0 + 1) x1.toNatClampNeg x2 = M8 at h hS9 ⊢
        exact sm_w.end t49 sr49 29 (o := .returned none) (M2 := M8) rfl trivial (by decide) (⟨rfl, h⟩)
      · have h := h.2 hc
        refine sm_w.run t49 sr49 24 2 (M2 := M) (f2 := (44, [some (.ref x0), some (.int (x1)), some (.int (x2))], [va_rf (sm_rv M x0 0)])) rfl ⟨trivial, sm_K.g (kF_0 hS hx0) (sm_sh.rf _), trivial⟩ ?_
        refine sm_w.fld (rF_0 hS hx0) ?_
        obtain ⟨c10, h⟩ := h
        refine sm_w.run t49 sr49 26 3 (M2 := sm_wI M (x0 + 1) x1.toNatClampNeg x2) (f2 := (47, [some (.ref x0), some (.int (x1)), some (.int (x2))], [])) rfl ⟨trivial, trivial, sm_K.s2 (kF_1 hS hx0) (lF_1 hS hx0) c10, trivial⟩ ?_
        have hS12 : SH (sm_wI M (x0 + 1) x1.toNatClampNeg x2) := SH.wI hS _ _ _
        have h := h _ hS12 rfl
        generalize sm_wI M (x0 + 1) x1.toNatClampNeg x2 = M11 at h hS12 ⊢
        exact sm_w.end t49 sr49 29 (o := .returned none) (M2 := M11) rfl trivial (by decide) (⟨rfl, h⟩)
    · have h := h.2 hc
      exact sm_w.end t49 sr49 7 (o := .returned none) (M2 := M) rfl trivial (by decide) (⟨rfl, h⟩)
-- 43 LineSetter$FontReader.readWidth(LLineSetter$Font;)Z
theorem t43 : sP 43 = (4, sp_43, sh_43) := rfl
theorem sr43 : sm_srt sp_43 = true := by decide +kernel
theorem g43_0 {M : sm_M} {x1 : Nat} {K : Int32 → sm_M → Prop} (hS : SH M) (hx1 : fF x1) (h : sm_cI 44 [.ref 33] M (fun v2 M1 => SH M1 → ((0 ≤ v2 → sm_cI 46 [.ref 33, .int ((5000 : Int32))] M1 (fun v5 M4 => SH M4 → ((0 ≤ v5 → sm_cI 48 [.ref 33, .int ((59 : Int32))] M4 (fun v8 M7 => SH M7 → ((v8 = 0 → ∀ M14, SH M14 → M14 = sm_wI M7 33 2 (iV M7 33 1) → ((0 : Int32) = 0 ∨ (0 : Int32) = 1) ∧ K (0 : Int32) M14) ∧ (¬ v8 = 0 → sm_cV 49 [.ref x1, .int (v2), .int (v5)] M7 (fun M16 => SH M16 → K (1 : Int32) M16))))) ∧ (¬ 0 ≤ v5 → K (0 : Int32) M4)))) ∧ (¬ 0 ≤ v2 → K (0 : Int32) M1)))) : sm_w 43 (sm_in sP 43 [.ref 33, .ref x1]) M (rI K) := by
  show sm_w 43 (0, [some (.ref 33), some (.ref x1), none, none], []) M (rI K)
  refine sm_w.run t43 sr43 0 1 (M2 := M) (f2 := (1, [some (.ref 33), some (.ref x1), none, none], [.ref 33])) rfl ⟨trivial, trivial⟩ ?_
  refine sm_w.cI t43 sr43 1 (i := 44) (as := [.ref 33]) (g := (1, [some (.ref 33), some (.ref x1), none, none], [])) rfl ⟨by decide, by decide, (Nat.le_of_ble_eq_true rfl), (sm_K.g (k_33 hS) (sm_sh.rf _)).1, (sm_K.g (k_33 hS) (sm_sh.rf _)).2, (Nat.le_of_ble_eq_true rfl)⟩ (Nat.le_of_ble_eq_true rfl) (by decide) (sm_cI.s (by decide) hS h) (fun v2 M1 h => ?_)
  obtain ⟨hS3, h⟩ := h
  refine sm_w.run t43 sr43 2 3 (M2 := M1) (f2 := (if 0 ≤ v2 then 11 else 9, [some (.ref 33), some (.ref x1), some (.int (v2)), none], [])) rfl ⟨(Nat.le_of_ble_eq_true rfl), trivial, trivial, trivial⟩ ?_
  refine sm_w.ite (fun hc => ?_) (fun hc => ?_)
  · have h := h.1 hc
    refine sm_w.run t43 sr43 7 2 (M2 := M1) (f2 := (15, [some (.ref 33), some (.ref x1), some (.int (v2)), none], [.int ((5000 : Int32)), .ref 33])) rfl ⟨trivial, trivial, trivial⟩ ?_
    refine sm_w.cI t43 sr43 9 (i := 46) (as := [.ref 33, .int ((5000 : Int32))]) (g := (15, [some (.ref 33), some (.ref x1), some (.int (v2)), none], [])) rfl ⟨by decide, by decide, (Nat.le_of_ble_eq_true rfl), (sm_K.g (k_33 hS3) (sm_sh.rf _)).1, (sm_K.g (k_33 hS3) (sm_sh.rf _)).2, (Nat.le_of_ble_eq_true rfl)⟩ (Nat.le_of_ble_eq_true rfl) (by decide) (sm_cI.s (by decide) hS3 h) (fun v5 M4 h => ?_)
    obtain ⟨hS6, h⟩ := h
    refine sm_w.run t43 sr43 10 3 (M2 := M4) (f2 := (if 0 ≤ v5 then 25 else 23, [some (.ref 33), some (.ref x1), some (.int (v2)), some (.int (v5))], [])) rfl ⟨(Nat.le_of_ble_eq_true rfl), trivial, trivial, trivial⟩ ?_
    refine sm_w.ite (fun hc => ?_) (fun hc => ?_)
    · have h := h.1 hc
      refine sm_w.run t43 sr43 15 2 (M2 := M4) (f2 := (28, [some (.ref 33), some (.ref x1), some (.int (v2)), some (.int (v5))], [.int ((59 : Int32)), .ref 33])) rfl ⟨trivial, trivial, trivial⟩ ?_
      refine sm_w.cI t43 sr43 17 (i := 48) (as := [.ref 33, .int ((59 : Int32))]) (g := (28, [some (.ref 33), some (.ref x1), some (.int (v2)), some (.int (v5))], [])) rfl ⟨by decide, by decide, (Nat.le_of_ble_eq_true rfl), (sm_K.g (k_33 hS6) (sm_sh.rf _)).1, (sm_K.g (k_33 hS6) (sm_sh.rf _)).2, (Nat.le_of_ble_eq_true rfl)⟩ (Nat.le_of_ble_eq_true rfl) (by decide) (sm_cI.s (by decide) hS6 h) (fun v8 M7 h => ?_)
      obtain ⟨hS9, h⟩ := h
      refine sm_w.run t43 sr43 18 1 (M2 := M7) (f2 := (if v8 = 0 then 34 else 39, [some (.ref 33), some (.ref x1), some (.int (v2)), some (.int (v5))], [])) rfl ⟨trivial, trivial⟩ ?_
      refine sm_w.ite (fun hc => ?_) (fun hc => ?_)
      · have h := h.1 hc
        refine sm_w.run t43 sr43 19 1 (M2 := M7) (f2 := (35, [some (.ref 33), some (.ref x1), some (.int (v2)), some (.int (v5))], [.ref 33])) rfl ⟨trivial, trivial⟩ ?_
        refine sm_w.cI t43 sr43 20 (i := 45) (as := [.ref 33]) (g := (35, [some (.ref 33), some (.ref x1), some (.int (v2)), some (.int (v5))], [])) rfl ⟨by decide, by decide, (Nat.le_of_ble_eq_true rfl), (sm_K.g (k_33 hS9) (sm_sh.rf _)).1, (sm_K.g (k_33 hS9) (sm_sh.rf _)).2, (Nat.le_of_ble_eq_true rfl)⟩ (Nat.le_of_ble_eq_true rfl) (by decide) (sm_cI.s2 (by decide) hS9 (g45_0 (K := fun v11 M10 => (v11 = 0 ∨ v11 = 1) ∧ K v11 M10) hS9 h)) (fun v11 M10 h => ?_)
        obtain ⟨hS12, h⟩ := h
        obtain ⟨c13, h⟩ := h
        exact sm_w.end t43 sr43 21 (o := .returned (some (.int (v11)))) (M2 := M10) rfl (nar3 c13) (by decide) (⟨_, rfl, h⟩)
      · have h := h.2 hc
        refine sm_w.run t43 sr43 22 3 (M2 := M7) (f2 := (42, [some (.ref 33), some (.ref x1), some (.int (v2)), some (.int (v5))], [.int (v5), .int (v2), .ref x1])) rfl ⟨trivial, trivial, trivial, trivial⟩ ?_
        refine sm_w.cV t43 sr43 25 (i := 49) (as := [.ref x1, .int (v2), .int (v5)]) (g := (42, [some (.ref 33), some (.ref x1), some (.int (v2)), some (.int (v5))], [])) rfl ⟨by decide, by decide, (Nat.le_of_ble_eq_true rfl), (sm_K.g (kF_0 hS9 hx1) (sm_sh.rf _)).1, (sm_K.g (kF_0 hS9 hx1) (sm_sh.rf _)).2, (Nat.le_of_ble_eq_true rfl)⟩ (Nat.le_of_ble_eq_true rfl) (by decide) (sm_cV.s (by decide) hS9 h) (fun M16 h => ?_)
        obtain ⟨hS18, h⟩ := h
        refine sm_w.run t43 sr43 26 1 (M2 := M16) (f2 := (46, [some (.ref 33), some (.ref x1), some (.int (v2)), some (.int (v5))], [.int ((1 : Int32))])) rfl ⟨trivial, trivial⟩ ?_
        exact sm_w.end t43 sr43 27 (o := .returned (some (.int ((1 : Int32))))) (M2 := M16) rfl rfl (by decide) (⟨_, rfl, h⟩)
    · have h := h.2 hc
      refine sm_w.run t43 sr43 13 1 (M2 := M4) (f2 := (24, [some (.ref 33), some (.ref x1), some (.int (v2)), some (.int (v5))], [.int ((0 : Int32))])) rfl ⟨trivial, trivial⟩ ?_
      exact sm_w.end t43 sr43 14 (o := .returned (some (.int ((0 : Int32))))) (M2 := M4) rfl rfl (by decide) (⟨_, rfl, h⟩)
  · have h := h.2 hc
    refine sm_w.run t43 sr43 5 1 (M2 := M1) (f2 := (10, [some (.ref 33), some (.ref x1), some (.int (v2)), none], [.int ((0 : Int32))])) rfl ⟨trivial, trivial⟩ ?_
    exact sm_w.end t43 sr43 6 (o := .returned (some (.int ((0 : Int32))))) (M2 := M1) rfl rfl (by decide) (⟨_, rfl, h⟩)
-- 52 LineSetter$PairTable.slotOf(II)I
theorem t52 : sP 52 = (5, sp_52, sh_52) := rfl
theorem sr52 : sm_srt sp_52 = true := by decide +kernel
theorem g52_0 {M : sm_M} {x0 : Nat} {x1 : Int32} {x2 : Int32} {K : Int32 → sm_M → Prop} (hS : SH M) (hx0 : fQ x0) (h : ((x1 < 0 → K (-1 : Int32) M) ∧ (¬ x1 < 0 → ((x1 < (128 : Int32) → (vp_in x1 128) ∧ sm_w 52 (25, [some (.ref x0), none, some (.int (x2)), some (.int (iV M (x0 + 1) x1.toNatClampNeg)), some (.int ((0 : Int32)))], []) M (rI K)) ∧ (¬ x1 < (128 : Int32) → K (-1 : Int32) M))))) : sm_w 52 (sm_in sP 52 [.ref x0, .int (x1), .int (x2)]) M (rI K) := by
  show sm_w 52 (0, [some (.ref x0), some (.int (x1)), some (.int (x2)), none, none], []) M (rI K)
  refine sm_w.run t52 sr52 0 2 (M2 := M) (f2 := (if x1 < 0 then 13 else 4, [some (.ref x0), some (.int (x1)), some (.int (x2)), none, none], [])) rfl ⟨trivial, trivial, trivial⟩ ?_
  refine sm_w.ite (fun hc => ?_) (fun hc => ?_)
  · have h := h.1 hc
    refine sm_w.run t52 sr52 7 1 (M2 := M) (f2 := (14, [some (.ref x0), some (.int (x1)), some (.int (x2)), none, none], [.int ((-1 : Int32))])) rfl ⟨trivial, trivial⟩ ?_
    exact sm_w.end t52 sr52 8 (o := .returned (some (.int ((-1 : Int32))))) (M2 := M) rfl rfl (by decide) (⟨_, rfl, h⟩)
  · have h := h.2 hc
    refine sm_w.run t52 sr52 2 3 (M2 := M) (f2 := (9, [some (.ref x0), some (.int (x1)), some (.int (x2)), none, none], [va_rf (sm_rv M x0 0), .int (x1)])) rfl ⟨trivial, trivial, sm_K.g (kQ_0 hS hx0) (sm_sh.rf _), trivial⟩ ?_
    refine sm_w.fld (rQ_0 hS hx0) ?_
    refine sm_w.run t52 sr52 5 1 (M2 := M) (f2 := (10, [some (.ref x0), some (.int (x1)), some (.int (x2)), none, none], [.int (Int32.ofNat (sm_ln M (x0 + 1))), .int (x1)])) rfl ⟨sm_K.l (kQ_1 hS hx0) (sm_sh.rf _) (by decide), trivial⟩ ?_
    refine sm_w.aln (lQ_1 hS hx0) ?_
    refine sm_w.run t52 sr52 6 1 (M2 := M) (f2 := (if x1 < (128 : Int32) then 15 else 13, [some (.ref x0), some (.int (x1)), some (.int (x2)), none, none], [])) rfl ⟨trivial, trivial⟩ ?_
    refine sm_w.ite (fun hc => ?_) (fun hc => ?_)
    · have h := h.1 hc
      refine sm_w.run t52 sr52 9 2 (M2 := M) (f2 := (19, [some (.ref x0), some (.int (x1)), some (.int (x2)), none, none], [va_rf (sm_rv M x0 0)])) rfl ⟨trivial, sm_K.g (kQ_0 hS hx0) (sm_sh.rf _), trivial⟩ ?_
      refine sm_w.fld (rQ_0 hS hx0) ?_
      obtain ⟨c1, h⟩ := h
      refine sm_w.run t52 sr52 11 5 (M2 := M) (f2 := (25, [some (.ref x0), some (.int (x1)), some (.int (x2)), some (.int (iV M (x0 + 1) x1.toNatClampNeg)), some (.int ((0 : Int32)))], [])) rfl ⟨trivial, sm_K.a2 (kQ_1 hS hx0) (lQ_1 hS hx0) c1, (Nat.le_of_ble_eq_true rfl), trivial, (Nat.le_of_ble_eq_true rfl), trivial⟩ ?_
      refine sm_w.weak (ls := [some (.ref x0), none, some (.int (x2)), some (.int (iV M (x0 + 1) x1.toNatClampNeg)), some (.int ((0 : Int32)))]) (sm_leI [true, false, true, true, true] rfl) ?_
      exact h
    · have h := h.2 hc
      refine sm_w.run t52 sr52 7 1 (M2 := M) (f2 := (14, [some (.ref x0), some (.int (x1)), some (.int (x2)), none, none], [.int ((-1 : Int32))])) rfl ⟨trivial, trivial⟩ ?_
      exact sm_w.end t52 sr52 8 (o := .returned (some (.int ((-1 : Int32))))) (M2 := M) rfl rfl (by decide) (⟨_, rfl, h⟩)
theorem g52_1 {M : sm_M} {x0 : Nat} {x2 : Int32} {x3 : Int32} {x4 : Int32} {K : Int32 → sm_M → Prop} (hS : SH M) (hx0 : fQ x0) (h : (((iV M x0 4) ≤ x4 → K (-1 : Int32) M) ∧ (¬ (iV M x0 4) ≤ x4 → ((x3 < 0 → K (-1 : Int32) M) ∧ (¬ x3 < 0 → (vp_in x3 (cQ x0)) ∧ (((iV M (x0 + 3) x3.toNatClampNeg) = x2 → K x3 M) ∧ (¬ (iV M (x0 + 3) x3.toNatClampNeg) = x2 → (vp_in x3 (cQ x0)) ∧ sm_w 52 (25, [some (.ref x0), none, some (.int (x2)), some (.int (iV M (x0 + 2) x3.toNatClampNeg)), some (.int (x4 + (1 : Int32)))], []) M (rI K)))))))) : sm_w 52 (25, [some (.ref x0), none, some (.int (x2)), some (.int (x3)), some (.int (x4))], []) M (rI K) := by
  refine sm_w.run t52 sr52 16 4 (M2 := M) (f2 := (if (iV M x0 4) ≤ x4 then 63 else 34, [some (.ref x0), none, some (.int (x2)), some (.int (x3)), some (.int (x4))], [])) rfl ⟨trivial, trivial, sm_K.g (kQ_0 hS hx0) (sm_sh.rf _), trivial, trivial⟩ ?_
  refine sm_w.ite (fun hc => ?_) (fun hc => ?_)
  · have h := h.1 hc
    refine sm_w.run t52 sr52 37 1 (M2 := M) (f2 := (64, [some (.ref x0), none, some (.int (x2)), some (.int (x3)), some (.int (x4))], [.int ((-1 : Int32))])) rfl ⟨trivial, trivial⟩ ?_
    exact sm_w.end t52 sr52 38 (o := .returned (some (.int ((-1 : Int32))))) (M2 := M) rfl rfl (by decide) (⟨_, rfl, h⟩)
  · have h := h.2 hc
    refine sm_w.run t52 sr52 20 2 (M2 := M) (f2 := (if x3 < 0 then 63 else 38, [some (.ref x0), none, some (.int (x2)), some (.int (x3)), some (.int (x4))], [])) rfl ⟨trivial, trivial, trivial⟩ ?_
    refine sm_w.ite (fun hc => ?_) (fun hc => ?_)
    · have h := h.1 hc
      refine sm_w.run t52 sr52 37 1 (M2 := M) (f2 := (64, [some (.ref x0), none, some (.int (x2)), some (.int (x3)), some (.int (x4))], [.int ((-1 : Int32))])) rfl ⟨trivial, trivial⟩ ?_
      exact sm_w.end t52 sr52 38 (o := .returned (some (.int ((-1 : Int32))))) (M2 := M) rfl rfl (by decide) (⟨_, rfl, h⟩)
    · have h := h.2 hc
      refine sm_w.run t52 sr52 22 2 (M2 := M) (f2 := (42, [some (.ref x0), none, some (.int (x2)), some (.int (x3)), some (.int (x4))], [va_rf (sm_rv M x0 2)])) rfl ⟨trivial, sm_K.g (kQ_0 hS hx0) (sm_sh.rf _), trivial⟩ ?_
      refine sm_w.fld (rQ_2 hS hx0) ?_
      obtain ⟨c1, h⟩ := h
      refine sm_w.run t52 sr52 24 4 (M2 := M) (f2 := (if (iV M (x0 + 3) x3.toNatClampNeg) = x2 then 48 else 50, [some (.ref x0), none, some (.int (x2)), some (.int (x3)), some (.int (x4))], [])) rfl ⟨trivial, sm_K.a2 (kQ_3 hS hx0) (lQ_3 hS hx0) c1, trivial, trivial, trivial⟩ ?_
      refine sm_w.ite (fun hc => ?_) (fun hc => ?_)
      · have h := h.1 hc
        refine sm_w.run t52 sr52 28 1 (M2 := M) (f2 := (49, [some (.ref x0), none, some (.int (x2)), some (.int (x3)), some (.int (x4))], [.int (x3)])) rfl ⟨trivial, trivial⟩ ?_
        exact sm_w.end t52 sr52 29 (o := .returned (some (.int (x3)))) (M2 := M) rfl rfl (by decide) (⟨_, rfl, h⟩)
      · have h := h.2 hc
        refine sm_w.run t52 sr52 30 2 (M2 := M) (f2 := (54, [some (.ref x0), none, some (.int (x2)), some (.int (x3)), some (.int (x4))], [va_rf (sm_rv M x0 1)])) rfl ⟨trivial, sm_K.g (kQ_0 hS hx0) (sm_sh.rf _), trivial⟩ ?_
        refine sm_w.fld (rQ_1 hS hx0) ?_
        obtain ⟨c2, h⟩ := h
        refine sm_w.run t52 sr52 32 5 (M2 := M) (f2 := (25, [some (.ref x0), none, some (.int (x2)), some (.int (iV M (x0 + 2) x3.toNatClampNeg)), some (.int (x4 + (1 : Int32)))], [])) rfl ⟨trivial, sm_K.a2 (kQ_2 hS hx0) (lQ_2 hS hx0) c2, (Nat.le_of_ble_eq_true rfl), (Nat.le_of_ble_eq_true rfl), trivial, trivial⟩ ?_
        exact h
-- 51 LineSetter$PairTable.hasRoomFor(II)Z
theorem t51 : sP 51 = (3, sp_51, sh_51) := rfl
theorem sr51 : sm_srt sp_51 = true := by decide +kernel
theorem g51_0 {M : sm_M} {x0 : Nat} {x1 : Int32} {x2 : Int32} {K : Int32 → sm_M → Prop} (hS : SH M) (hx0 : fQ x0) (h : (((iV M x0 4) < (Int32.ofNat (cQ x0)) → K (1 : Int32) M) ∧ (¬ (iV M x0 4) < (Int32.ofNat (cQ x0)) → sm_cI 52 [.ref x0, .int (x1), .int (x2)] M (fun v2 M1 => SH M1 → ((v2 < 0 → K (0 : Int32) M1) ∧ (¬ v2 < 0 → K (1 : Int32) M1)))))) : sm_w 51 (sm_in sP 51 [.ref x0, .int (x1), .int (x2)]) M (rI K) := by
  show sm_w 51 (0, [some (.ref x0), some (.int (x1)), some (.int (x2))], []) M (rI K)
  refine sm_w.run t51 sr51 0 4 (M2 := M) (f2 := (8, [some (.ref x0), some (.int (x1)), some (.int (x2))], [va_rf (sm_rv M x0 3), .int (iV M x0 4)])) rfl ⟨trivial, sm_K.g (kQ_0 hS hx0) (sm_sh.rf _), trivial, sm_K.g (kQ_0 hS hx0) (sm_sh.rf _), trivial⟩ ?_
  refine sm_w.fld (rQ_3 hS hx0) ?_
  refine sm_w.run t51 sr51 4 1 (M2 := M) (f2 := (9, [some (.ref x0), some (.int (x1)), some (.int (x2))], [.int (Int32.ofNat (sm_ln M (x0 + 4))), .int (iV M x0 4)])) rfl ⟨sm_K.l (kQ_4 hS hx0) (sm_sh.rf _) (by decide), trivial⟩ ?_
  refine sm_w.aln (lQ_4 hS hx0) ?_
  refine sm_w.run t51 sr51 5 1 (M2 := M) (f2 := (if (iV M x0 4) < (Int32.ofNat (cQ x0)) then 21 else 12, [some (.ref x0), some (.int (x1)), some (.int (x2))], [])) rfl ⟨trivial, trivial⟩ ?_
  refine sm_w.ite (fun hc => ?_) (fun hc => ?_)
  · have h := h.1 hc
    refine sm_w.run t51 sr51 11 2 (M2 := M) (f2 := (26, [some (.ref x0), some (.int (x1)), some (.int (x2))], [.int ((1 : Int32))])) rfl ⟨trivial, trivial, trivial⟩ ?_
    exact sm_w.end t51 sr51 14 (o := .returned (some (.int ((1 : Int32))))) (M2 := M) rfl rfl (by decide) (⟨_, rfl, h⟩)
  · have h := h.2 hc
    refine sm_w.run t51 sr51 6 3 (M2 := M) (f2 := (15, [some (.ref x0), some (.int (x1)), some (.int (x2))], [.int (x2), .int (x1), .ref x0])) rfl ⟨trivial, trivial, trivial, trivial⟩ ?_
    refine sm_w.cI t51 sr51 9 (i := 52) (as := [.ref x0, .int (x1), .int (x2)]) (g := (15, [some (.ref x0), some (.int (x1)), some (.int (x2))], [])) rfl ⟨by decide, by decide, (Nat.le_of_ble_eq_true rfl), (sm_K.g (kQ_0 hS hx0) (sm_sh.rf _)).1, (sm_K.g (kQ_0 hS hx0) (sm_sh.rf _)).2, (Nat.le_of_ble_eq_true rfl)⟩ (Nat.le_of_ble_eq_true rfl) (by decide) (sm_cI.s (by decide) hS h) (fun v2 M1 h => ?_)
    obtain ⟨hS3, h⟩ := h
    refine sm_w.run t51 sr51 10 1 (M2 := M1) (f2 := (if v2 < 0 then 25 else 21, [some (.ref x0), some (.int (x1)), some (.int (x2))], [])) rfl ⟨trivial, trivial⟩ ?_
    refine sm_w.ite (fun hc => ?_) (fun hc => ?_)
    · have h := h.1 hc
      refine sm_w.run t51 sr51 13 1 (M2 := M1) (f2 := (26, [some (.ref x0), some (.int (x1)), some (.int (x2))], [.int ((0 : Int32))])) rfl ⟨trivial, trivial⟩ ?_
      exact sm_w.end t51 sr51 14 (o := .returned (some (.int ((0 : Int32))))) (M2 := M1) rfl rfl (by decide) (⟨_, rfl, h⟩)
    · have h := h.2 hc
      refine sm_w.run t51 sr51 11 2 (M2 := M1) (f2 := (26, [some (.ref x0), some (.int (x1)), some (.int (x2))], [.int ((1 : Int32))])) rfl ⟨trivial, trivial, trivial⟩ ?_
      exact sm_w.end t51 sr51 14 (o := .returned (some (.int ((1 : Int32))))) (M2 := M1) rfl rfl (by decide) (⟨_, rfl, h⟩)
