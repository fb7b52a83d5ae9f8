/-! METHODS by their segments. -/
-- 183 LineSetterModel.nextWord()V
theorem t183 : sP 183 = (2, sp_183, sh_183) := rfl
theorem sr183 : sm_srt sp_183 = true := by decide +kernel
theorem g183_0 {M : sm_M}  {K : sm_M → Prop} (hS : SH M)  (h : ∀ M1, SH M1 → M1 = sm_wI M 116 49 (iV M 116 50) → sm_w 183 (8, [some (.ref 116), none], []) M1 (rV K)) : sm_w 183 (sm_in sP 183 [.ref 116]) M (rV K) := by
  show sm_w 183 (0, [some (.ref 116), none], []) M (rV K)
  refine sm_w.run t183 sr183 0 4 (M2 := sm_wI M 116 49 (iV M 116 50)) (f2 := (8, [some (.ref 116), none], [])) rfl ⟨trivial, trivial, sm_K.g (k_116 hS) (sm_sh.rf _), ⟨(sm_K.p (k_116 hS) (sm_sh.rf _)).1, (sm_K.p (k_116 hS) (sm_sh.rf _)).2.1, (sm_K.p (k_116 hS) (sm_sh.rf _)).2.2, Or.inl rfl⟩, trivial⟩ ?_
  have hS2 : SH (sm_wI M 116 49 (iV M 116 50)) := SH.wI hS _ _ _
  have h := h _ hS2 rfl
  generalize sm_wI M 116 49 (iV M 116 50) = M1 at h hS2 ⊢
  exact h
theorem g183_1 {M : sm_M}  {K : sm_M → Prop} (hS : SH M)  (h : (q171_0 M (iV M 116 49)) ∧ (((p172_0 M (p171_0 M (iV M 116 49))) = 0 → ∀ M2, SH M2 → M2 = sm_wI M 116 50 (iV M 116 49) → sm_w 183 (43, [some (.ref 116), none], []) M2 (rV K)) ∧ (¬ (p172_0 M (p171_0 M (iV M 116 49))) = 0 → ∀ M4, SH M4 → M4 = sm_wI M 116 49 ((iV M 116 49) + (1 : Int32)) → sm_w 183 (8, [some (.ref 116), none], []) M4 (rV K)))) : sm_w 183 (8, [some (.ref 116), none], []) M (rV K) := by
  obtain ⟨c1, h⟩ := h
  refine sm_w.run t183 sr183 4 3 (M2 := M) (f2 := (13, [some (.ref 116), none], [.int (iV M 116 49), .ref 116])) rfl ⟨trivial, trivial, sm_K.g (k_116 hS) (sm_sh.rf _), trivial⟩ ?_
  refine sm_w.cI t183 sr183 7 (i := 171) (as := [.ref 116, .int (iV M 116 49)]) (g := (13, [some (.ref 116), none], [])) rfl ⟨by decide, by decide, (Nat.le_of_ble_eq_true rfl), (sm_K.g (k_116 hS) (sm_sh.rf _)).1, (sm_K.g (k_116 hS) (sm_sh.rf _)).2, (Nat.le_of_ble_eq_true rfl)⟩ (Nat.le_of_ble_eq_true rfl) (by decide) (p171_c hS c1) (fun vz M2 hz => ?_)
  obtain ⟨hz1, hz2⟩ := hz
  subst hz1
  have hz2 := hz2.symm
  subst hz2
  refine sm_w.cI t183 sr183 8 (i := 172) (as := [.int (p171_0 M (iV M 116 49))]) (g := (16, [some (.ref 116), none], [])) rfl ⟨(Nat.le_of_ble_eq_true rfl), (Nat.le_of_ble_eq_true rfl)⟩ (Nat.le_of_ble_eq_true rfl) (by decide) (p172_c hS) (fun vz M2 hz => ?_)
  obtain ⟨hz1, hz2⟩ := hz
  subst hz1
  have hz2 := hz2.symm
  subst hz2
  refine sm_w.run t183 sr183 9 1 (M2 := M) (f2 := (if (p172_0 M (p171_0 M (iV M 116 49))) = 0 then 35 else 22, [some (.ref 116), none], [])) rfl ⟨trivial, trivial⟩ ?_
  refine sm_w.ite (fun hc => ?_) (fun hc => ?_)
  · have h := h.1 hc
    refine sm_w.run t183 sr183 17 4 (M2 := sm_wI M 116 50 (iV M 116 49)) (f2 := (43, [some (.ref 116), none], [])) rfl ⟨trivial, trivial, sm_K.g (k_116 hS) (sm_sh.rf _), ⟨(sm_K.p (k_116 hS) (sm_sh.rf _)).1, (sm_K.p (k_116 hS) (sm_sh.rf _)).2.1, (sm_K.p (k_116 hS) (sm_sh.rf _)).2.2, Or.inl rfl⟩, trivial⟩ ?_
    have hS3 : SH (sm_wI M 116 50 (iV M 116 49)) := SH.wI hS _ _ _
    have h := h _ hS3 rfl
    generalize sm_wI M 116 50 (iV M 116 49) = M2 at h hS3 ⊢
    exact h
  · have h := h.2 hc
    refine sm_w.run t183 sr183 10 6 (M2 := sm_wI M 116 49 ((iV M 116 49) + (1 : Int32))) (f2 := (32, [some (.ref 116), none], [])) rfl ⟨trivial, rfl, sm_K.g (k_116 hS) (sm_sh.rf _), trivial, trivial, ⟨(sm_K.p (k_116 hS) (sm_sh.rf _)).1, (sm_K.p (k_116 hS) (sm_sh.rf _)).2.1, (sm_K.p (k_116 hS) (sm_sh.rf _)).2.2, Or.inl rfl⟩, trivial⟩ ?_
    have hS5 : SH (sm_wI M 116 49 ((iV M 116 49) + (1 : Int32))) := SH.wI hS _ _ _
    have h := h _ hS5 rfl
    generalize sm_wI M 116 49 ((iV M 116 49) + (1 : Int32)) = M4 at h hS5 ⊢
    refine sm_w.run t183 sr183 16 1 (M2 := M4) (f2 := (8, [some (.ref 116), none], [])) rfl ⟨trivial, trivial⟩ ?_
    exact h
theorem g183_2 {M : sm_M}  {K : sm_M → Prop} (hS : SH M)  (h : (((iV M 116 4) ≤ (iV M 116 50) → sm_w 183 (87, [some (.ref 116), some (.int (iV M 116 49))], []) M (rV K)) ∧ (¬ (iV M 116 4) ≤ (iV M 116 50) → (vp_in (iV M 116 50) 8192) ∧ (((p172_0 M (iV M 118 (iV M 116 50).toNatClampNeg)) = 0 → ∀ M2, SH M2 → M2 = sm_wI M 116 50 ((iV M 116 50) + (1 : Int32)) → sm_w 183 (43, [some (.ref 116), none], []) M2 (rV K)) ∧ (¬ (p172_0 M (iV M 118 (iV M 116 50).toNatClampNeg)) = 0 → sm_w 183 (87, [some (.ref 116), some (.int (iV M 116 49))], []) M (rV K)))))) : sm_w 183 (43, [some (.ref 116), none], []) M (rV K) := by
  refine sm_w.run t183 sr183 21 5 (M2 := M) (f2 := (if (iV M 116 4) ≤ (iV M 116 50) then 82 else 54, [some (.ref 116), none], [])) rfl ⟨trivial, sm_K.g (k_116 hS) (sm_sh.rf _), trivial, sm_K.g (k_116 hS) (sm_sh.rf _), trivial, trivial⟩ ?_
  refine sm_w.ite (fun hc => ?_) (fun hc => ?_)
  · have h := h.1 hc
    refine sm_w.run t183 sr183 40 3 (M2 := M) (f2 := (87, [some (.ref 116), some (.int (iV M 116 49))], [])) rfl ⟨trivial, sm_K.g (k_116 hS) (sm_sh.rf _), (Nat.le_of_ble_eq_true rfl), trivial⟩ ?_
    exact h
  · have h := h.2 hc
    refine sm_w.run t183 sr183 26 2 (M2 := M) (f2 := (58, [some (.ref 116), none], [va_rf (sm_rv M 116 2)])) rfl ⟨trivial, sm_K.g (k_116 hS) (sm_sh.rf _), trivial⟩ ?_
    refine sm_w.fld (r_116_2 hS) ?_
    obtain ⟨c1, h⟩ := h
    refine sm_w.run t183 sr183 28 3 (M2 := M) (f2 := (63, [some (.ref 116), none], [.int (iV M 118 (iV M 116 50).toNatClampNeg)])) rfl ⟨trivial, sm_K.g (k_116 hS) (sm_sh.rf _), sm_K.a2 (k_118 hS) (l_118 hS) c1, trivial⟩ ?_
    refine sm_w.cI t183 sr183 31 (i := 172) (as := [.int (iV M 118 (iV M 116 50).toNatClampNeg)]) (g := (63, [some (.ref 116), none], [])) rfl ⟨(Nat.le_of_ble_eq_true rfl), (Nat.le_of_ble_eq_true rfl)⟩ (Nat.le_of_ble_eq_true rfl) (by decide) (p172_c hS) (fun vz M2 hz => ?_)
    obtain ⟨hz1, hz2⟩ := hz
    subst hz1
    have hz2 := hz2.symm
    subst hz2
    refine sm_w.run t183 sr183 32 1 (M2 := M) (f2 := (if (p172_0 M (iV M 118 (iV M 116 50).toNatClampNeg)) = 0 then 69 else 82, [some (.ref 116), none], [])) rfl ⟨trivial, trivial⟩ ?_
    refine sm_w.ite (fun hc => ?_) (fun hc => ?_)
    · have h := h.1 hc
      refine sm_w.run t183 sr183 33 6 (M2 := sm_wI M 116 50 ((iV M 116 50) + (1 : Int32))) (f2 := (79, [some (.ref 116), none], [])) rfl ⟨trivial, rfl, sm_K.g (k_116 hS) (sm_sh.rf _), trivial, trivial, ⟨(sm_K.p (k_116 hS) (sm_sh.rf _)).1, (sm_K.p (k_116 hS) (sm_sh.rf _)).2.1, (sm_K.p (k_116 hS) (sm_sh.rf _)).2.2, Or.inl rfl⟩, trivial⟩ ?_
      have hS3 : SH (sm_wI M 116 50 ((iV M 116 50) + (1 : Int32))) := SH.wI hS _ _ _
      have h := h _ hS3 rfl
      generalize sm_wI M 116 50 ((iV M 116 50) + (1 : Int32)) = M2 at h hS3 ⊢
      refine sm_w.run t183 sr183 39 1 (M2 := M2) (f2 := (43, [some (.ref 116), none], [])) rfl ⟨trivial, trivial⟩ ?_
      exact h
    · have h := h.2 hc
      refine sm_w.run t183 sr183 40 3 (M2 := M) (f2 := (87, [some (.ref 116), some (.int (iV M 116 49))], [])) rfl ⟨trivial, sm_K.g (k_116 hS) (sm_sh.rf _), (Nat.le_of_ble_eq_true rfl), trivial⟩ ?_
      exact h
theorem g183_3 {M : sm_M} {x1 : Int32} {K : sm_M → Prop} (hS : SH M)  (h : (((iV M 116 50) ≤ x1 → K M) ∧ (¬ (iV M 116 50) ≤ x1 → (vp_in x1 8192) ∧ (((iV M 118 x1.toNatClampNeg) < (33 : Int32) → sm_cV 177 [.ref 116, .int (iV M 116 49)] M (fun M2 => SH M2 → sm_w 183 (87, [some (.ref 116), some (.int (x1 + (1 : Int32)))], []) M2 (rV K))) ∧ (¬ (iV M 118 x1.toNatClampNeg) < (33 : Int32) → (vp_in x1 8192) ∧ (((iV M 118 x1.toNatClampNeg) ≤ (126 : Int32) → sm_w 183 (87, [some (.ref 116), some (.int (x1 + (1 : Int32)))], []) M (rV K)) ∧ (¬ (iV M 118 x1.toNatClampNeg) ≤ (126 : Int32) → sm_cV 177 [.ref 116, .int (iV M 116 49)] M (fun M6 => SH M6 → sm_w 183 (87, [some (.ref 116), some (.int (x1 + (1 : Int32)))], []) M6 (rV K))))))))) : sm_w 183 (87, [some (.ref 116), some (.int (x1))], []) M (rV K) := by
  refine sm_w.run t183 sr183 43 4 (M2 := M) (f2 := (if (iV M 116 50) ≤ x1 then 131 else 95, [some (.ref 116), some (.int (x1))], [])) rfl ⟨trivial, trivial, sm_K.g (k_116 hS) (sm_sh.rf _), trivial, trivial⟩ ?_
  refine sm_w.ite (fun hc => ?_) (fun hc => ?_)
  · have h := h.1 hc
    exact sm_w.end t183 sr183 65 (o := .returned none) (M2 := M) rfl trivial (by decide) (⟨rfl, h⟩)
  · have h := h.2 hc
    refine sm_w.run t183 sr183 47 2 (M2 := M) (f2 := (99, [some (.ref 116), some (.int (x1))], [va_rf (sm_rv M 116 2)])) rfl ⟨trivial, sm_K.g (k_116 hS) (sm_sh.rf _), trivial⟩ ?_
    refine sm_w.fld (r_116_2 hS) ?_
    obtain ⟨c1, h⟩ := h
    refine sm_w.run t183 sr183 49 4 (M2 := M) (f2 := (if (iV M 118 x1.toNatClampNeg) < (33 : Int32) then 117 else 106, [some (.ref 116), some (.int (x1))], [])) rfl ⟨trivial, sm_K.a2 (k_118 hS) (l_118 hS) c1, trivial, trivial, trivial⟩ ?_
    refine sm_w.ite (fun hc => ?_) (fun hc => ?_)
    · have h := h.1 hc
      refine sm_w.run t183 sr183 59 3 (M2 := M) (f2 := (122, [some (.ref 116), some (.int (x1))], [.int (iV M 116 49), .ref 116])) rfl ⟨trivial, trivial, sm_K.g (k_116 hS) (sm_sh.rf _), trivial⟩ ?_
      refine sm_w.cV t183 sr183 62 (i := 177) (as := [.ref 116, .int (iV M 116 49)]) (g := (122, [some (.ref 116), some (.int (x1))], [])) rfl ⟨by decide, by decide, (Nat.le_of_ble_eq_true rfl), (sm_K.g (k_116 hS) (sm_sh.rf _)).1, (sm_K.g (k_116 hS) (sm_sh.rf _)).2, (Nat.le_of_ble_eq_true rfl)⟩ (Nat.le_of_ble_eq_true rfl) (by decide) (sm_cV.s (by decide) hS h) (fun M2 h => ?_)
      obtain ⟨hS4, h⟩ := h
      refine sm_w.run t183 sr183 63 2 (M2 := M2) (f2 := (87, [some (.ref 116), some (.int (x1 + (1 : Int32)))], [])) rfl ⟨(Nat.le_of_ble_eq_true rfl), trivial, trivial⟩ ?_
      exact h
    · have h := h.2 hc
      refine sm_w.run t183 sr183 53 2 (M2 := M) (f2 := (110, [some (.ref 116), some (.int (x1))], [va_rf (sm_rv M 116 2)])) rfl ⟨trivial, sm_K.g (k_116 hS) (sm_sh.rf _), trivial⟩ ?_
      refine sm_w.fld (r_116_2 hS) ?_
      obtain ⟨c5, h⟩ := h
      refine sm_w.run t183 sr183 55 4 (M2 := M) (f2 := (if (iV M 118 x1.toNatClampNeg) ≤ (126 : Int32) then 125 else 117, [some (.ref 116), some (.int (x1))], [])) rfl ⟨trivial, sm_K.a2 (k_118 hS) (l_118 hS) c5, trivial, trivial, trivial⟩ ?_
      refine sm_w.ite (fun hc => ?_) (fun hc => ?_)
      · have h := h.1 hc
        refine sm_w.run t183 sr183 63 2 (M2 := M) (f2 := (87, [some (.ref 116), some (.int (x1 + (1 : Int32)))], [])) rfl ⟨(Nat.le_of_ble_eq_true rfl), trivial, trivial⟩ ?_
        exact h
      · have h := h.2 hc
        refine sm_w.run t183 sr183 59 3 (M2 := M) (f2 := (122, [some (.ref 116), some (.int (x1))], [.int (iV M 116 49), .ref 116])) rfl ⟨trivial, trivial, sm_K.g (k_116 hS) (sm_sh.rf _), trivial⟩ ?_
        refine sm_w.cV t183 sr183 62 (i := 177) (as := [.ref 116, .int (iV M 116 49)]) (g := (122, [some (.ref 116), some (.int (x1))], [])) rfl ⟨by decide, by decide, (Nat.le_of_ble_eq_true rfl), (sm_K.g (k_116 hS) (sm_sh.rf _)).1, (sm_K.g (k_116 hS) (sm_sh.rf _)).2, (Nat.le_of_ble_eq_true rfl)⟩ (Nat.le_of_ble_eq_true rfl) (by decide) (sm_cV.s (by decide) hS h) (fun M6 h => ?_)
        obtain ⟨hS8, h⟩ := h
        refine sm_w.run t183 sr183 63 2 (M2 := M6) (f2 := (87, [some (.ref 116), some (.int (x1 + (1 : Int32)))], [])) rfl ⟨(Nat.le_of_ble_eq_true rfl), trivial, trivial⟩ ?_
        exact h
-- 186 LineSetterModel.isException(II)Z
theorem t186 : sP 186 = (4, sp_186, sh_186) := rfl
theorem sr186 : sm_srt sp_186 = true := by decide +kernel
theorem g186_0 {M : sm_M} {x1 : Int32} {x2 : Int32} {K : Int32 → sm_M → Prop} (hS : SH M)  (h : (vp_in x1 120) ∧ (((iV M 139 x1.toNatClampNeg) = x2 → sm_w 186 (14, [some (.ref 116), some (.int (x1)), some (.int (x2)), some (.int ((0 : Int32)))], []) M (rI K)) ∧ (¬ (iV M 139 x1.toNatClampNeg) = x2 → K (0 : Int32) M))) : sm_w 186 (sm_in sP 186 [.ref 116, .int (x1), .int (x2)]) M (rI K) := by
  show sm_w 186 (0, [some (.ref 116), some (.int (x1)), some (.int (x2)), none], []) M (rI K)
  refine sm_w.run t186 sr186 0 2 (M2 := M) (f2 := (4, [some (.ref 116), some (.int (x1)), some (.int (x2)), none], [va_rf (sm_rv M 116 41)])) rfl ⟨trivial, sm_K.g (k_116 hS) (sm_sh.rf _), trivial⟩ ?_
  refine sm_w.fld (r_116_41 hS) ?_
  obtain ⟨c1, h⟩ := h
  refine sm_w.run t186 sr186 2 4 (M2 := M) (f2 := (if (iV M 139 x1.toNatClampNeg) = x2 then 12 else 10, [some (.ref 116), some (.int (x1)), some (.int (x2)), none], [])) rfl ⟨trivial, sm_K.a2 (k_139 hS) (l_139 hS) c1, trivial, trivial, trivial⟩ ?_
  refine sm_w.ite (fun hc => ?_) (fun hc => ?_)
  · have h := h.1 hc
    refine sm_w.run t186 sr186 8 2 (M2 := M) (f2 := (14, [some (.ref 116), some (.int (x1)), some (.int (x2)), some (.int ((0 : Int32)))], [])) rfl ⟨trivial, (Nat.le_of_ble_eq_true rfl), trivial⟩ ?_
    exact h
  · have h := h.2 hc
    refine sm_w.run t186 sr186 6 1 (M2 := M) (f2 := (11, [some (.ref 116), some (.int (x1)), some (.int (x2)), none], [.int ((0 : Int32))])) rfl ⟨trivial, trivial⟩ ?_
    exact sm_w.end t186 sr186 7 (o := .returned (some (.int ((0 : Int32))))) (M2 := M) rfl rfl (by decide) (⟨_, rfl, h⟩)
theorem g186_1 {M : sm_M} {x1 : Int32} {x2 : Int32} {x3 : Int32} {K : Int32 → sm_M → Prop} (hS : SH M)  (h : ((x2 ≤ x3 → K (1 : Int32) M) ∧ (¬ x2 ≤ x3 → (vp_in (((32 : Int32) * x1) + x3) 3840) ∧ (vp_in x3 40) ∧ (((iV M 138 (((32 : Int32) * x1) + x3).toNatClampNeg) = (iV M 141 x3.toNatClampNeg) → sm_w 186 (14, [some (.ref 116), some (.int (x1)), some (.int (x2)), some (.int (x3 + (1 : Int32)))], []) M (rI K)) ∧ (¬ (iV M 138 (((32 : Int32) * x1) + x3).toNatClampNeg) = (iV M 141 x3.toNatClampNeg) → K (0 : Int32) M))))) : sm_w 186 (14, [some (.ref 116), some (.int (x1)), some (.int (x2)), some (.int (x3))], []) M (rI K) := by
  refine sm_w.run t186 sr186 10 3 (M2 := M) (f2 := (if x2 ≤ x3 then 47 else 19, [some (.ref 116), some (.int (x1)), some (.int (x2)), some (.int (x3))], [])) rfl ⟨trivial, trivial, trivial, trivial⟩ ?_
  refine sm_w.ite (fun hc => ?_) (fun hc => ?_)
  · have h := h.1 hc
    refine sm_w.run t186 sr186 30 1 (M2 := M) (f2 := (48, [some (.ref 116), some (.int (x1)), some (.int (x2)), some (.int (x3))], [.int ((1 : Int32))])) rfl ⟨trivial, trivial⟩ ?_
    exact sm_w.end t186 sr186 31 (o := .returned (some (.int ((1 : Int32))))) (M2 := M) rfl rfl (by decide) (⟨_, rfl, h⟩)
  · have h := h.2 hc
    refine sm_w.run t186 sr186 13 2 (M2 := M) (f2 := (23, [some (.ref 116), some (.int (x1)), some (.int (x2)), some (.int (x3))], [va_rf (sm_rv M 116 40)])) rfl ⟨trivial, sm_K.g (k_116 hS) (sm_sh.rf _), trivial⟩ ?_
    refine sm_w.fld (r_116_40 hS) ?_
    obtain ⟨c1, h⟩ := h
    refine sm_w.run t186 sr186 15 8 (M2 := M) (f2 := (34, [some (.ref 116), some (.int (x1)), some (.int (x2)), some (.int (x3))], [va_rf (sm_rv M 116 47), .int (iV M 138 (((32 : Int32) * x1) + x3).toNatClampNeg)])) rfl ⟨trivial, trivial, trivial, trivial, trivial, sm_K.a2 (k_138 hS) (l_138 hS) c1, trivial, sm_K.g (k_116 hS) (sm_sh.rf _), trivial⟩ ?_
    refine sm_w.fld (r_116_47 hS) ?_
    obtain ⟨c2, h⟩ := h
    refine sm_w.run t186 sr186 23 3 (M2 := M) (f2 := (if (iV M 138 (((32 : Int32) * x1) + x3).toNatClampNeg) = (iV M 141 x3.toNatClampNeg) then 41 else 39, [some (.ref 116), some (.int (x1)), some (.int (x2)), some (.int (x3))], [])) rfl ⟨trivial, sm_K.a2 (k_141 hS) (l_141 hS) c2, trivial, trivial⟩ ?_
    refine sm_w.ite (fun hc => ?_) (fun hc => ?_)
    · have h := h.1 hc
      refine sm_w.run t186 sr186 28 2 (M2 := M) (f2 := (14, [some (.ref 116), some (.int (x1)), some (.int (x2)), some (.int (x3 + (1 : Int32)))], [])) rfl ⟨(Nat.le_of_ble_eq_true rfl), trivial, trivial⟩ ?_
      exact h
    · have h := h.2 hc
      refine sm_w.run t186 sr186 26 1 (M2 := M) (f2 := (40, [some (.ref 116), some (.int (x1)), some (.int (x2)), some (.int (x3))], [.int ((0 : Int32))])) rfl ⟨trivial, trivial⟩ ?_
      exact sm_w.end t186 sr186 27 (o := .returned (some (.int ((0 : Int32))))) (M2 := M) rfl rfl (by decide) (⟨_, rfl, h⟩)
