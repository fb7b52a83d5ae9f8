/-! METHODS by their segments. -/
-- 60 LineSetter$HyphenReader.readEntry(LLineSetter$HyphenTable;)Z
theorem t60 : sP 60 = (2, sp_60, sh_60) := rfl
theorem sr60 : sm_srt sp_60 = true := by decide +kernel
theorem g60_0 {M : sm_M} {x1 : Nat} {K : Int32 → sm_M → Prop} (hS : SH M) (hx1 : fH x1) (h : sm_cI 61 [.ref 34] M (fun v2 M1 => SH M1 → ((v2 = 0 → (q30_0 M1 24 (iV M1 34 1)) ∧ (((p30_0 M1 24 (iV M1 34 1)) = (61 : Int32) → sm_cI 64 [.ref 34, .ref x1] M1 (fun v6 M5 => SH M5 → (v6 = 0 ∨ v6 = 1) ∧ K v6 M5)) ∧ (¬ (p30_0 M1 24 (iV M1 34 1)) = (61 : Int32) → sm_cI 71 [.ref 34, .ref x1] M1 (fun v10 M9 => SH M9 → (v10 = 0 ∨ v10 = 1) ∧ K v10 M9)))) ∧ (¬ v2 = 0 → sm_cI 29 [.ref 24, .int (iV M1 34 2)] M1 (fun v21 M20 => SH M20 → ∀ M23, SH M23 → M23 = sm_wI M20 34 1 v21 → sm_cI 59 [.ref 24, .int (iV M23 34 1)] M23 (fun v26 M25 => SH M25 → ∀ M28, SH M28 → M28 = sm_wI M25 34 2 v26 → sm_cI 62 [.ref 34, .ref x1] M28 (fun v17 M16 => SH M16 → (v17 = 0 ∨ v17 = 1) ∧ K v17 M16))))))) : sm_w 60 (sm_in sP 60 [.ref 34, .ref x1]) M (rI K) := by
  show sm_w 60 (0, [some (.ref 34), some (.ref x1)], []) M (rI K)
  refine sm_w.run t60 sr60 0 1 (M2 := M) (f2 := (1, [some (.ref 34), some (.ref x1)], [.ref 34])) rfl ⟨trivial, trivial⟩ ?_
  refine sm_w.cI t60 sr60 1 (i := 61) (as := [.ref 34]) (g := (1, [some (.ref 34), some (.ref x1)], [])) rfl ⟨by decide, by decide, (Nat.le_of_ble_eq_true rfl), (sm_K.g (k_34 hS) (sm_sh.rf _)).1, (sm_K.g (k_34 hS) (sm_sh.rf _)).2, (Nat.le_of_ble_eq_true rfl)⟩ (Nat.le_of_ble_eq_true rfl) (by decide) (sm_cI.s (by decide) hS h) (fun v2 M1 h => ?_)
  obtain ⟨hS3, h⟩ := h
  refine sm_w.run t60 sr60 2 1 (M2 := M1) (f2 := (if v2 = 0 then 17 else 7, [some (.ref 34), some (.ref x1)], [])) rfl ⟨trivial, trivial⟩ ?_
  refine sm_w.ite (fun hc => ?_) (fun hc => ?_)
  · have h := h.1 hc
    refine sm_w.run t60 sr60 9 2 (M2 := M1) (f2 := (21, [some (.ref 34), some (.ref x1)], [va_rf (sm_rv M1 34 0)])) rfl ⟨trivial, sm_K.g (k_34 hS3) (sm_sh.rf _), trivial⟩ ?_
    refine sm_w.fld (r_34_0 hS3) ?_
    obtain ⟨c4, h⟩ := h
    refine sm_w.run t60 sr60 11 2 (M2 := M1) (f2 := (25, [some (.ref 34), some (.ref x1)], [.int (iV M1 34 1), .ref 24])) rfl ⟨trivial, sm_K.g (k_34 hS3) (sm_sh.rf _), trivial⟩ ?_
    refine sm_w.cI t60 sr60 13 (i := 30) (as := [.ref 24, .int (iV M1 34 1)]) (g := (25, [some (.ref 34), some (.ref x1)], [])) rfl ⟨by decide, by decide, (Nat.le_of_ble_eq_true rfl), (sm_K.g (kB_0 hS3 fB_24) (sm_sh.rf _)).1, (sm_K.g (kB_0 hS3 fB_24) (sm_sh.rf _)).2, (Nat.le_of_ble_eq_true rfl)⟩ (Nat.le_of_ble_eq_true rfl) (by decide) (p30_c hS3 fB_24 c4) (fun vz M2 hz => ?_)
    obtain ⟨hz1, hz2⟩ := hz
    subst hz1
    have hz2 := hz2.symm
    subst hz2
    refine sm_w.run t60 sr60 14 2 (M2 := M1) (f2 := (if (p30_0 M1 24 (iV M1 34 1)) = (61 : Int32) then 33 else 39, [some (.ref 34), some (.ref x1)], [])) rfl ⟨trivial, trivial, trivial⟩ ?_
    refine sm_w.ite (fun hc => ?_) (fun hc => ?_)
    · have h := h.1 hc
      refine sm_w.run t60 sr60 16 2 (M2 := M1) (f2 := (35, [some (.ref 34), some (.ref x1)], [.ref x1, .ref 34])) rfl ⟨trivial, trivial, trivial⟩ ?_
      refine sm_w.cI t60 sr60 18 (i := 64) (as := [.ref 34, .ref x1]) (g := (35, [some (.ref 34), some (.ref x1)], [])) rfl ⟨by decide, by decide, (Nat.le_of_ble_eq_true rfl), (sm_K.g (k_34 hS3) (sm_sh.rf _)).1, (sm_K.g (k_34 hS3) (sm_sh.rf _)).2, (Nat.le_of_ble_eq_true rfl)⟩ (Nat.le_of_ble_eq_true rfl) (by decide) (sm_cI.s (by decide) hS3 h) (fun v6 M5 h => ?_)
      obtain ⟨hS7, h⟩ := h
      obtain ⟨c8, h⟩ := h
      exact sm_w.end t60 sr60 19 (o := .returned (some (.int (v6)))) (M2 := M5) rfl (nar3 c8) (by decide) (⟨_, rfl, h⟩)
    · have h := h.2 hc
      refine sm_w.run t60 sr60 20 2 (M2 := M1) (f2 := (41, [some (.ref 34), some (.ref x1)], [.ref x1, .ref 34])) rfl ⟨trivial, trivial, trivial⟩ ?_
      refine sm_w.cI t60 sr60 22 (i := 71) (as := [.ref 34, .ref x1]) (g := (41, [some (.ref 34), some (.ref x1)], [])) rfl ⟨by decide, by decide, (Nat.le_of_ble_eq_true rfl), (sm_K.g (k_34 hS3) (sm_sh.rf _)).1, (sm_K.g (k_34 hS3) (sm_sh.rf _)).2, (Nat.le_of_ble_eq_true rfl)⟩ (Nat.le_of_ble_eq_true rfl) (by decide) (sm_cI.s (by decide) hS3 h) (fun v10 M9 h => ?_)
      obtain ⟨hS11, h⟩ := h
      obtain ⟨c12, h⟩ := h
      exact sm_w.end t60 sr60 23 (o := .returned (some (.int (v10)))) (M2 := M9) rfl (nar3 c12) (by decide) (⟨_, rfl, h⟩)
  · have h := h.2 hc
    refine sm_w.run t60 sr60 3 1 (M2 := M1) (f2 := (8, [some (.ref 34), some (.ref x1)], [.ref 34])) rfl ⟨trivial, trivial⟩ ?_
    refine sm_w.cV t60 sr60 4 (i := 58) (as := [.ref 34]) (g := (8, [some (.ref 34), some (.ref x1)], [])) rfl ⟨by decide, by decide, (Nat.le_of_ble_eq_true rfl), (sm_K.g (k_34 hS3) (sm_sh.rf _)).1, (sm_K.g (k_34 hS3) (sm_sh.rf _)).2, (Nat.le_of_ble_eq_true rfl)⟩ (Nat.le_of_ble_eq_true rfl) (by decide) (sm_cV.s2 (by decide) hS3 (g58_0 (K := fun M13 => sm_cI 62 [.ref 34, .ref x1] M13 (fun v17 M16 => SH M16 → (v17 = 0 ∨ v17 = 1) ∧ K v17 M16)) hS3 h)) (fun M13 h => ?_)
    obtain ⟨hS15, h⟩ := h
    refine sm_w.run t60 sr60 5 2 (M2 := M13) (f2 := (13, [some (.ref 34), some (.ref x1)], [.ref x1, .ref 34])) rfl ⟨trivial, trivial, trivial⟩ ?_
    refine sm_w.cI t60 sr60 7 (i := 62) (as := [.ref 34, .ref x1]) (g := (13, [some (.ref 34), some (.ref x1)], [])) rfl ⟨by decide, by decide, (Nat.le_of_ble_eq_true rfl), (sm_K.g (k_34 hS15) (sm_sh.rf _)).1, (sm_K.g (k_34 hS15) (sm_sh.rf _)).2, (Nat.le_of_ble_eq_true rfl)⟩ (Nat.le_of_ble_eq_true rfl) (by decide) (sm_cI.s (by decide) hS15 h) (fun v17 M16 h => ?_)
    obtain ⟨hS18, h⟩ := h
    obtain ⟨c19, h⟩ := h
    exact sm_w.end t60 sr60 8 (o := .returned (some (.int (v17)))) (M2 := M16) rfl (nar3 c19) (by decide) (⟨_, rfl, h⟩)
-- 57 LineSetter$HyphenReader.readInto(LLineSetter$HyphenTable;)I
theorem t57 : sP 57 = (3, sp_57, sh_57) := rfl
theorem sr57 : sm_srt sp_57 = true := by decide +kernel
theorem g57_0 {M : sm_M} {x1 : Nat} {K : Int32 → sm_M → Prop} (hS : SH M) (hx1 : fH x1) (h : (vp_in (0 : Int32) 4201) ∧ ∀ M22, SH M22 → M22 = sm_wI M (x1 + 1) (0 : Int32).toNatClampNeg (-1 : Int32) → (vp_in (0 : Int32) 4201) ∧ ∀ M25, SH M25 → M25 = sm_wI M22 (x1 + 2) (0 : Int32).toNatClampNeg (-1 : Int32) → (vp_in (0 : Int32) 4201) ∧ ∀ M28, SH M28 → M28 = sm_wI M25 (x1 + 4) (0 : Int32).toNatClampNeg (-1 : Int32) → ∀ M30, SH M30 → M30 = sm_wI M28 x1 4 (1 : Int32) → ∀ M32, SH M32 → M32 = sm_wI M30 x1 6 (0 : Int32) → ∀ M34, SH M34 → M34 = sm_wI M32 x1 10 (0 : Int32) → ∀ M36, SH M36 → M36 = sm_wI M34 x1 11 (2 : Int32) → ∀ M38, SH M38 → M38 = sm_wI M36 x1 12 (3 : Int32) → ∀ M4, SH M4 → M4 = sm_wI M38 34 1 (0 : Int32) → ∀ M6, SH M6 → M6 = sm_wI M4 34 2 (0 : Int32) → sm_cI 29 [.ref 24, .int (iV M6 34 2)] M6 (fun v12 M11 => SH M11 → ∀ M14, SH M14 → M14 = sm_wI M11 34 1 v12 → sm_cI 59 [.ref 24, .int (iV M14 34 1)] M14 (fun v17 M16 => SH M16 → ∀ M19, SH M19 → M19 = sm_wI M16 34 2 v17 → sm_w 57 (20, [some (.ref 34), some (.ref x1), some (.int ((0 : Int32)))], []) M19 (rI K)))) : sm_w 57 (sm_in sP 57 [.ref 34, .ref x1]) M (rI K) := by
  show sm_w 57 (0, [some (.ref 34), some (.ref x1), none], []) M (rI K)
  refine sm_w.run t57 sr57 0 1 (M2 := M) (f2 := (1, [some (.ref 34), some (.ref x1), none], [.ref x1])) rfl ⟨trivial, trivial⟩ ?_
  refine sm_w.cV t57 sr57 1 (i := 11) (as := [.ref x1]) (g := (1, [some (.ref 34), some (.ref x1), none], [])) rfl ⟨by decide, by decide, (Nat.le_of_ble_eq_true rfl), (sm_K.g (kH_0 hS hx1) (sm_sh.rf _)).1, (sm_K.g (kH_0 hS hx1) (sm_sh.rf _)).2, (Nat.le_of_ble_eq_true rfl)⟩ (Nat.le_of_ble_eq_true rfl) (by decide) (sm_cV.s2 (by decide) hS (g11_0 (K := fun M1 => ∀ M4, SH M4 → M4 = sm_wI M1 34 1 (0 : Int32) → ∀ M6, SH M6 → M6 = sm_wI M4 34 2 (0 : Int32) → sm_cI 29 [.ref 24, .int (iV M6 34 2)] M6 (fun v12 M11 => SH M11 → ∀ M14, SH M14 → M14 = sm_wI M11 34 1 v12 → sm_cI 59 [.ref 24, .int (iV M14 34 1)] M14 (fun v17 M16 => SH M16 → ∀ M19, SH M19 → M19 = sm_wI M16 34 2 v17 → sm_w 57 (20, [some (.ref 34), some (.ref x1), some (.int ((0 : Int32)))], []) M19 (rI K)))) hS hx1 h)) (fun M1 h => ?_)
  obtain ⟨hS3, h⟩ := h
  refine sm_w.run t57 sr57 2 3 (M2 := sm_wI M1 34 1 (0 : Int32)) (f2 := (9, [some (.ref 34), some (.ref x1), none], [])) rfl ⟨trivial, trivial, ⟨(sm_K.p (k_34 hS3) (sm_sh.rf _)).1, (sm_K.p (k_34 hS3) (sm_sh.rf _)).2.1, (sm_K.p (k_34 hS3) (sm_sh.rf _)).2.2, Or.inl rfl⟩, trivial⟩ ?_
  have hS5 : SH (sm_wI M1 34 1 (0 : Int32)) := SH.wI hS3 _ _ _
  have h := h _ hS5 rfl
  generalize sm_wI M1 34 1 (0 : Int32) = M4 at h hS5 ⊢
  refine sm_w.run t57 sr57 5 3 (M2 := sm_wI M4 34 2 (0 : Int32)) (f2 := (14, [some (.ref 34), some (.ref x1), none], [])) rfl ⟨trivial, trivial, ⟨(sm_K.p (k_34 hS5) (sm_sh.rf _)).1, (sm_K.p (k_34 hS5) (sm_sh.rf _)).2.1, (sm_K.p (k_34 hS5) (sm_sh.rf _)).2.2, Or.inl rfl⟩, trivial⟩ ?_
  have hS7 : SH (sm_wI M4 34 2 (0 : Int32)) := SH.wI hS5 _ _ _
  have h := h _ hS7 rfl
  generalize sm_wI M4 34 2 (0 : Int32) = M6 at h hS7 ⊢
  refine sm_w.run t57 sr57 8 1 (M2 := M6) (f2 := (15, [some (.ref 34), some (.ref x1), none], [.ref 34])) rfl ⟨trivial, trivial⟩ ?_
  refine sm_w.cV t57 sr57 9 (i := 58) (as := [.ref 34]) (g := (15, [some (.ref 34), some (.ref x1), none], [])) rfl ⟨by decide, by decide, (Nat.le_of_ble_eq_true rfl), (sm_K.g (k_34 hS7) (sm_sh.rf _)).1, (sm_K.g (k_34 hS7) (sm_sh.rf _)).2, (Nat.le_of_ble_eq_true rfl)⟩ (Nat.le_of_ble_eq_true rfl) (by decide) (sm_cV.s2 (by decide) hS7 (g58_0 (K := fun M8 => sm_w 57 (20, [some (.ref 34), some (.ref x1), some (.int ((0 : Int32)))], []) M8 (rI K)) hS7 h)) (fun M8 h => ?_)
  obtain ⟨hS10, h⟩ := h
  refine sm_w.run t57 sr57 10 2 (M2 := M8) (f2 := (20, [some (.ref 34), some (.ref x1), some (.int ((0 : Int32)))], [])) rfl ⟨trivial, (Nat.le_of_ble_eq_true rfl), trivial⟩ ?_
  exact h
theorem g57_1 {M : sm_M} {x1 : Nat} {x2 : Int32} {K : Int32 → sm_M → Prop} (hS : SH M) (hx1 : fH x1) (h : (((iV M 24 1) ≤ x2 → K (-1 : Int32) M) ∧ (¬ (iV M 24 1) ≤ x2 → (((iV M 34 2) ≤ (iV M 34 1) → K (-1 : Int32) M) ∧ (¬ (iV M 34 2) ≤ (iV M 34 1) → sm_cI 60 [.ref 34, .ref x1] M (fun v2 M1 => SH M1 → ((v2 = 0 → K (iV M1 34 1) M1) ∧ (¬ v2 = 0 → sm_cI 29 [.ref 24, .int (iV M1 34 2)] M1 (fun v8 M7 => SH M7 → ∀ M10, SH M10 → M10 = sm_wI M7 34 1 v8 → sm_cI 59 [.ref 24, .int (iV M10 34 1)] M10 (fun v13 M12 => SH M12 → ∀ M15, SH M15 → M15 = sm_wI M12 34 2 v13 → sm_w 57 (20, [some (.ref 34), some (.ref x1), some (.int (x2 + (1 : Int32)))], []) M15 (rI K))))))))))) : sm_w 57 (20, [some (.ref 34), some (.ref x1), some (.int (x2))], []) M (rI K) := by
  refine sm_w.run t57 sr57 12 3 (M2 := M) (f2 := (25, [some (.ref 34), some (.ref x1), some (.int (x2))], [va_rf (sm_rv M 34 0), .int (x2)])) rfl ⟨trivial, trivial, sm_K.g (k_34 hS) (sm_sh.rf _), trivial⟩ ?_
  refine sm_w.fld (r_34_0 hS) ?_
  refine sm_w.run t57 sr57 15 2 (M2 := M) (f2 := (if (iV M 24 1) ≤ x2 then 65 else 31, [some (.ref 34), some (.ref x1), some (.int (x2))], [])) rfl ⟨sm_K.g (kB_0 hS fB_24) (sm_sh.rf _), trivial, trivial⟩ ?_
  refine sm_w.ite (fun hc => ?_) (fun hc => ?_)
  · have h := h.1 hc
    refine sm_w.run t57 sr57 33 1 (M2 := M) (f2 := (66, [some (.ref 34), some (.ref x1), some (.int (x2))], [.int ((-1 : Int32))])) rfl ⟨trivial, trivial⟩ ?_
    exact sm_w.end t57 sr57 34 (o := .returned (some (.int ((-1 : Int32))))) (M2 := M) rfl rfl (by decide) (⟨_, rfl, h⟩)
  · have h := h.2 hc
    refine sm_w.run t57 sr57 17 5 (M2 := M) (f2 := (if (iV M 34 2) ≤ (iV M 34 1) then 65 else 42, [some (.ref 34), some (.ref x1), some (.int (x2))], [])) rfl ⟨trivial, sm_K.g (k_34 hS) (sm_sh.rf _), trivial, sm_K.g (k_34 hS) (sm_sh.rf _), trivial, trivial⟩ ?_
    refine sm_w.ite (fun hc => ?_) (fun hc => ?_)
    · have h := h.1 hc
      refine sm_w.run t57 sr57 33 1 (M2 := M) (f2 := (66, [some (.ref 34), some (.ref x1), some (.int (x2))], [.int ((-1 : Int32))])) rfl ⟨trivial, trivial⟩ ?_
      exact sm_w.end t57 sr57 34 (o := .returned (some (.int ((-1 : Int32))))) (M2 := M) rfl rfl (by decide) (⟨_, rfl, h⟩)
    · have h := h.2 hc
      refine sm_w.run t57 sr57 22 2 (M2 := M) (f2 := (44, [some (.ref 34), some (.ref x1), some (.int (x2))], [.ref x1, .ref 34])) rfl ⟨trivial, trivial, trivial⟩ ?_
      refine sm_w.cI t57 sr57 24 (i := 60) (as := [.ref 34, .ref x1]) (g := (44, [some (.ref 34), some (.ref x1), some (.int (x2))], [])) rfl ⟨by decide, by decide, (Nat.le_of_ble_eq_true rfl), (sm_K.g (k_34 hS) (sm_sh.rf _)).1, (sm_K.g (k_34 hS) (sm_sh.rf _)).2, (Nat.le_of_ble_eq_true rfl)⟩ (Nat.le_of_ble_eq_true rfl) (by decide) (sm_cI.s (by decide) hS h) (fun v2 M1 h => ?_)
      obtain ⟨hS3, h⟩ := h
      refine sm_w.run t57 sr57 25 1 (M2 := M1) (f2 := (if v2 = 0 then 50 else 55, [some (.ref 34), some (.ref x1), some (.int (x2))], [])) rfl ⟨trivial, trivial⟩ ?_
      refine sm_w.ite (fun hc => ?_) (fun hc => ?_)
      · have h := h.1 hc
        refine sm_w.run t57 sr57 26 2 (M2 := M1) (f2 := (54, [some (.ref 34), some (.ref x1), some (.int (x2))], [.int (iV M1 34 1)])) rfl ⟨trivial, sm_K.g (k_34 hS3) (sm_sh.rf _), trivial⟩ ?_
        exact sm_w.end t57 sr57 28 (o := .returned (some (.int (iV M1 34 1)))) (M2 := M1) rfl rfl (by decide) (⟨_, rfl, h⟩)
      · have h := h.2 hc
        refine sm_w.run t57 sr57 29 1 (M2 := M1) (f2 := (56, [some (.ref 34), some (.ref x1), some (.int (x2))], [.ref 34])) rfl ⟨trivial, trivial⟩ ?_
        refine sm_w.cV t57 sr57 30 (i := 58) (as := [.ref 34]) (g := (56, [some (.ref 34), some (.ref x1), some (.int (x2))], [])) rfl ⟨by decide, by decide, (Nat.le_of_ble_eq_true rfl), (sm_K.g (k_34 hS3) (sm_sh.rf _)).1, (sm_K.g (k_34 hS3) (sm_sh.rf _)).2, (Nat.le_of_ble_eq_true rfl)⟩ (Nat.le_of_ble_eq_true rfl) (by decide) (sm_cV.s2 (by decide) hS3 (g58_0 (K := fun M4 => sm_w 57 (20, [some (.ref 34), some (.ref x1), some (.int (x2 + (1 : Int32)))], []) M4 (rI K)) hS3 h)) (fun M4 h => ?_)
        obtain ⟨hS6, h⟩ := h
        refine sm_w.run t57 sr57 31 2 (M2 := M4) (f2 := (20, [some (.ref 34), some (.ref x1), some (.int (x2 + (1 : Int32)))], [])) rfl ⟨(Nat.le_of_ble_eq_true rfl), trivial, trivial⟩ ?_
        exact h
-- 75 LineSetter$HyphenTable.entries()I
theorem t75 : sP 75 = (1, sp_75, sh_75) := rfl
theorem sr75 : sm_srt sp_75 = true := by decide +kernel
theorem g75_0 {M : sm_M} {x0 : Nat} {K : Int32 → sm_M → Prop} (hS : SH M) (hx0 : fH x0) (h : K ((iV M x0 6) + (iV M x0 10)) M) : sm_w 75 (sm_in sP 75 [.ref x0]) M (rI K) := by
  show sm_w 75 (0, [some (.ref x0)], []) M (rI K)
  refine sm_w.run t75 sr75 0 5 (M2 := M) (f2 := (9, [some (.ref x0)], [.int ((iV M x0 6) + (iV M x0 10))])) rfl ⟨trivial, sm_K.g (kH_0 hS hx0) (sm_sh.rf _), trivial, sm_K.g (kH_0 hS hx0) (sm_sh.rf _), trivial, trivial⟩ ?_
  exact sm_w.end t75 sr75 5 (o := .returned (some (.int ((iV M x0 6) + (iV M x0 10))))) (M2 := M) rfl rfl (by decide) (⟨_, rfl, h⟩)
def p75_0 (M : sm_M) (x0 : Nat) : Int32 := (iV M x0 6) + (iV M x0 10)
theorem p75_c {M : sm_M} {x0 : Nat} (hS : SH M) (hx0 : fH x0) : sm_cI 75 [.ref x0] M (fun v M2 => v = p75_0 M x0 ∧ M2 = M) := by
  refine g75_0 (K := (fun v M2 => v = p75_0 M x0 ∧ M2 = M)) hS hx0 ?_
  exact ⟨rfl, rfl⟩
-- 56 LineSetter.hyphens()I
theorem t56 : sP 56 = (2, sp_56, sh_56) := rfl
theorem sr56 : sm_srt sp_56 = true := by decide +kernel
theorem g56_0 {M : sm_M}  {K : Int32 → sm_M → Prop} {X : Nat → sm_M → Prop} (hS : SH M)  (h : ∃ r1, sm_rv M 23 12 = some r1 ∧ fH r1 ∧ sm_cI 57 [.ref 34, .ref r1] M (fun v5 M4 => SH M4 → ∀ M7, SH M7 → M7 = sm_wI M4 23 16 v5 → ∀ M9, SH M9 → M9 = sm_wI M7 24 1 (0 : Int32) → (((iV M9 23 16) < 0 → ∃ r11, sm_rv M9 23 11 = some r11 ∧ fH r11 ∧ ∃ r14, sm_rv M9 23 12 = some r14 ∧ fH r14 ∧ ∀ M17, SH M17 → M17 = sm_wR M9 23 11 (some r14) → ∀ M19, SH M19 → M19 = sm_wR M17 23 12 (some r11) → ∃ r21, sm_rv M19 23 11 = some r21 ∧ fH r21 ∧ K (p75_0 M19 r21) M19) ∧ (¬ (iV M9 23 16) < 0 → X M9.1 (sm_new M9 50 6))))) : sm_w 56 (sm_in sP 56 [.ref 23]) M (yI X K) := by
  show sm_w 56 (0, [some (.ref 23), none], []) M (yI X K)
  refine sm_w.run t56 sr56 0 3 (M2 := M) (f2 := (5, [some (.ref 23), none], [va_rf (sm_rv M 23 6), .ref 23])) rfl ⟨trivial, trivial, sm_K.g (k_23 hS) (sm_sh.rf _), trivial⟩ ?_
  refine sm_w.fld (r_23_6 hS) ?_
  refine sm_w.run t56 sr56 3 2 (M2 := M) (f2 := (9, [some (.ref 23), none], [va_rf (sm_rv M 23 12), .ref 34, .ref 23])) rfl ⟨trivial, sm_K.g (k_23 hS) (sm_sh.rf _), trivial⟩ ?_
  obtain ⟨r1, e2, h3, h⟩ := h
  refine sm_w.fld e2 ?_
  refine sm_w.cI t56 sr56 5 (i := 57) (as := [.ref 34, .ref r1]) (g := (9, [some (.ref 23), none], [.ref 23])) rfl ⟨by decide, by decide, (Nat.le_of_ble_eq_true rfl), (sm_K.g (k_34 hS) (sm_sh.rf _)).1, (sm_K.g (k_34 hS) (sm_sh.rf _)).2, (Nat.le_of_ble_eq_true rfl)⟩ (Nat.le_of_ble_eq_true rfl) (by decide) (sm_cI.s (by decide) hS h) (fun v5 M4 h => ?_)
  obtain ⟨hS6, h⟩ := h
  refine sm_w.run t56 sr56 6 1 (M2 := sm_wI M4 23 16 v5) (f2 := (15, [some (.ref 23), none], [])) rfl ⟨⟨(sm_K.p (k_23 hS6) (sm_sh.rf _)).1, (sm_K.p (k_23 hS6) (sm_sh.rf _)).2.1, (sm_K.p (k_23 hS6) (sm_sh.rf _)).2.2, Or.inl rfl⟩, trivial⟩ ?_
  have hS8 : SH (sm_wI M4 23 16 v5) := SH.wI hS6 _ _ _
  have h := h _ hS8 rfl
  generalize sm_wI M4 23 16 v5 = M7 at h hS8 ⊢
  refine sm_w.run t56 sr56 7 2 (M2 := M7) (f2 := (19, [some (.ref 23), none], [va_rf (sm_rv M7 23 0)])) rfl ⟨trivial, sm_K.g (k_23 hS8) (sm_sh.rf _), trivial⟩ ?_
  refine sm_w.fld (r_23_0 hS8) ?_
  refine sm_w.run t56 sr56 9 2 (M2 := sm_wI M7 24 1 (0 : Int32)) (f2 := (23, [some (.ref 23), none], [])) rfl ⟨trivial, ⟨(sm_K.p (kB_0 hS8 fB_24) (sm_sh.rf _)).1, (sm_K.p (kB_0 hS8 fB_24) (sm_sh.rf _)).2.1, (sm_K.p (kB_0 hS8 fB_24) (sm_sh.rf _)).2.2, Or.inl rfl⟩, trivial⟩ ?_
  have hS10 : SH (sm_wI M7 24 1 (0 : Int32)) := SH.wI hS8 _ _ _
  have h := h _ hS10 rfl
  generalize sm_wI M7 24 1 (0 : Int32) = M9 at h hS10 ⊢
  refine sm_w.run t56 sr56 11 3 (M2 := M9) (f2 := (if (iV M9 23 16) < 0 then 40 else 30, [some (.ref 23), none], [])) rfl ⟨trivial, sm_K.g (k_23 hS10) (sm_sh.rf _), trivial, trivial⟩ ?_
  refine sm_w.ite (fun hc => ?_) (fun hc => ?_)
  · have h := h.1 hc
    refine sm_w.run t56 sr56 15 2 (M2 := M9) (f2 := (44, [some (.ref 23), none], [va_rf (sm_rv M9 23 11)])) rfl ⟨trivial, sm_K.g (k_23 hS10) (sm_sh.rf _), trivial⟩ ?_
    obtain ⟨r11, e12, h13, h⟩ := h
    refine sm_w.fld e12 ?_
    refine sm_w.run t56 sr56 17 4 (M2 := M9) (f2 := (50, [some (.ref 23), some (.ref r11)], [va_rf (sm_rv M9 23 12), .ref 23])) rfl ⟨(Nat.le_of_ble_eq_true rfl), trivial, trivial, sm_K.g (k_23 hS10) (sm_sh.rf _), trivial⟩ ?_
    obtain ⟨r14, e15, h16, h⟩ := h
    refine sm_w.fld e15 ?_
    refine sm_w.run t56 sr56 21 1 (M2 := sm_wR M9 23 11 (some r14)) (f2 := (53, [some (.ref 23), some (.ref r11)], [])) rfl ⟨⟨(sm_K.p (k_23 hS10) (sm_sh.rf _)).1, (sm_K.p (k_23 hS10) (sm_sh.rf _)).2.1, (sm_K.p (k_23 hS10) (sm_sh.rf _)).2.2, rfl⟩, trivial⟩ ?_
    have hS18 : SH (sm_wR M9 23 11 (some r14)) := SH.w23 hS10 _ _ (by decide)
    have h := h _ hS18 rfl
    generalize sm_wR M9 23 11 (some r14) = M17 at h hS18 ⊢
    refine sm_w.run t56 sr56 22 3 (M2 := sm_wR M17 23 12 (some r11)) (f2 := (58, [some (.ref 23), some (.ref r11)], [])) rfl ⟨trivial, trivial, ⟨(sm_K.p (k_23 hS18) (sm_sh.rf _)).1, (sm_K.p (k_23 hS18) (sm_sh.rf _)).2.1, (sm_K.p (k_23 hS18) (sm_sh.rf _)).2.2, rfl⟩, trivial⟩ ?_
    have hS20 : SH (sm_wR M17 23 12 (some r11)) := SH.w23 hS18 _ _ (by decide)
    have h := h _ hS20 rfl
    generalize sm_wR M17 23 12 (some r11) = M19 at h hS20 ⊢
    refine sm_w.run t56 sr56 25 2 (M2 := M19) (f2 := (62, [some (.ref 23), some (.ref r11)], [va_rf (sm_rv M19 23 11)])) rfl ⟨trivial, sm_K.g (k_23 hS20) (sm_sh.rf _), trivial⟩ ?_
    obtain ⟨r21, e22, h23, h⟩ := h
    refine sm_w.fld e22 ?_
    refine sm_w.cI t56 sr56 27 (i := 75) (as := [.ref r21]) (g := (62, [some (.ref 23), some (.ref r11)], [])) rfl ⟨by decide, by decide, (Nat.le_of_ble_eq_true rfl), (sm_K.g (kH_0 hS20 h23) (sm_sh.rf _)).1, (sm_K.g (kH_0 hS20 h23) (sm_sh.rf _)).2, (Nat.le_of_ble_eq_true rfl)⟩ (Nat.le_of_ble_eq_true rfl) (by decide) (p75_c hS20 h23) (fun vz M2 hz => ?_)
    obtain ⟨hz1, hz2⟩ := hz
    subst hz1
    have hz2 := hz2.symm
    subst hz2
    exact sm_w.end t56 sr56 28 (o := .returned (some (.int (p75_0 M19 r21)))) (M2 := M19) rfl rfl (by decide) (Or.inr ⟨_, rfl, h⟩)
  · have h := h.2 hc
    exact sm_w.end t56 sr56 14 (o := .threw M9.1) (M2 := sm_new M9 50 6) rfl (Nat.le_of_ble_eq_true rfl) (by decide) (Or.inl ⟨_, rfl, h⟩)
-- 55 LineSetterLaw.hyphens(LLineSetter;[J)I
theorem t55 : sP 55 = (3, sp_55, sh_55) := rfl
theorem sr55 : sm_srt sp_55 = true := by decide +kernel
theorem g55_0 {M : sm_M}  {K : Int32 → sm_M → Prop} (hS : SH M)  (h : sm_xI 56 [.ref 23] M (fun r0 M0 => (sm_kd M0 r0 = 50 ∧ SH M0 ∧ K (1 : Int32) M0)) (fun v2 M1 => SH M1 ∧ (vp_in (0 : Int32) 1) ∧ ∀ M5, SH M5 → M5 = sm_wJ M1 164 (0 : Int32).toNatClampNeg v2.toInt64 → K (0 : Int32) M5)) : sm_w 55 (sm_in sP 55 [.ref 23, .ref 164]) M (rI K) := by
  show sm_w 55 (0, [some (.ref 23), some (.ref 164), none], []) M (rI K)
  refine sm_w.run t55 sr55 0 3 (M2 := M) (f2 := (3, [some (.ref 23), some (.ref 164), none], [.ref 23, .int ((0 : Int32)), .ref 164])) rfl ⟨trivial, trivial, trivial, trivial⟩ ?_
  refine sm_w.yI t55 sr55 3 (i := 56) (as := [.ref 23]) (g := (3, [some (.ref 23), some (.ref 164), none], [.int ((0 : Int32)), .ref 164])) rfl ⟨by decide, by decide, (Nat.le_of_ble_eq_true rfl), (sm_K.g (k_23 hS) (sm_sh.rf _)).1, (sm_K.g (k_23 hS) (sm_sh.rf _)).2, (Nat.le_of_ble_eq_true rfl)⟩ (Nat.le_of_ble_eq_true rfl) (by decide) h (fun r0 M0 h => ?_) (fun v2 M1 h => ?_)
  · rcases h with ⟨hk, hS0, h⟩
    · refine ⟨11, by rw [hk]; rfl, ?_⟩
      refine sm_w.run t55 sr55 7 2 (M2 := M0) (f2 := (13, [some (.ref 23), some (.ref 164), some (.ref r0)], [.int ((1 : Int32))])) rfl ⟨(Nat.le_of_ble_eq_true rfl), trivial, trivial⟩ ?_
      exact sm_w.end t55 sr55 9 (o := .returned (some (.int ((1 : Int32))))) (M2 := M0) rfl rfl (by decide) (⟨_, rfl, h⟩)
  · obtain ⟨hS3, h⟩ := h
    obtain ⟨c4, h⟩ := h
    refine sm_w.run t55 sr55 4 2 (M2 := sm_wJ M1 164 (0 : Int32).toNatClampNeg v2.toInt64) (f2 := (8, [some (.ref 23), some (.ref 164), none], [])) rfl ⟨trivial, sm_K.s2 (k_164 hS3) (l_164 hS3) c4, trivial⟩ ?_
    have hS6 : SH (sm_wJ M1 164 (0 : Int32).toNatClampNeg v2.toInt64) := SH.wJ hS3 _ _ _
    have h := h _ hS6 rfl
    generalize sm_wJ M1 164 (0 : Int32).toNatClampNeg v2.toInt64 = M5 at h hS6 ⊢
    refine sm_w.run t55 sr55 6 1 (M2 := M5) (f2 := (14, [some (.ref 23), some (.ref 164), none], [])) rfl ⟨trivial, trivial⟩ ?_
    refine sm_w.run t55 sr55 10 1 (M2 := M5) (f2 := (15, [some (.ref 23), some (.ref 164), none], [.int ((0 : Int32))])) rfl ⟨trivial, trivial⟩ ?_
    exact sm_w.end t55 sr55 11 (o := .returned (some (.int ((0 : Int32))))) (M2 := M5) rfl rfl (by decide) (⟨_, rfl, h⟩)
-- 79 LineSetter.refuseOutside(III)V
theorem t79 : sP 79 = (4, sp_79, sh_79) := rfl
theorem sr79 : sm_srt sp_79 = true := by decide +kernel
theorem g79_0 {M : sm_M} {x1 : Int32} {x2 : Int32} {x3 : Int32} {K : sm_M → Prop} {X : Nat → sm_M → Prop} (hS : SH M)  (h : ((x1 < x2 → X M.1 (sm_new M 48 6)) ∧ (¬ x1 < x2 → ((x1 ≤ x3 → K M) ∧ (¬ x1 ≤ x3 → X M.1 (sm_new M 48 6)))))) : sm_w 79 (sm_in sP 79 [.ref 23, .int (x1), .int (x2), .int (x3)]) M (yV X K) := by
  show sm_w 79 (0, [some (.ref 23), some (.int (x1)), some (.int (x2)), some (.int (x3))], []) M (yV X K)
  refine sm_w.run t79 sr79 0 3 (M2 := M) (f2 := (if x1 < x2 then 10 else 5, [some (.ref 23), some (.int (x1)), some (.int (x2)), some (.int (x3))], [])) rfl ⟨trivial, trivial, trivial, trivial⟩ ?_
  refine sm_w.ite (fun hc => ?_) (fun hc => ?_)
  · have h := h.1 hc
    exact sm_w.end t79 sr79 6 (o := .threw M.1) (M2 := sm_new M 48 6) rfl (Nat.le_of_ble_eq_true rfl) (by decide) (Or.inl ⟨_, rfl, h⟩)
  · have h := h.2 hc
    refine sm_w.run t79 sr79 3 3 (M2 := M) (f2 := (if x1 ≤ x3 then 21 else 10, [some (.ref 23), some (.int (x1)), some (.int (x2)), some (.int (x3))], [])) rfl ⟨trivial, trivial, trivial, trivial⟩ ?_
    refine sm_w.ite (fun hc => ?_) (fun hc => ?_)
    · have h := h.1 hc
      exact sm_w.end t79 sr79 7 (o := .returned none) (M2 := M) rfl trivial (by decide) (Or.inr ⟨rfl, h⟩)
    · have h := h.2 hc
      exact sm_w.end t79 sr79 6 (o := .threw M.1) (M2 := sm_new M 48 6) rfl (Nat.le_of_ble_eq_true rfl) (by decide) (Or.inl ⟨_, rfl, h⟩)
-- 78 LineSetter.refuseSize(I)V
theorem t78 : sP 78 = (2, sp_78, sh_78) := rfl
theorem sr78 : sm_srt sp_78 = true := by decide +kernel
theorem g78_0 {M : sm_M} {x1 : Int32} {K : sm_M → Prop} {X : Nat → sm_M → Prop} (hS : SH M)  (h : ((x1 < (1000 : Int32) → X M.1 (sm_new M 48 6)) ∧ (¬ x1 < (1000 : Int32) → ((x1 ≤ (100000 : Int32) → K M) ∧ (¬ x1 ≤ (100000 : Int32) → X M.1 (sm_new M 48 6)))))) : sm_w 78 (sm_in sP 78 [.ref 23, .int (x1)]) M (yV X K) := by
  show sm_w 78 (0, [some (.ref 23), some (.int (x1))], []) M (yV X K)
  refine sm_w.run t78 sr78 0 4 (M2 := M) (f2 := (8, [some (.ref 23), some (.int (x1))], [.int ((100000 : Int32)), .int ((1000 : Int32)), .int (x1), .ref 23])) rfl ⟨trivial, trivial, trivial, trivial, trivial⟩ ?_
  refine sm_w.zV t78 sr78 4 (i := 79) (as := [.ref 23, .int (x1), .int ((1000 : Int32)), .int ((100000 : Int32))]) (g := (8, [some (.ref 23), some (.int (x1))], [])) rfl ⟨by decide, by decide, (Nat.le_of_ble_eq_true rfl), (sm_K.g (k_23 hS) (sm_sh.rf _)).1, (sm_K.g (k_23 hS) (sm_sh.rf _)).2, (Nat.le_of_ble_eq_true rfl)⟩ (Nat.le_of_ble_eq_true rfl) (by decide) rfl (fun r M2 h => Or.inl ⟨r, rfl, h⟩) (sm_xV.s2 (by decide) hS (g79_0 (K := fun M1 => K M1) hS h)) (fun M1 h => ?_)
  obtain ⟨hS3, h⟩ := h
  exact sm_w.end t78 sr78 5 (o := .returned none) (M2 := M1) rfl trivial (by decide) (Or.inr ⟨rfl, h⟩)
-- 80 LineSetter$Paragraph.wrongByte([BI)I
theorem t80 : sP 80 = (3, sp_80, sh_80) := rfl
theorem sr80 : sm_srt sp_80 = true := by decide +kernel
theorem g80_0 {M : sm_M} {x0 : Nat} {nx0 : Nat} {x1 : Int32} {K : Int32 → sm_M → Prop} (hS : SH M) (hx0 : sA x0 1 nx0) (h : sm_w 80 (2, [some (.ref x0), some (.int (x1)), some (.int ((0 : Int32)))], []) M (rI K)) : sm_w 80 (sm_in sP 80 [.ref x0, .int (x1)]) M (rI K) := by
  show sm_w 80 (0, [some (.ref x0), some (.int (x1)), none], []) M (rI K)
  refine sm_w.run t80 sr80 0 2 (M2 := M) (f2 := (2, [some (.ref x0), some (.int (x1)), some (.int ((0 : Int32)))], [])) rfl ⟨trivial, (Nat.le_of_ble_eq_true rfl), trivial⟩ ?_
  exact h
theorem g80_1 {M : sm_M} {x0 : Nat} {nx0 : Nat} {x1 : Int32} {x2 : Int32} {K : Int32 → sm_M → Prop} (hS : SH M) (hx0 : sA x0 1 nx0) (h : ((x1 ≤ x2 → K (-1 : Int32) M) ∧ (¬ x1 ≤ x2 → (((Int32.ofNat nx0) ≤ x2 → K (-1 : Int32) M) ∧ (¬ (Int32.ofNat nx0) ≤ x2 → (vp_in x2 nx0) ∧ (((p31_0 M (iV M x0 x2.toNatClampNeg)) = 0 → (vp_in x2 nx0) ∧ (((iV M x0 x2.toNatClampNeg) < (32 : Int32) → K x2 M) ∧ (¬ (iV M x0 x2.toNatClampNeg) < (32 : Int32) → (vp_in x2 nx0) ∧ (((iV M x0 x2.toNatClampNeg) ≤ (126 : Int32) → sm_w 80 (2, [some (.ref x0), some (.int (x1)), some (.int (x2 + (1 : Int32)))], []) M (rI K)) ∧ (¬ (iV M x0 x2.toNatClampNeg) ≤ (126 : Int32) → K x2 M))))) ∧ (¬ (p31_0 M (iV M x0 x2.toNatClampNeg)) = 0 → sm_w 80 (2, [some (.ref x0), some (.int (x1)), some (.int (x2 + (1 : Int32)))], []) M (rI K)))))))) : sm_w 80 (2, [some (.ref x0), some (.int (x1)), some (.int (x2))], []) M (rI K) := by
  refine sm_w.run t80 sr80 2 3 (M2 := M) (f2 := (if x1 ≤ x2 then 46 else 7, [some (.ref x0), some (.int (x1)), some (.int (x2))], [])) rfl ⟨trivial, trivial, trivial, trivial⟩ ?_
  refine sm_w.ite (fun hc => ?_) (fun hc => ?_)
  · have h := h.1 hc
    refine sm_w.run t80 sr80 28 1 (M2 := M) (f2 := (47, [some (.ref x0), some (.int (x1)), some (.int (x2))], [.int ((-1 : Int32))])) rfl ⟨trivial, trivial⟩ ?_
    exact sm_w.end t80 sr80 29 (o := .returned (some (.int ((-1 : Int32))))) (M2 := M) rfl rfl (by decide) (⟨_, rfl, h⟩)
  · have h := h.2 hc
    refine sm_w.run t80 sr80 5 3 (M2 := M) (f2 := (10, [some (.ref x0), some (.int (x1)), some (.int (x2))], [.int (Int32.ofNat (sm_ln M x0)), .int (x2)])) rfl ⟨trivial, trivial, sm_K.l (hx0.K hS) (sm_sh.rf _) (by decide), trivial⟩ ?_
    refine sm_w.aln (hx0.L hS) ?_
    refine sm_w.run t80 sr80 8 1 (M2 := M) (f2 := (if (Int32.ofNat nx0) ≤ x2 then 46 else 13, [some (.ref x0), some (.int (x1)), some (.int (x2))], [])) rfl ⟨trivial, trivial⟩ ?_
    refine sm_w.ite (fun hc => ?_) (fun hc => ?_)
    · have h := h.1 hc
      refine sm_w.run t80 sr80 28 1 (M2 := M) (f2 := (47, [some (.ref x0), some (.int (x1)), some (.int (x2))], [.int ((-1 : Int32))])) rfl ⟨trivial, trivial⟩ ?_
      exact sm_w.end t80 sr80 29 (o := .returned (some (.int ((-1 : Int32))))) (M2 := M) rfl rfl (by decide) (⟨_, rfl, h⟩)
    · have h := h.2 hc
      obtain ⟨c1, h⟩ := h
      refine sm_w.run t80 sr80 9 3 (M2 := M) (f2 := (16, [some (.ref x0), some (.int (x1)), some (.int (x2))], [.int (iV M x0 x2.toNatClampNeg)])) rfl ⟨trivial, trivial, sm_K.a2 (hx0.K hS) (hx0.L hS) c1, trivial⟩ ?_
      refine sm_w.cI t80 sr80 12 (i := 31) (as := [.int (iV M x0 x2.toNatClampNeg)]) (g := (16, [some (.ref x0), some (.int (x1)), some (.int (x2))], [])) rfl ⟨(Nat.le_of_ble_eq_true rfl), (Nat.le_of_ble_eq_true rfl)⟩ (Nat.le_of_ble_eq_true rfl) (by decide) (p31_c hS) (fun vz M2 hz => ?_)
      obtain ⟨hz1, hz2⟩ := hz
      subst hz1
      have hz2 := hz2.symm
      subst hz2
      refine sm_w.run t80 sr80 13 1 (M2 := M) (f2 := (if (p31_0 M (iV M x0 x2.toNatClampNeg)) = 0 then 22 else 40, [some (.ref x0), some (.int (x1)), some (.int (x2))], [])) rfl ⟨trivial, trivial⟩ ?_
      refine sm_w.ite (fun hc => ?_) (fun hc => ?_)
      · have h := h.1 hc
        obtain ⟨c2, h⟩ := h
        refine sm_w.run t80 sr80 14 5 (M2 := M) (f2 := (if (iV M x0 x2.toNatClampNeg) < (32 : Int32) then 38 else 30, [some (.ref x0), some (.int (x1)), some (.int (x2))], [])) rfl ⟨trivial, trivial, sm_K.a2 (hx0.K hS) (hx0.L hS) c2, trivial, trivial, trivial⟩ ?_
        refine sm_w.ite (fun hc => ?_) (fun hc => ?_)
        · have h := h.1 hc
          refine sm_w.run t80 sr80 24 1 (M2 := M) (f2 := (39, [some (.ref x0), some (.int (x1)), some (.int (x2))], [.int (x2)])) rfl ⟨trivial, trivial⟩ ?_
          exact sm_w.end t80 sr80 25 (o := .returned (some (.int (x2)))) (M2 := M) rfl rfl (by decide) (⟨_, rfl, h⟩)
        · have h := h.2 hc
          obtain ⟨c3, h⟩ := h
          refine sm_w.run t80 sr80 19 5 (M2 := M) (f2 := (if (iV M x0 x2.toNatClampNeg) ≤ (126 : Int32) then 40 else 38, [some (.ref x0), some (.int (x1)), some (.int (x2))], [])) rfl ⟨trivial, trivial, sm_K.a2 (hx0.K hS) (hx0.L hS) c3, trivial, trivial, trivial⟩ ?_
          refine sm_w.ite (fun hc => ?_) (fun hc => ?_)
          · have h := h.1 hc
            refine sm_w.run t80 sr80 26 2 (M2 := M) (f2 := (2, [some (.ref x0), some (.int (x1)), some (.int (x2 + (1 : Int32)))], [])) rfl ⟨(Nat.le_of_ble_eq_true rfl), trivial, trivial⟩ ?_
            exact h
          · have h := h.2 hc
            refine sm_w.run t80 sr80 24 1 (M2 := M) (f2 := (39, [some (.ref x0), some (.int (x1)), some (.int (x2))], [.int (x2)])) rfl ⟨trivial, trivial⟩ ?_
            exact sm_w.end t80 sr80 25 (o := .returned (some (.int (x2)))) (M2 := M) rfl rfl (by decide) (⟨_, rfl, h⟩)
      · have h := h.2 hc
        refine sm_w.run t80 sr80 26 2 (M2 := M) (f2 := (2, [some (.ref x0), some (.int (x1)), some (.int (x2 + (1 : Int32)))], [])) rfl ⟨(Nat.le_of_ble_eq_true rfl), trivial, trivial⟩ ?_
        exact h
-- 81 LineSetter$Paragraph.lengthWith([BI)I
theorem t81 : sP 81 = (6, sp_81, sh_81) := rfl
theorem sr81 : sm_srt sp_81 = true := by decide +kernel
theorem g81_0 {M : sm_M} {x1 : Nat} {nx1 : Nat} {x2 : Int32} {K : Int32 → sm_M → Prop} (hS : SH M) (hx1 : sA x1 1 nx1) (h : (((iV M 30 3) ≤ 0 → sm_w 81 (22, [none, some (.ref x1), some (.int (x2)), some (.int (iV M 30 2)), some (.int ((0 : Int32))), some (.int ((0 : Int32)))], []) M (rI K)) ∧ (¬ (iV M 30 3) ≤ 0 → sm_w 81 (22, [none, some (.ref x1), some (.int (x2)), some (.int (iV M 30 2)), some (.int ((1 : Int32))), some (.int ((0 : Int32)))], []) M (rI K)))) : sm_w 81 (sm_in sP 81 [.ref 30, .ref x1, .int (x2)]) M (rI K) := by
  show sm_w 81 (0, [some (.ref 30), some (.ref x1), some (.int (x2)), none, none, none], []) M (rI K)
  refine sm_w.run t81 sr81 0 6 (M2 := M) (f2 := (if (iV M 30 3) ≤ 0 then 16 else 12, [some (.ref 30), some (.ref x1), some (.int (x2)), some (.int (iV M 30 2)), none, none], [])) rfl ⟨trivial, sm_K.g (k_30 hS) (sm_sh.rf _), (Nat.le_of_ble_eq_true rfl), trivial, sm_K.g (k_30 hS) (sm_sh.rf _), trivial, trivial⟩ ?_
  refine sm_w.ite (fun hc => ?_) (fun hc => ?_)
  · have h := h.1 hc
    refine sm_w.run t81 sr81 8 4 (M2 := M) (f2 := (22, [some (.ref 30), some (.ref x1), some (.int (x2)), some (.int (iV M 30 2)), some (.int ((0 : Int32))), some (.int ((0 : Int32)))], [])) rfl ⟨trivial, (Nat.le_of_ble_eq_true rfl), trivial, (Nat.le_of_ble_eq_true rfl), trivial⟩ ?_
    refine sm_w.weak (ls := [none, some (.ref x1), some (.int (x2)), some (.int (iV M 30 2)), some (.int ((0 : Int32))), some (.int ((0 : Int32)))]) (sm_leI [false, true, true, true, true, true] rfl) ?_
    exact h
  · have h := h.2 hc
    refine sm_w.run t81 sr81 6 2 (M2 := M) (f2 := (17, [some (.ref 30), some (.ref x1), some (.int (x2)), some (.int (iV M 30 2)), none, none], [.int ((1 : Int32))])) rfl ⟨trivial, trivial, trivial⟩ ?_
    refine sm_w.run t81 sr81 9 3 (M2 := M) (f2 := (22, [some (.ref 30), some (.ref x1), some (.int (x2)), some (.int (iV M 30 2)), some (.int ((1 : Int32))), some (.int ((0 : Int32)))], [])) rfl ⟨(Nat.le_of_ble_eq_true rfl), trivial, (Nat.le_of_ble_eq_true rfl), trivial⟩ ?_
    refine sm_w.weak (ls := [none, some (.ref x1), some (.int (x2)), some (.int (iV M 30 2)), some (.int ((1 : Int32))), some (.int ((0 : Int32)))]) (sm_leI [false, true, true, true, true, true] rfl) ?_
    exact h
theorem g81_1 {M : sm_M} {x1 : Nat} {nx1 : Nat} {x2 : Int32} {x3 : Int32} {x4 : Int32} {x5 : Int32} {K : Int32 → sm_M → Prop} (hS : SH M) (hx1 : sA x1 1 nx1) (h : ((x2 ≤ x5 → K x3 M) ∧ (¬ x2 ≤ x5 → (((Int32.ofNat nx1) ≤ x5 → K x3 M) ∧ (¬ (Int32.ofNat nx1) ≤ x5 → (vp_in x5 nx1) ∧ (((p31_0 M (iV M x1 x5.toNatClampNeg)) = 0 → ((x4 = 0 → sm_w 81 (22, [none, some (.ref x1), some (.int (x2)), some (.int (x3 + (1 : Int32))), some (.int ((0 : Int32))), some (.int (x5 + (1 : Int32)))], []) M (rI K)) ∧ (¬ x4 = 0 → sm_w 81 (22, [none, some (.ref x1), some (.int (x2)), some (.int (x3 + (2 : Int32))), some (.int ((0 : Int32))), some (.int (x5 + (1 : Int32)))], []) M (rI K)))) ∧ (¬ (p31_0 M (iV M x1 x5.toNatClampNeg)) = 0 → ((x3 ≤ 0 → sm_w 81 (22, [none, some (.ref x1), some (.int (x2)), some (.int (x3)), some (.int ((0 : Int32))), some (.int (x5 + (1 : Int32)))], []) M (rI K)) ∧ (¬ x3 ≤ 0 → sm_w 81 (22, [none, some (.ref x1), some (.int (x2)), some (.int (x3)), some (.int ((1 : Int32))), some (.int (x5 + (1 : Int32)))], []) M (rI K)))))))))) : sm_w 81 (22, [none, some (.ref x1), some (.int (x2)), some (.int (x3)), some (.int (x4)), some (.int (x5))], []) M (rI K) := by
  refine sm_w.run t81 sr81 12 3 (M2 := M) (f2 := (if x2 ≤ x5 then 81 else 28, [none, some (.ref x1), some (.int (x2)), some (.int (x3)), some (.int (x4)), some (.int (x5))], [])) rfl ⟨trivial, trivial, trivial, trivial⟩ ?_
  refine sm_w.ite (fun hc => ?_) (fun hc => ?_)
  · have h := h.1 hc
    refine sm_w.run t81 sr81 43 1 (M2 := M) (f2 := (82, [none, some (.ref x1), some (.int (x2)), some (.int (x3)), some (.int (x4)), some (.int (x5))], [.int (x3)])) rfl ⟨trivial, trivial⟩ ?_
    exact sm_w.end t81 sr81 44 (o := .returned (some (.int (x3)))) (M2 := M) rfl rfl (by decide) (⟨_, rfl, h⟩)
  · have h := h.2 hc
    refine sm_w.run t81 sr81 15 3 (M2 := M) (f2 := (32, [none, some (.ref x1), some (.int (x2)), some (.int (x3)), some (.int (x4)), some (.int (x5))], [.int (Int32.ofNat (sm_ln M x1)), .int (x5)])) rfl ⟨trivial, trivial, sm_K.l (hx1.K hS) (sm_sh.rf _) (by decide), trivial⟩ ?_
    refine sm_w.aln (hx1.L hS) ?_
    refine sm_w.run t81 sr81 18 1 (M2 := M) (f2 := (if (Int32.ofNat nx1) ≤ x5 then 81 else 35, [none, some (.ref x1), some (.int (x2)), some (.int (x3)), some (.int (x4)), some (.int (x5))], [])) rfl ⟨trivial, trivial⟩ ?_
    refine sm_w.ite (fun hc => ?_) (fun hc => ?_)
    · have h := h.1 hc
      refine sm_w.run t81 sr81 43 1 (M2 := M) (f2 := (82, [none, some (.ref x1), some (.int (x2)), some (.int (x3)), some (.int (x4)), some (.int (x5))], [.int (x3)])) rfl ⟨trivial, trivial⟩ ?_
      exact sm_w.end t81 sr81 44 (o := .returned (some (.int (x3)))) (M2 := M) rfl rfl (by decide) (⟨_, rfl, h⟩)
    · have h := h.2 hc
      obtain ⟨c1, h⟩ := h
      refine sm_w.run t81 sr81 19 3 (M2 := M) (f2 := (39, [none, some (.ref x1), some (.int (x2)), some (.int (x3)), some (.int (x4)), some (.int (x5))], [.int (iV M x1 x5.toNatClampNeg)])) rfl ⟨trivial, trivial, sm_K.a2 (hx1.K hS) (hx1.L hS) c1, trivial⟩ ?_
      refine sm_w.cI t81 sr81 22 (i := 31) (as := [.int (iV M x1 x5.toNatClampNeg)]) (g := (39, [none, some (.ref x1), some (.int (x2)), some (.int (x3)), some (.int (x4)), some (.int (x5))], [])) rfl ⟨(Nat.le_of_ble_eq_true rfl), (Nat.le_of_ble_eq_true rfl)⟩ (Nat.le_of_ble_eq_true rfl) (by decide) (p31_c hS) (fun vz M2 hz => ?_)
      obtain ⟨hz1, hz2⟩ := hz
      subst hz1
      have hz2 := hz2.symm
      subst hz2
      refine sm_w.run t81 sr81 23 1 (M2 := M) (f2 := (if (p31_0 M (iV M x1 x5.toNatClampNeg)) = 0 then 59 else 45, [none, some (.ref x1), some (.int (x2)), some (.int (x3)), some (.int (x4)), some (.int (x5))], [])) rfl ⟨trivial, trivial⟩ ?_
      refine sm_w.ite (fun hc => ?_) (fun hc => ?_)
      · have h := h.1 hc
        refine sm_w.run t81 sr81 31 3 (M2 := M) (f2 := (if x4 = 0 then 69 else 65, [none, some (.ref x1), some (.int (x2)), some (.int (x3)), some (.int (x4)), some (.int (x5))], [.int (x3)])) rfl ⟨trivial, trivial, trivial, trivial⟩ ?_
        refine sm_w.ite (fun hc => ?_) (fun hc => ?_)
        · have h := h.1 hc
          refine sm_w.run t81 sr81 36 7 (M2 := M) (f2 := (22, [none, some (.ref x1), some (.int (x2)), some (.int (x3 + (1 : Int32))), some (.int ((0 : Int32))), some (.int (x5 + (1 : Int32)))], [])) rfl ⟨trivial, trivial, (Nat.le_of_ble_eq_true rfl), trivial, (Nat.le_of_ble_eq_true rfl), (Nat.le_of_ble_eq_true rfl), trivial, trivial⟩ ?_
          exact h
        · have h := h.2 hc
          refine sm_w.run t81 sr81 34 2 (M2 := M) (f2 := (70, [none, some (.ref x1), some (.int (x2)), some (.int (x3)), some (.int (x4)), some (.int (x5))], [.int ((2 : Int32)), .int (x3)])) rfl ⟨trivial, trivial, trivial⟩ ?_
          refine sm_w.run t81 sr81 37 6 (M2 := M) (f2 := (22, [none, some (.ref x1), some (.int (x2)), some (.int (x3 + (2 : Int32))), some (.int ((0 : Int32))), some (.int (x5 + (1 : Int32)))], [])) rfl ⟨trivial, (Nat.le_of_ble_eq_true rfl), trivial, (Nat.le_of_ble_eq_true rfl), (Nat.le_of_ble_eq_true rfl), trivial, trivial⟩ ?_
          exact h
      · have h := h.2 hc
        refine sm_w.run t81 sr81 24 2 (M2 := M) (f2 := (if x3 ≤ 0 then 53 else 49, [none, some (.ref x1), some (.int (x2)), some (.int (x3)), some (.int (x4)), some (.int (x5))], [])) rfl ⟨trivial, trivial, trivial⟩ ?_
        refine sm_w.ite (fun hc => ?_) (fun hc => ?_)
        · have h := h.1 hc
          refine sm_w.run t81 sr81 28 3 (M2 := M) (f2 := (75, [none, some (.ref x1), some (.int (x2)), some (.int (x3)), some (.int ((0 : Int32))), some (.int (x5))], [])) rfl ⟨trivial, (Nat.le_of_ble_eq_true rfl), trivial, trivial⟩ ?_
          refine sm_w.run t81 sr81 41 2 (M2 := M) (f2 := (22, [none, some (.ref x1), some (.int (x2)), some (.int (x3)), some (.int ((0 : Int32))), some (.int (x5 + (1 : Int32)))], [])) rfl ⟨(Nat.le_of_ble_eq_true rfl), trivial, trivial⟩ ?_
          exact h
        · have h := h.2 hc
          refine sm_w.run t81 sr81 26 2 (M2 := M) (f2 := (54, [none, some (.ref x1), some (.int (x2)), some (.int (x3)), some (.int (x4)), some (.int (x5))], [.int ((1 : Int32))])) rfl ⟨trivial, trivial, trivial⟩ ?_
          refine sm_w.run t81 sr81 29 2 (M2 := M) (f2 := (75, [none, some (.ref x1), some (.int (x2)), some (.int (x3)), some (.int ((1 : Int32))), some (.int (x5))], [])) rfl ⟨(Nat.le_of_ble_eq_true rfl), trivial, trivial⟩ ?_
          refine sm_w.run t81 sr81 41 2 (M2 := M) (f2 := (22, [none, some (.ref x1), some (.int (x2)), some (.int (x3)), some (.int ((1 : Int32))), some (.int (x5 + (1 : Int32)))], [])) rfl ⟨(Nat.le_of_ble_eq_true rfl), trivial, trivial⟩ ?_
          exact h
-- 84 LineSetter$Paragraph.addByte(II)V
theorem t84 : sP 84 = (3, sp_84, sh_84) := rfl
theorem sr84 : sm_srt sp_84 = true := by decide +kernel
theorem g84_0 {M : sm_M} {x1 : Int32} {x2 : Int32} {K : sm_M → Prop} (hS : SH M)  (h : (((4000 : Int32) ≤ (iV M 30 2) → K M) ∧ (¬ (4000 : Int32) ≤ (iV M 30 2) → (vp_in (iV M 30 2) 4000) ∧ ∀ M2, SH M2 → M2 = sm_wI M 31 (iV M 30 2).toNatClampNeg x1.toInt8.toInt32.toInt8.toInt32 → (vp_in (iV M2 30 2) 4000) ∧ ∀ M5, SH M5 → M5 = sm_wI M2 32 (iV M2 30 2).toNatClampNeg x2 → ∀ M7, SH M7 → M7 = sm_wI M5 30 2 ((iV M5 30 2) + (1 : Int32)) → K M7))) : sm_w 84 (sm_in sP 84 [.ref 30, .int (x1), .int (x2)]) M (rV K) := by
  show sm_w 84 (0, [some (.ref 30), some (.int (x1)), some (.int (x2))], []) M (rV K)
  refine sm_w.run t84 sr84 0 4 (M2 := M) (f2 := (if (4000 : Int32) ≤ (iV M 30 2) then 41 else 10, [some (.ref 30), some (.int (x1)), some (.int (x2))], [])) rfl ⟨trivial, sm_K.g (k_30 hS) (sm_sh.rf _), trivial, trivial, trivial⟩ ?_
  refine sm_w.ite (fun hc => ?_) (fun hc => ?_)
  · have h := h.1 hc
    exact sm_w.end t84 sr84 23 (o := .returned none) (M2 := M) rfl trivial (by decide) (⟨rfl, h⟩)
  · have h := h.2 hc
    refine sm_w.run t84 sr84 4 2 (M2 := M) (f2 := (14, [some (.ref 30), some (.int (x1)), some (.int (x2))], [va_rf (sm_rv M 30 0)])) rfl ⟨trivial, sm_K.g (k_30 hS) (sm_sh.rf _), trivial⟩ ?_
    refine sm_w.fld (r_30_0 hS) ?_
    obtain ⟨c1, h⟩ := h
    refine sm_w.run t84 sr84 6 5 (M2 := sm_wI M 31 (iV M 30 2).toNatClampNeg x1.toInt8.toInt32.toInt8.toInt32) (f2 := (21, [some (.ref 30), some (.int (x1)), some (.int (x2))], [])) rfl ⟨trivial, sm_K.g (k_30 hS) (sm_sh.rf _), trivial, trivial, sm_K.s2 (k_31 hS) (l_31 hS) c1, trivial⟩ ?_
    have hS3 : SH (sm_wI M 31 (iV M 30 2).toNatClampNeg x1.toInt8.toInt32.toInt8.toInt32) := SH.wI hS _ _ _
    have h := h _ hS3 rfl
    generalize sm_wI M 31 (iV M 30 2).toNatClampNeg x1.toInt8.toInt32.toInt8.toInt32 = M2 at h hS3 ⊢
    refine sm_w.run t84 sr84 11 2 (M2 := M2) (f2 := (25, [some (.ref 30), some (.int (x1)), some (.int (x2))], [va_rf (sm_rv M2 30 1)])) rfl ⟨trivial, sm_K.g (k_30 hS3) (sm_sh.rf _), trivial⟩ ?_
    refine sm_w.fld (r_30_1 hS3) ?_
    obtain ⟨c4, h⟩ := h
    refine sm_w.run t84 sr84 13 4 (M2 := sm_wI M2 32 (iV M2 30 2).toNatClampNeg x2) (f2 := (31, [some (.ref 30), some (.int (x1)), some (.int (x2))], [])) rfl ⟨trivial, sm_K.g (k_30 hS3) (sm_sh.rf _), trivial, sm_K.s2 (k_32 hS3) (l_32 hS3) c4, trivial⟩ ?_
    have hS6 : SH (sm_wI M2 32 (iV M2 30 2).toNatClampNeg x2) := SH.wI hS3 _ _ _
    have h := h _ hS6 rfl
    generalize sm_wI M2 32 (iV M2 30 2).toNatClampNeg x2 = M5 at h hS6 ⊢
    refine sm_w.run t84 sr84 17 6 (M2 := sm_wI M5 30 2 ((iV M5 30 2) + (1 : Int32))) (f2 := (41, [some (.ref 30), some (.int (x1)), some (.int (x2))], [])) rfl ⟨trivial, rfl, sm_K.g (k_30 hS6) (sm_sh.rf _), trivial, trivial, ⟨(sm_K.p (k_30 hS6) (sm_sh.rf _)).1, (sm_K.p (k_30 hS6) (sm_sh.rf _)).2.1, (sm_K.p (k_30 hS6) (sm_sh.rf _)).2.2, Or.inl rfl⟩, trivial⟩ ?_
    have hS8 : SH (sm_wI M5 30 2 ((iV M5 30 2) + (1 : Int32))) := SH.wI hS6 _ _ _
    have h := h _ hS8 rfl
    generalize sm_wI M5 30 2 ((iV M5 30 2) + (1 : Int32)) = M7 at h hS8 ⊢
    exact sm_w.end t84 sr84 23 (o := .returned none) (M2 := M7) rfl trivial (by decide) (⟨rfl, h⟩)
-- 83 LineSetter$Paragraph.addWaitingBlank()V
theorem t83 : sP 83 = (1, sp_83, sh_83) := rfl
theorem sr83 : sm_srt sp_83 = true := by decide +kernel
theorem g83_0 {M : sm_M}  {K : sm_M → Prop} (hS : SH M)  (h : (((iV M 30 3) ≤ 0 → K M) ∧ (¬ (iV M 30 3) ≤ 0 → sm_cV 84 [.ref 30, .int ((32 : Int32)), .int (iV M 30 3)] M (fun M1 => SH M1 → ∀ M4, SH M4 → M4 = sm_wI M1 30 3 (0 : Int32) → K M4)))) : sm_w 83 (sm_in sP 83 [.ref 30]) M (rV K) := by
  show sm_w 83 (0, [some (.ref 30)], []) M (rV K)
  refine sm_w.run t83 sr83 0 3 (M2 := M) (f2 := (if (iV M 30 3) ≤ 0 then 22 else 7, [some (.ref 30)], [])) rfl ⟨trivial, sm_K.g (k_30 hS) (sm_sh.rf _), trivial, trivial⟩ ?_
  refine sm_w.ite (fun hc => ?_) (fun hc => ?_)
  · have h := h.1 hc
    exact sm_w.end t83 sr83 11 (o := .returned none) (M2 := M) rfl trivial (by decide) (⟨rfl, h⟩)
  · have h := h.2 hc
    refine sm_w.run t83 sr83 3 4 (M2 := M) (f2 := (14, [some (.ref 30)], [.int (iV M 30 3), .int ((32 : Int32)), .ref 30])) rfl ⟨trivial, trivial, trivial, sm_K.g (k_30 hS) (sm_sh.rf _), trivial⟩ ?_
    refine sm_w.cV t83 sr83 7 (i := 84) (as := [.ref 30, .int ((32 : Int32)), .int (iV M 30 3)]) (g := (14, [some (.ref 30)], [])) rfl ⟨by decide, by decide, (Nat.le_of_ble_eq_true rfl), (sm_K.g (k_30 hS) (sm_sh.rf _)).1, (sm_K.g (k_30 hS) (sm_sh.rf _)).2, (Nat.le_of_ble_eq_true rfl)⟩ (Nat.le_of_ble_eq_true rfl) (by decide) (sm_cV.s (by decide) hS h) (fun M1 h => ?_)
    obtain ⟨hS3, h⟩ := h
    refine sm_w.run t83 sr83 8 3 (M2 := sm_wI M1 30 3 (0 : Int32)) (f2 := (22, [some (.ref 30)], [])) rfl ⟨trivial, trivial, ⟨(sm_K.p (k_30 hS3) (sm_sh.rf _)).1, (sm_K.p (k_30 hS3) (sm_sh.rf _)).2.1, (sm_K.p (k_30 hS3) (sm_sh.rf _)).2.2, Or.inl rfl⟩, trivial⟩ ?_
    have hS5 : SH (sm_wI M1 30 3 (0 : Int32)) := SH.wI hS3 _ _ _
    have h := h _ hS5 rfl
    generalize sm_wI M1 30 3 (0 : Int32) = M4 at h hS5 ⊢
    exact sm_w.end t83 sr83 11 (o := .returned none) (M2 := M4) rfl trivial (by decide) (⟨rfl, h⟩)
