/-! METHODS by their segments. -/
-- 182 LineSetterModel.hyphens()I
theorem t182 : sP 182 = (3, sp_182, sh_182) := rfl
theorem sr182 : sm_srt sp_182 = true := by decide +kernel
theorem g182_0 {M : sm_M}  {K : Int32 → sm_M → Prop} (hS : SH M)  (h : sm_cV 169 [.ref 116] M (fun M1 => SH M1 → ∀ M4, SH M4 → M4 = sm_wI M1 116 45 (0 : Int32) → ∀ M6, SH M6 → M6 = sm_wI M4 116 46 (0 : Int32) → ∀ M8, SH M8 → M8 = sm_wI M6 116 35 (2 : Int32) → ∀ M10, SH M10 → M10 = sm_wI M8 116 36 (3 : Int32) → ∀ M12, SH M12 → M12 = sm_wI M10 116 50 (0 : Int32) → sm_cV 183 [.ref 116] M12 (fun M14 => SH M14 → sm_w 182 (33, [some (.ref 116), none, none], []) M14 (rI K)))) : sm_w 182 (sm_in sP 182 [.ref 116]) M (rI K) := by
  show sm_w 182 (0, [some (.ref 116), none, none], []) M (rI K)
  refine sm_w.run t182 sr182 0 1 (M2 := M) (f2 := (1, [some (.ref 116), none, none], [.ref 116])) rfl ⟨trivial, trivial⟩ ?_
  refine sm_w.cV t182 sr182 1 (i := 169) (as := [.ref 116]) (g := (1, [some (.ref 116), none, none], [])) rfl ⟨by decide, by decide, (Nat.le_of_ble_eq_true rfl), (sm_K.g (k_116 hS) (sm_sh.rf _)).1, (sm_K.g (k_116 hS) (sm_sh.rf _)).2, (Nat.le_of_ble_eq_true rfl)⟩ (Nat.le_of_ble_eq_true rfl) (by decide) (sm_cV.s (by decide) hS h) (fun M1 h => ?_)
  obtain ⟨hS3, h⟩ := h
  refine sm_w.run t182 sr182 2 3 (M2 := sm_wI M1 116 45 (0 : Int32)) (f2 := (9, [some (.ref 116), none, none], [])) rfl ⟨trivial, trivial, ⟨(sm_K.p (k_116 hS3) (sm_sh.rf _)).1, (sm_K.p (k_116 hS3) (sm_sh.rf _)).2.1, (sm_K.p (k_116 hS3) (sm_sh.rf _)).2.2, Or.inl rfl⟩, trivial⟩ ?_
  have hS5 : SH (sm_wI M1 116 45 (0 : Int32)) := SH.wI hS3 _ _ _
  have h := h _ hS5 rfl
  generalize sm_wI M1 116 45 (0 : Int32) = M4 at h hS5 ⊢
  refine sm_w.run t182 sr182 5 3 (M2 := sm_wI M4 116 46 (0 : Int32)) (f2 := (14, [some (.ref 116), none, none], [])) rfl ⟨trivial, trivial, ⟨(sm_K.p (k_116 hS5) (sm_sh.rf _)).1, (sm_K.p (k_116 hS5) (sm_sh.rf _)).2.1, (sm_K.p (k_116 hS5) (sm_sh.rf _)).2.2, Or.inl rfl⟩, trivial⟩ ?_
  have hS7 : SH (sm_wI M4 116 46 (0 : Int32)) := SH.wI hS5 _ _ _
  have h := h _ hS7 rfl
  generalize sm_wI M4 116 46 (0 : Int32) = M6 at h hS7 ⊢
  refine sm_w.run t182 sr182 8 3 (M2 := sm_wI M6 116 35 (2 : Int32)) (f2 := (19, [some (.ref 116), none, none], [])) rfl ⟨trivial, trivial, ⟨(sm_K.p (k_116 hS7) (sm_sh.rf _)).1, (sm_K.p (k_116 hS7) (sm_sh.rf _)).2.1, (sm_K.p (k_116 hS7) (sm_sh.rf _)).2.2, Or.inl rfl⟩, trivial⟩ ?_
  have hS9 : SH (sm_wI M6 116 35 (2 : Int32)) := SH.wI hS7 _ _ _
  have h := h _ hS9 rfl
  generalize sm_wI M6 116 35 (2 : Int32) = M8 at h hS9 ⊢
  refine sm_w.run t182 sr182 11 3 (M2 := sm_wI M8 116 36 (3 : Int32)) (f2 := (24, [some (.ref 116), none, none], [])) rfl ⟨trivial, trivial, ⟨(sm_K.p (k_116 hS9) (sm_sh.rf _)).1, (sm_K.p (k_116 hS9) (sm_sh.rf _)).2.1, (sm_K.p (k_116 hS9) (sm_sh.rf _)).2.2, Or.inl rfl⟩, trivial⟩ ?_
  have hS11 : SH (sm_wI M8 116 36 (3 : Int32)) := SH.wI hS9 _ _ _
  have h := h _ hS11 rfl
  generalize sm_wI M8 116 36 (3 : Int32) = M10 at h hS11 ⊢
  refine sm_w.run t182 sr182 14 3 (M2 := sm_wI M10 116 50 (0 : Int32)) (f2 := (29, [some (.ref 116), none, none], [])) rfl ⟨trivial, trivial, ⟨(sm_K.p (k_116 hS11) (sm_sh.rf _)).1, (sm_K.p (k_116 hS11) (sm_sh.rf _)).2.1, (sm_K.p (k_116 hS11) (sm_sh.rf _)).2.2, Or.inl rfl⟩, trivial⟩ ?_
  have hS13 : SH (sm_wI M10 116 50 (0 : Int32)) := SH.wI hS11 _ _ _
  have h := h _ hS13 rfl
  generalize sm_wI M10 116 50 (0 : Int32) = M12 at h hS13 ⊢
  refine sm_w.run t182 sr182 17 1 (M2 := M12) (f2 := (30, [some (.ref 116), none, none], [.ref 116])) rfl ⟨trivial, trivial⟩ ?_
  refine sm_w.cV t182 sr182 18 (i := 183) (as := [.ref 116]) (g := (30, [some (.ref 116), none, none], [])) rfl ⟨by decide, by decide, (Nat.le_of_ble_eq_true rfl), (sm_K.g (k_116 hS13) (sm_sh.rf _)).1, (sm_K.g (k_116 hS13) (sm_sh.rf _)).2, (Nat.le_of_ble_eq_true rfl)⟩ (Nat.le_of_ble_eq_true rfl) (by decide) (sm_cV.s (by decide) hS13 h) (fun M14 h => ?_)
  obtain ⟨hS16, h⟩ := h
  exact h
theorem g182_1 {M : sm_M}  {K : Int32 → sm_M → Prop} (hS : SH M)  (h : ((0 ≤ (iV M 116 8) → ∀ M1, SH M1 → M1 = sm_wI M 116 7 (iV M 116 8) → (((iV M1 116 8) < 0 → ∀ M3, SH M3 → M3 = sm_wI M1 116 0 (0 : Int32) → ∀ M5, SH M5 → M5 = sm_wI M3 116 33 (iV M3 116 35) → ∀ M7, SH M7 → M7 = sm_wI M5 116 34 (iV M5 116 36) → ∀ M9, SH M9 → M9 = sm_wI M7 116 43 (iV M7 116 45) → ∀ M11, SH M11 → M11 = sm_wI M9 116 44 (iV M9 116 46) → sm_w 182 (129, [some (.ref 116), some (.int ((0 : Int32))), none], []) M11 (rI K)) ∧ (¬ (iV M1 116 8) < 0 → ∀ M16, SH M16 → M16 = sm_wI M1 116 0 (1 : Int32) → K (0 : Int32) M16))) ∧ (¬ 0 ≤ (iV M 116 8) → (((iV M 116 4) ≤ (iV M 116 49) → ∀ M18, SH M18 → M18 = sm_wI M 116 7 (iV M 116 8) → (((iV M18 116 8) < 0 → ∀ M20, SH M20 → M20 = sm_wI M18 116 0 (0 : Int32) → ∀ M22, SH M22 → M22 = sm_wI M20 116 33 (iV M20 116 35) → ∀ M24, SH M24 → M24 = sm_wI M22 116 34 (iV M22 116 36) → ∀ M26, SH M26 → M26 = sm_wI M24 116 43 (iV M24 116 45) → ∀ M28, SH M28 → M28 = sm_wI M26 116 44 (iV M26 116 46) → sm_w 182 (129, [some (.ref 116), some (.int ((0 : Int32))), none], []) M28 (rI K)) ∧ (¬ (iV M18 116 8) < 0 → ∀ M33, SH M33 → M33 = sm_wI M18 116 0 (1 : Int32) → K (0 : Int32) M33))) ∧ (¬ (iV M 116 4) ≤ (iV M 116 49) → sm_cV 184 [.ref 116] M (fun M35 => SH M35 → ((0 ≤ (iV M35 116 8) → sm_w 182 (33, [some (.ref 116), none, none], []) M35 (rI K)) ∧ (¬ 0 ≤ (iV M35 116 8) → sm_cV 183 [.ref 116] M35 (fun M38 => SH M38 → sm_w 182 (33, [some (.ref 116), none, none], []) M38 (rI K)))))))))) : sm_w 182 (33, [some (.ref 116), none, none], []) M (rI K) := by
  refine sm_w.run t182 sr182 19 3 (M2 := M) (f2 := (if 0 ≤ (iV M 116 8) then 69 else 40, [some (.ref 116), none, none], [])) rfl ⟨trivial, sm_K.g (k_116 hS) (sm_sh.rf _), trivial, trivial⟩ ?_
  refine sm_w.ite (fun hc => ?_) (fun hc => ?_)
  · have h := h.1 hc
    refine sm_w.run t182 sr182 35 4 (M2 := sm_wI M 116 7 (iV M 116 8)) (f2 := (77, [some (.ref 116), none, none], [])) rfl ⟨trivial, trivial, sm_K.g (k_116 hS) (sm_sh.rf _), ⟨(sm_K.p (k_116 hS) (sm_sh.rf _)).1, (sm_K.p (k_116 hS) (sm_sh.rf _)).2.1, (sm_K.p (k_116 hS) (sm_sh.rf _)).2.2, Or.inl rfl⟩, trivial⟩ ?_
    have hS2 : SH (sm_wI M 116 7 (iV M 116 8)) := SH.wI hS _ _ _
    have h := h _ hS2 rfl
    generalize sm_wI M 116 7 (iV M 116 8) = M1 at h hS2 ⊢
    refine sm_w.run t182 sr182 39 3 (M2 := M1) (f2 := (if (iV M1 116 8) < 0 then 90 else 84, [some (.ref 116), none, none], [])) rfl ⟨trivial, sm_K.g (k_116 hS2) (sm_sh.rf _), trivial, trivial⟩ ?_
    refine sm_w.ite (fun hc => ?_) (fun hc => ?_)
    · have h := h.1 hc
      refine sm_w.run t182 sr182 46 3 (M2 := sm_wI M1 116 0 (0 : Int32)) (f2 := (95, [some (.ref 116), none, none], [])) rfl ⟨trivial, trivial, ⟨(sm_K.p (k_116 hS2) (sm_sh.rf _)).1, (sm_K.p (k_116 hS2) (sm_sh.rf _)).2.1, (sm_K.p (k_116 hS2) (sm_sh.rf _)).2.2, Or.inl rfl⟩, trivial⟩ ?_
      have hS4 : SH (sm_wI M1 116 0 (0 : Int32)) := SH.wI hS2 _ _ _
      have h := h _ hS4 rfl
      generalize sm_wI M1 116 0 (0 : Int32) = M3 at h hS4 ⊢
      refine sm_w.run t182 sr182 49 4 (M2 := sm_wI M3 116 33 (iV M3 116 35)) (f2 := (103, [some (.ref 116), none, none], [])) rfl ⟨trivial, trivial, sm_K.g (k_116 hS4) (sm_sh.rf _), ⟨(sm_K.p (k_116 hS4) (sm_sh.rf _)).1, (sm_K.p (k_116 hS4) (sm_sh.rf _)).2.1, (sm_K.p (k_116 hS4) (sm_sh.rf _)).2.2, Or.inl rfl⟩, trivial⟩ ?_
      have hS6 : SH (sm_wI M3 116 33 (iV M3 116 35)) := SH.wI hS4 _ _ _
      have h := h _ hS6 rfl
      generalize sm_wI M3 116 33 (iV M3 116 35) = M5 at h hS6 ⊢
      refine sm_w.run t182 sr182 53 4 (M2 := sm_wI M5 116 34 (iV M5 116 36)) (f2 := (111, [some (.ref 116), none, none], [])) rfl ⟨trivial, trivial, sm_K.g (k_116 hS6) (sm_sh.rf _), ⟨(sm_K.p (k_116 hS6) (sm_sh.rf _)).1, (sm_K.p (k_116 hS6) (sm_sh.rf _)).2.1, (sm_K.p (k_116 hS6) (sm_sh.rf _)).2.2, Or.inl rfl⟩, trivial⟩ ?_
      have hS8 : SH (sm_wI M5 116 34 (iV M5 116 36)) := SH.wI hS6 _ _ _
      have h := h _ hS8 rfl
      generalize sm_wI M5 116 34 (iV M5 116 36) = M7 at h hS8 ⊢
      refine sm_w.run t182 sr182 57 4 (M2 := sm_wI M7 116 43 (iV M7 116 45)) (f2 := (119, [some (.ref 116), none, none], [])) rfl ⟨trivial, trivial, sm_K.g (k_116 hS8) (sm_sh.rf _), ⟨(sm_K.p (k_116 hS8) (sm_sh.rf _)).1, (sm_K.p (k_116 hS8) (sm_sh.rf _)).2.1, (sm_K.p (k_116 hS8) (sm_sh.rf _)).2.2, Or.inl rfl⟩, trivial⟩ ?_
      have hS10 : SH (sm_wI M7 116 43 (iV M7 116 45)) := SH.wI hS8 _ _ _
      have h := h _ hS10 rfl
      generalize sm_wI M7 116 43 (iV M7 116 45) = M9 at h hS10 ⊢
      refine sm_w.run t182 sr182 61 4 (M2 := sm_wI M9 116 44 (iV M9 116 46)) (f2 := (127, [some (.ref 116), none, none], [])) rfl ⟨trivial, trivial, sm_K.g (k_116 hS10) (sm_sh.rf _), ⟨(sm_K.p (k_116 hS10) (sm_sh.rf _)).1, (sm_K.p (k_116 hS10) (sm_sh.rf _)).2.1, (sm_K.p (k_116 hS10) (sm_sh.rf _)).2.2, Or.inl rfl⟩, trivial⟩ ?_
      have hS12 : SH (sm_wI M9 116 44 (iV M9 116 46)) := SH.wI hS10 _ _ _
      have h := h _ hS12 rfl
      generalize sm_wI M9 116 44 (iV M9 116 46) = M11 at h hS12 ⊢
      refine sm_w.run t182 sr182 65 2 (M2 := M11) (f2 := (129, [some (.ref 116), some (.int ((0 : Int32))), none], [])) rfl ⟨trivial, (Nat.le_of_ble_eq_true rfl), trivial⟩ ?_
      exact h
    · have h := h.2 hc
      refine sm_w.run t182 sr182 42 2 (M2 := M1) (f2 := (86, [some (.ref 116), none, none], [.int ((1 : Int32)), .ref 116])) rfl ⟨trivial, trivial, trivial⟩ ?_
      refine sm_w.cI t182 sr182 44 (i := 163) (as := [.ref 116, .int ((1 : Int32))]) (g := (86, [some (.ref 116), none, none], [])) rfl ⟨by decide, by decide, (Nat.le_of_ble_eq_true rfl), (sm_K.g (k_116 hS2) (sm_sh.rf _)).1, (sm_K.g (k_116 hS2) (sm_sh.rf _)).2, (Nat.le_of_ble_eq_true rfl)⟩ (Nat.le_of_ble_eq_true rfl) (by decide) (sm_cI.s2 (by decide) hS2 (g163_0 (K := fun v14 M13 => K v14 M13) hS2 h)) (fun v14 M13 h => ?_)
      obtain ⟨hS15, h⟩ := h
      exact sm_w.end t182 sr182 45 (o := .returned (some (.int (v14)))) (M2 := M13) rfl rfl (by decide) (⟨_, rfl, h⟩)
  · have h := h.2 hc
    refine sm_w.run t182 sr182 22 5 (M2 := M) (f2 := (if (iV M 116 4) ≤ (iV M 116 49) then 69 else 51, [some (.ref 116), none, none], [])) rfl ⟨trivial, sm_K.g (k_116 hS) (sm_sh.rf _), trivial, sm_K.g (k_116 hS) (sm_sh.rf _), trivial, trivial⟩ ?_
    refine sm_w.ite (fun hc => ?_) (fun hc => ?_)
    · have h := h.1 hc
      refine sm_w.run t182 sr182 35 4 (M2 := sm_wI M 116 7 (iV M 116 8)) (f2 := (77, [some (.ref 116), none, none], [])) rfl ⟨trivial, trivial, sm_K.g (k_116 hS) (sm_sh.rf _), ⟨(sm_K.p (k_116 hS) (sm_sh.rf _)).1, (sm_K.p (k_116 hS) (sm_sh.rf _)).2.1, (sm_K.p (k_116 hS) (sm_sh.rf _)).2.2, Or.inl rfl⟩, trivial⟩ ?_
      have hS19 : SH (sm_wI M 116 7 (iV M 116 8)) := SH.wI hS _ _ _
      have h := h _ hS19 rfl
      generalize sm_wI M 116 7 (iV M 116 8) = M18 at h hS19 ⊢
      refine sm_w.run t182 sr182 39 3 (M2 := M18) (f2 := (if (iV M18 116 8) < 0 then 90 else 84, [some (.ref 116), none, none], [])) rfl ⟨trivial, sm_K.g (k_116 hS19) (sm_sh.rf _), trivial, trivial⟩ ?_
      refine sm_w.ite (fun hc => ?_) (fun hc => ?_)
      · have h := h.1 hc
        refine sm_w.run t182 sr182 46 3 (M2 := sm_wI M18 116 0 (0 : Int32)) (f2 := (95, [some (.ref 116), none, none], [])) rfl ⟨trivial, trivial, ⟨(sm_K.p (k_116 hS19) (sm_sh.rf _)).1, (sm_K.p (k_116 hS19) (sm_sh.rf _)).2.1, (sm_K.p (k_116 hS19) (sm_sh.rf _)).2.2, Or.inl rfl⟩, trivial⟩ ?_
        have hS21 : SH (sm_wI M18 116 0 (0 : Int32)) := SH.wI hS19 _ _ _
        have h := h _ hS21 rfl
        generalize sm_wI M18 116 0 (0 : Int32) = M20 at h hS21 ⊢
        refine sm_w.run t182 sr182 49 4 (M2 := sm_wI M20 116 33 (iV M20 116 35)) (f2 := (103, [some (.ref 116), none, none], [])) rfl ⟨trivial, trivial, sm_K.g (k_116 hS21) (sm_sh.rf _), ⟨(sm_K.p (k_116 hS21) (sm_sh.rf _)).1, (sm_K.p (k_116 hS21) (sm_sh.rf _)).2.1, (sm_K.p (k_116 hS21) (sm_sh.rf _)).2.2, Or.inl rfl⟩, trivial⟩ ?_
        have hS23 : SH (sm_wI M20 116 33 (iV M20 116 35)) := SH.wI hS21 _ _ _
        have h := h _ hS23 rfl
        generalize sm_wI M20 116 33 (iV M20 116 35) = M22 at h hS23 ⊢
        refine sm_w.run t182 sr182 53 4 (M2 := sm_wI M22 116 34 (iV M22 116 36)) (f2 := (111, [some (.ref 116), none, none], [])) rfl ⟨trivial, trivial, sm_K.g (k_116 hS23) (sm_sh.rf _), ⟨(sm_K.p (k_116 hS23) (sm_sh.rf _)).1, (sm_K.p (k_116 hS23) (sm_sh.rf _)).2.1, (sm_K.p (k_116 hS23) (sm_sh.rf _)).2.2, Or.inl rfl⟩, trivial⟩ ?_
        have hS25 : SH (sm_wI M22 116 34 (iV M22 116 36)) := SH.wI hS23 _ _ _
        have h := h _ hS25 rfl
        generalize sm_wI M22 116 34 (iV M22 116 36) = M24 at h hS25 ⊢
        refine sm_w.run t182 sr182 57 4 (M2 := sm_wI M24 116 43 (iV M24 116 45)) (f2 := (119, [some (.ref 116), none, none], [])) rfl ⟨trivial, trivial, sm_K.g (k_116 hS25) (sm_sh.rf _), ⟨(sm_K.p (k_116 hS25) (sm_sh.rf _)).1, (sm_K.p (k_116 hS25) (sm_sh.rf _)).2.1, (sm_K.p (k_116 hS25) (sm_sh.rf _)).2.2, Or.inl rfl⟩, trivial⟩ ?_
        have hS27 : SH (sm_wI M24 116 43 (iV M24 116 45)) := SH.wI hS25 _ _ _
        have h := h _ hS27 rfl
        generalize sm_wI M24 116 43 (iV M24 116 45) = M26 at h hS27 ⊢
        refine sm_w.run t182 sr182 61 4 (M2 := sm_wI M26 116 44 (iV M26 116 46)) (f2 := (127, [some (.ref 116), none, none], [])) rfl ⟨trivial, trivial, sm_K.g (k_116 hS27) (sm_sh.rf _), ⟨(sm_K.p (k_116 hS27) (sm_sh.rf _)).1, (sm_K.p (k_116 hS27) (sm_sh.rf _)).2.1, (sm_K.p (k_116 hS27) (sm_sh.rf _)).2.2, Or.inl rfl⟩, trivial⟩ ?_
        have hS29 : SH (sm_wI M26 116 44 (iV M26 116 46)) := SH.wI hS27 _ _ _
        have h := h _ hS29 rfl
        generalize sm_wI M26 116 44 (iV M26 116 46) = M28 at h hS29 ⊢
        refine sm_w.run t182 sr182 65 2 (M2 := M28) (f2 := (129, [some (.ref 116), some (.int ((0 : Int32))), none], [])) rfl ⟨trivial, (Nat.le_of_ble_eq_true rfl), trivial⟩ ?_
        exact h
      · have h := h.2 hc
        refine sm_w.run t182 sr182 42 2 (M2 := M18) (f2 := (86, [some (.ref 116), none, none], [.int ((1 : Int32)), .ref 116])) rfl ⟨trivial, trivial, trivial⟩ ?_
        refine sm_w.cI t182 sr182 44 (i := 163) (as := [.ref 116, .int ((1 : Int32))]) (g := (86, [some (.ref 116), none, none], [])) rfl ⟨by decide, by decide, (Nat.le_of_ble_eq_true rfl), (sm_K.g (k_116 hS19) (sm_sh.rf _)).1, (sm_K.g (k_116 hS19) (sm_sh.rf _)).2, (Nat.le_of_ble_eq_true rfl)⟩ (Nat.le_of_ble_eq_true rfl) (by decide) (sm_cI.s2 (by decide) hS19 (g163_0 (K := fun v31 M30 => K v31 M30) hS19 h)) (fun v31 M30 h => ?_)
        obtain ⟨hS32, h⟩ := h
        exact sm_w.end t182 sr182 45 (o := .returned (some (.int (v31)))) (M2 := M30) rfl rfl (by decide) (⟨_, rfl, h⟩)
    · have h := h.2 hc
      refine sm_w.run t182 sr182 27 1 (M2 := M) (f2 := (52, [some (.ref 116), none, none], [.ref 116])) rfl ⟨trivial, trivial⟩ ?_
      refine sm_w.cV t182 sr182 28 (i := 184) (as := [.ref 116]) (g := (52, [some (.ref 116), none, none], [])) rfl ⟨by decide, by decide, (Nat.le_of_ble_eq_true rfl), (sm_K.g (k_116 hS) (sm_sh.rf _)).1, (sm_K.g (k_116 hS) (sm_sh.rf _)).2, (Nat.le_of_ble_eq_true rfl)⟩ (Nat.le_of_ble_eq_true rfl) (by decide) (sm_cV.s (by decide) hS h) (fun M35 h => ?_)
      obtain ⟨hS37, h⟩ := h
      refine sm_w.run t182 sr182 29 3 (M2 := M35) (f2 := (if 0 ≤ (iV M35 116 8) then 33 else 62, [some (.ref 116), none, none], [])) rfl ⟨trivial, sm_K.g (k_116 hS37) (sm_sh.rf _), trivial, trivial⟩ ?_
      refine sm_w.ite (fun hc => ?_) (fun hc => ?_)
      · have h := h.1 hc
        exact h
      · have h := h.2 hc
        refine sm_w.run t182 sr182 32 1 (M2 := M35) (f2 := (63, [some (.ref 116), none, none], [.ref 116])) rfl ⟨trivial, trivial⟩ ?_
        refine sm_w.cV t182 sr182 33 (i := 183) (as := [.ref 116]) (g := (63, [some (.ref 116), none, none], [])) rfl ⟨by decide, by decide, (Nat.le_of_ble_eq_true rfl), (sm_K.g (k_116 hS37) (sm_sh.rf _)).1, (sm_K.g (k_116 hS37) (sm_sh.rf _)).2, (Nat.le_of_ble_eq_true rfl)⟩ (Nat.le_of_ble_eq_true rfl) (by decide) (sm_cV.s (by decide) hS37 h) (fun M38 h => ?_)
        obtain ⟨hS40, h⟩ := h
        refine sm_w.run t182 sr182 34 1 (M2 := M38) (f2 := (33, [some (.ref 116), none, none], [])) rfl ⟨trivial, trivial⟩ ?_
        exact h
theorem g182_2 {M : sm_M} {x1 : Int32} {K : Int32 → sm_M → Prop} (hS : SH M)  (h : (((iV M 116 43) ≤ x1 → sm_w 182 (241, [some (.ref 116), some (.int ((0 : Int32))), none], []) M (rI K)) ∧ (¬ (iV M 116 43) ≤ x1 → (vp_in ((300 : Int32) + x1) 600) ∧ (vp_in x1 600) ∧ ∀ M3, SH M3 → M3 = sm_wI M 136 x1.toNatClampNeg (iV M 136 ((300 : Int32) + x1).toNatClampNeg) → sm_w 182 (155, [some (.ref 116), some (.int (x1)), some (.int ((0 : Int32)))], []) M3 (rI K)))) : sm_w 182 (129, [some (.ref 116), some (.int (x1)), none], []) M (rI K) := by
  refine sm_w.run t182 sr182 67 4 (M2 := M) (f2 := (if (iV M 116 43) ≤ x1 then 239 else 137, [some (.ref 116), some (.int (x1)), none], [])) rfl ⟨trivial, trivial, sm_K.g (k_116 hS) (sm_sh.rf _), trivial, trivial⟩ ?_
  refine sm_w.ite (fun hc => ?_) (fun hc => ?_)
  · have h := h.1 hc
    refine sm_w.run t182 sr182 133 2 (M2 := M) (f2 := (241, [some (.ref 116), some (.int ((0 : Int32))), none], [])) rfl ⟨trivial, (Nat.le_of_ble_eq_true rfl), trivial⟩ ?_
    exact h
  · have h := h.2 hc
    refine sm_w.run t182 sr182 71 2 (M2 := M) (f2 := (141, [some (.ref 116), some (.int (x1)), none], [va_rf (sm_rv M 116 38)])) rfl ⟨trivial, sm_K.g (k_116 hS) (sm_sh.rf _), trivial⟩ ?_
    refine sm_w.fld (r_116_38 hS) ?_
    refine sm_w.run t182 sr182 73 3 (M2 := M) (f2 := (146, [some (.ref 116), some (.int (x1)), none], [va_rf (sm_rv M 116 38), .int (x1), .ref 136])) rfl ⟨trivial, trivial, sm_K.g (k_116 hS) (sm_sh.rf _), trivial⟩ ?_
    refine sm_w.fld (r_116_38 hS) ?_
    obtain ⟨c1, c2, h⟩ := h
    refine sm_w.run t182 sr182 76 5 (M2 := sm_wI M 136 x1.toNatClampNeg (iV M 136 ((300 : Int32) + x1).toNatClampNeg)) (f2 := (153, [some (.ref 116), some (.int (x1)), none], [])) rfl ⟨trivial, trivial, trivial, sm_K.a2 (k_136 hS) (l_136 hS) c1, sm_K.s2 (k_136 hS) (l_136 hS) c2, trivial⟩ ?_
    have hS4 : SH (sm_wI M 136 x1.toNatClampNeg (iV M 136 ((300 : Int32) + x1).toNatClampNeg)) := SH.wI hS _ _ _
    have h := h _ hS4 rfl
    generalize sm_wI M 136 x1.toNatClampNeg (iV M 136 ((300 : Int32) + x1).toNatClampNeg) = M3 at h hS4 ⊢
    refine sm_w.run t182 sr182 81 2 (M2 := M3) (f2 := (155, [some (.ref 116), some (.int (x1)), some (.int ((0 : Int32)))], [])) rfl ⟨trivial, (Nat.le_of_ble_eq_true rfl), trivial⟩ ?_
    exact h
theorem g182_3 {M : sm_M} {x1 : Int32} {x2 : Int32} {K : Int32 → sm_M → Prop} (hS : SH M)  (h : (((16 : Int32) ≤ x2 → sm_w 182 (195, [some (.ref 116), some (.int (x1)), some (.int ((0 : Int32)))], []) M (rI K)) ∧ (¬ (16 : Int32) ≤ x2 → (vp_in (((16 : Int32) * ((300 : Int32) + x1)) + x2) 9600) ∧ (vp_in (((16 : Int32) * x1) + x2) 9600) ∧ ∀ M3, SH M3 → M3 = sm_wI M 135 (((16 : Int32) * x1) + x2).toNatClampNeg (iV M 135 (((16 : Int32) * ((300 : Int32) + x1)) + x2).toNatClampNeg) → sm_w 182 (155, [some (.ref 116), some (.int (x1)), some (.int (x2 + (1 : Int32)))], []) M3 (rI K)))) : sm_w 182 (155, [some (.ref 116), some (.int (x1)), some (.int (x2))], []) M (rI K) := by
  refine sm_w.run t182 sr182 83 3 (M2 := M) (f2 := (if (16 : Int32) ≤ x2 then 193 else 161, [some (.ref 116), some (.int (x1)), some (.int (x2))], [])) rfl ⟨trivial, trivial, trivial, trivial⟩ ?_
  refine sm_w.ite (fun hc => ?_) (fun hc => ?_)
  · have h := h.1 hc
    refine sm_w.run t182 sr182 106 2 (M2 := M) (f2 := (195, [some (.ref 116), some (.int (x1)), some (.int ((0 : Int32)))], [])) rfl ⟨trivial, (Nat.le_of_ble_eq_true rfl), trivial⟩ ?_
    exact h
  · have h := h.2 hc
    refine sm_w.run t182 sr182 86 2 (M2 := M) (f2 := (165, [some (.ref 116), some (.int (x1)), some (.int (x2))], [va_rf (sm_rv M 116 37)])) rfl ⟨trivial, sm_K.g (k_116 hS) (sm_sh.rf _), trivial⟩ ?_
    refine sm_w.fld (r_116_37 hS) ?_
    refine sm_w.run t182 sr182 88 7 (M2 := M) (f2 := (175, [some (.ref 116), some (.int (x1)), some (.int (x2))], [va_rf (sm_rv M 116 37), .int (((16 : Int32) * x1) + x2), .ref 135])) rfl ⟨trivial, trivial, trivial, trivial, trivial, trivial, sm_K.g (k_116 hS) (sm_sh.rf _), trivial⟩ ?_
    refine sm_w.fld (r_116_37 hS) ?_
    obtain ⟨c1, c2, h⟩ := h
    refine sm_w.run t182 sr182 95 9 (M2 := sm_wI M 135 (((16 : Int32) * x1) + x2).toNatClampNeg (iV M 135 (((16 : Int32) * ((300 : Int32) + x1)) + x2).toNatClampNeg)) (f2 := (187, [some (.ref 116), some (.int (x1)), some (.int (x2))], [])) rfl ⟨trivial, trivial, trivial, trivial, trivial, trivial, trivial, sm_K.a2 (k_135 hS) (l_135 hS) c1, sm_K.s2 (k_135 hS) (l_135 hS) c2, trivial⟩ ?_
    have hS4 : SH (sm_wI M 135 (((16 : Int32) * x1) + x2).toNatClampNeg (iV M 135 (((16 : Int32) * ((300 : Int32) + x1)) + x2).toNatClampNeg)) := SH.wI hS _ _ _
    have h := h _ hS4 rfl
    generalize sm_wI M 135 (((16 : Int32) * x1) + x2).toNatClampNeg (iV M 135 (((16 : Int32) * ((300 : Int32) + x1)) + x2).toNatClampNeg) = M3 at h hS4 ⊢
    refine sm_w.run t182 sr182 104 2 (M2 := M3) (f2 := (155, [some (.ref 116), some (.int (x1)), some (.int (x2 + (1 : Int32)))], [])) rfl ⟨(Nat.le_of_ble_eq_true rfl), trivial, trivial⟩ ?_
    exact h
theorem g182_4 {M : sm_M} {x1 : Int32} {x2 : Int32} {K : Int32 → sm_M → Prop} (hS : SH M)  (h : (((17 : Int32) ≤ x2 → sm_w 182 (129, [some (.ref 116), some (.int (x1 + (1 : Int32))), none], []) M (rI K)) ∧ (¬ (17 : Int32) ≤ x2 → (vp_in (((17 : Int32) * ((300 : Int32) + x1)) + x2) 10200) ∧ (vp_in (((17 : Int32) * x1) + x2) 10200) ∧ ∀ M3, SH M3 → M3 = sm_wI M 137 (((17 : Int32) * x1) + x2).toNatClampNeg (iV M 137 (((17 : Int32) * ((300 : Int32) + x1)) + x2).toNatClampNeg) → sm_w 182 (195, [some (.ref 116), some (.int (x1)), some (.int (x2 + (1 : Int32)))], []) M3 (rI K)))) : sm_w 182 (195, [some (.ref 116), some (.int (x1)), some (.int (x2))], []) M (rI K) := by
  refine sm_w.run t182 sr182 108 3 (M2 := M) (f2 := (if (17 : Int32) ≤ x2 then 233 else 201, [some (.ref 116), some (.int (x1)), some (.int (x2))], [])) rfl ⟨trivial, trivial, trivial, trivial⟩ ?_
  refine sm_w.ite (fun hc => ?_) (fun hc => ?_)
  · have h := h.1 hc
    refine sm_w.run t182 sr182 131 2 (M2 := M) (f2 := (129, [some (.ref 116), some (.int (x1 + (1 : Int32))), some (.int (x2))], [])) rfl ⟨(Nat.le_of_ble_eq_true rfl), trivial, trivial⟩ ?_
    refine sm_w.weak (ls := [some (.ref 116), some (.int (x1 + (1 : Int32))), none]) (sm_leI [true, true, false] rfl) ?_
    exact h
  · have h := h.2 hc
    refine sm_w.run t182 sr182 111 2 (M2 := M) (f2 := (205, [some (.ref 116), some (.int (x1)), some (.int (x2))], [va_rf (sm_rv M 116 39)])) rfl ⟨trivial, sm_K.g (k_116 hS) (sm_sh.rf _), trivial⟩ ?_
    refine sm_w.fld (r_116_39 hS) ?_
    refine sm_w.run t182 sr182 113 7 (M2 := M) (f2 := (215, [some (.ref 116), some (.int (x1)), some (.int (x2))], [va_rf (sm_rv M 116 39), .int (((17 : Int32) * x1) + x2), .ref 137])) rfl ⟨trivial, trivial, trivial, trivial, trivial, trivial, sm_K.g (k_116 hS) (sm_sh.rf _), trivial⟩ ?_
    refine sm_w.fld (r_116_39 hS) ?_
    obtain ⟨c1, c2, h⟩ := h
    refine sm_w.run t182 sr182 120 9 (M2 := sm_wI M 137 (((17 : Int32) * x1) + x2).toNatClampNeg (iV M 137 (((17 : Int32) * ((300 : Int32) + x1)) + x2).toNatClampNeg)) (f2 := (227, [some (.ref 116), some (.int (x1)), some (.int (x2))], [])) rfl ⟨trivial, trivial, trivial, trivial, trivial, trivial, trivial, sm_K.a2 (k_137 hS) (l_137 hS) c1, sm_K.s2 (k_137 hS) (l_137 hS) c2, trivial⟩ ?_
    have hS4 : SH (sm_wI M 137 (((17 : Int32) * x1) + x2).toNatClampNeg (iV M 137 (((17 : Int32) * ((300 : Int32) + x1)) + x2).toNatClampNeg)) := SH.wI hS _ _ _
    have h := h _ hS4 rfl
    generalize sm_wI M 137 (((17 : Int32) * x1) + x2).toNatClampNeg (iV M 137 (((17 : Int32) * ((300 : Int32) + x1)) + x2).toNatClampNeg) = M3 at h hS4 ⊢
    refine sm_w.run t182 sr182 129 2 (M2 := M3) (f2 := (195, [some (.ref 116), some (.int (x1)), some (.int (x2 + (1 : Int32)))], [])) rfl ⟨(Nat.le_of_ble_eq_true rfl), trivial, trivial⟩ ?_
    exact h
theorem g182_5 {M : sm_M} {x1 : Int32} {K : Int32 → sm_M → Prop} (hS : SH M)  (h : (((iV M 116 44) ≤ x1 → K ((iV M 116 43) + (iV M 116 44)) M) ∧ (¬ (iV M 116 44) ≤ x1 → (vp_in ((60 : Int32) + x1) 120) ∧ (vp_in x1 120) ∧ ∀ M3, SH M3 → M3 = sm_wI M 139 x1.toNatClampNeg (iV M 139 ((60 : Int32) + x1).toNatClampNeg) → sm_w 182 (266, [some (.ref 116), some (.int (x1)), some (.int ((0 : Int32)))], []) M3 (rI K)))) : sm_w 182 (241, [some (.ref 116), some (.int (x1)), none], []) M (rI K) := by
  refine sm_w.run t182 sr182 135 4 (M2 := M) (f2 := (if (iV M 116 44) ≤ x1 then 334 else 249, [some (.ref 116), some (.int (x1)), none], [])) rfl ⟨trivial, trivial, sm_K.g (k_116 hS) (sm_sh.rf _), trivial, trivial⟩ ?_
  refine sm_w.ite (fun hc => ?_) (fun hc => ?_)
  · have h := h.1 hc
    refine sm_w.run t182 sr182 194 5 (M2 := M) (f2 := (343, [some (.ref 116), some (.int (x1)), none], [.int ((iV M 116 43) + (iV M 116 44))])) rfl ⟨trivial, sm_K.g (k_116 hS) (sm_sh.rf _), trivial, sm_K.g (k_116 hS) (sm_sh.rf _), trivial, trivial⟩ ?_
    exact sm_w.end t182 sr182 199 (o := .returned (some (.int ((iV M 116 43) + (iV M 116 44))))) (M2 := M) rfl rfl (by decide) (⟨_, rfl, h⟩)
  · have h := h.2 hc
    refine sm_w.run t182 sr182 139 2 (M2 := M) (f2 := (253, [some (.ref 116), some (.int (x1)), none], [va_rf (sm_rv M 116 41)])) rfl ⟨trivial, sm_K.g (k_116 hS) (sm_sh.rf _), trivial⟩ ?_
    refine sm_w.fld (r_116_41 hS) ?_
    refine sm_w.run t182 sr182 141 3 (M2 := M) (f2 := (258, [some (.ref 116), some (.int (x1)), none], [va_rf (sm_rv M 116 41), .int (x1), .ref 139])) rfl ⟨trivial, trivial, sm_K.g (k_116 hS) (sm_sh.rf _), trivial⟩ ?_
    refine sm_w.fld (r_116_41 hS) ?_
    obtain ⟨c1, c2, h⟩ := h
    refine sm_w.run t182 sr182 144 5 (M2 := sm_wI M 139 x1.toNatClampNeg (iV M 139 ((60 : Int32) + x1).toNatClampNeg)) (f2 := (264, [some (.ref 116), some (.int (x1)), none], [])) rfl ⟨trivial, trivial, trivial, sm_K.a2 (k_139 hS) (l_139 hS) c1, sm_K.s2 (k_139 hS) (l_139 hS) c2, trivial⟩ ?_
    have hS4 : SH (sm_wI M 139 x1.toNatClampNeg (iV M 139 ((60 : Int32) + x1).toNatClampNeg)) := SH.wI hS _ _ _
    have h := h _ hS4 rfl
    generalize sm_wI M 139 x1.toNatClampNeg (iV M 139 ((60 : Int32) + x1).toNatClampNeg) = M3 at h hS4 ⊢
    refine sm_w.run t182 sr182 149 2 (M2 := M3) (f2 := (266, [some (.ref 116), some (.int (x1)), some (.int ((0 : Int32)))], [])) rfl ⟨trivial, (Nat.le_of_ble_eq_true rfl), trivial⟩ ?_
    exact h
theorem g182_6 {M : sm_M} {x1 : Int32} {x2 : Int32} {K : Int32 → sm_M → Prop} (hS : SH M)  (h : (((32 : Int32) ≤ x2 → sm_w 182 (241, [some (.ref 116), some (.int (x1 + (1 : Int32))), none], []) M (rI K)) ∧ (¬ (32 : Int32) ≤ x2 → (vp_in (((32 : Int32) * ((60 : Int32) + x1)) + x2) 3840) ∧ (vp_in (((32 : Int32) * x1) + x2) 3840) ∧ ∀ M3, SH M3 → M3 = sm_wI M 138 (((32 : Int32) * x1) + x2).toNatClampNeg (iV M 138 (((32 : Int32) * ((60 : Int32) + x1)) + x2).toNatClampNeg) → (vp_in (((32 : Int32) * ((60 : Int32) + x1)) + x2) 3840) ∧ (vp_in (((32 : Int32) * x1) + x2) 3840) ∧ ∀ M7, SH M7 → M7 = sm_wI M3 140 (((32 : Int32) * x1) + x2).toNatClampNeg ((iV M3 140 (((32 : Int32) * ((60 : Int32) + x1)) + x2).toNatClampNeg) &&& 1) → sm_w 182 (266, [some (.ref 116), some (.int (x1)), some (.int (x2 + (1 : Int32)))], []) M7 (rI K)))) : sm_w 182 (266, [some (.ref 116), some (.int (x1)), some (.int (x2))], []) M (rI K) := by
  refine sm_w.run t182 sr182 151 3 (M2 := M) (f2 := (if (32 : Int32) ≤ x2 then 328 else 272, [some (.ref 116), some (.int (x1)), some (.int (x2))], [])) rfl ⟨trivial, trivial, trivial, trivial⟩ ?_
  refine sm_w.ite (fun hc => ?_) (fun hc => ?_)
  · have h := h.1 hc
    refine sm_w.run t182 sr182 192 2 (M2 := M) (f2 := (241, [some (.ref 116), some (.int (x1 + (1 : Int32))), some (.int (x2))], [])) rfl ⟨(Nat.le_of_ble_eq_true rfl), trivial, trivial⟩ ?_
    refine sm_w.weak (ls := [some (.ref 116), some (.int (x1 + (1 : Int32))), none]) (sm_leI [true, true, false] rfl) ?_
    exact h
  · have h := h.2 hc
    refine sm_w.run t182 sr182 154 2 (M2 := M) (f2 := (276, [some (.ref 116), some (.int (x1)), some (.int (x2))], [va_rf (sm_rv M 116 40)])) rfl ⟨trivial, sm_K.g (k_116 hS) (sm_sh.rf _), trivial⟩ ?_
    refine sm_w.fld (r_116_40 hS) ?_
    refine sm_w.run t182 sr182 156 7 (M2 := M) (f2 := (286, [some (.ref 116), some (.int (x1)), some (.int (x2))], [va_rf (sm_rv M 116 40), .int (((32 : Int32) * x1) + x2), .ref 138])) rfl ⟨trivial, trivial, trivial, trivial, trivial, trivial, sm_K.g (k_116 hS) (sm_sh.rf _), trivial⟩ ?_
    refine sm_w.fld (r_116_40 hS) ?_
    obtain ⟨c1, c2, h⟩ := h
    refine sm_w.run t182 sr182 163 9 (M2 := sm_wI M 138 (((32 : Int32) * x1) + x2).toNatClampNeg (iV M 138 (((32 : Int32) * ((60 : Int32) + x1)) + x2).toNatClampNeg)) (f2 := (297, [some (.ref 116), some (.int (x1)), some (.int (x2))], [])) rfl ⟨trivial, trivial, trivial, trivial, trivial, trivial, trivial, sm_K.a2 (k_138 hS) (l_138 hS) c1, sm_K.s2 (k_138 hS) (l_138 hS) c2, trivial⟩ ?_
    have hS4 : SH (sm_wI M 138 (((32 : Int32) * x1) + x2).toNatClampNeg (iV M 138 (((32 : Int32) * ((60 : Int32) + x1)) + x2).toNatClampNeg)) := SH.wI hS _ _ _
    have h := h _ hS4 rfl
    generalize sm_wI M 138 (((32 : Int32) * x1) + x2).toNatClampNeg (iV M 138 (((32 : Int32) * ((60 : Int32) + x1)) + x2).toNatClampNeg) = M3 at h hS4 ⊢
    refine sm_w.run t182 sr182 172 2 (M2 := M3) (f2 := (301, [some (.ref 116), some (.int (x1)), some (.int (x2))], [va_rf (sm_rv M3 116 42)])) rfl ⟨trivial, sm_K.g (k_116 hS4) (sm_sh.rf _), trivial⟩ ?_
    refine sm_w.fld (r_116_42 hS4) ?_
    refine sm_w.run t182 sr182 174 7 (M2 := M3) (f2 := (311, [some (.ref 116), some (.int (x1)), some (.int (x2))], [va_rf (sm_rv M3 116 42), .int (((32 : Int32) * x1) + x2), .ref 140])) rfl ⟨trivial, trivial, trivial, trivial, trivial, trivial, sm_K.g (k_116 hS4) (sm_sh.rf _), trivial⟩ ?_
    refine sm_w.fld (r_116_42 hS4) ?_
    obtain ⟨c5, c6, h⟩ := h
    refine sm_w.run t182 sr182 181 9 (M2 := sm_wI M3 140 (((32 : Int32) * x1) + x2).toNatClampNeg ((iV M3 140 (((32 : Int32) * ((60 : Int32) + x1)) + x2).toNatClampNeg) &&& 1)) (f2 := (322, [some (.ref 116), some (.int (x1)), some (.int (x2))], [])) rfl ⟨trivial, trivial, trivial, trivial, trivial, trivial, trivial, sm_K.a2 (k_140 hS4) (l_140 hS4) c5, sm_K.s2 (k_140 hS4) (l_140 hS4) c6, trivial⟩ ?_
    have hS8 : SH (sm_wI M3 140 (((32 : Int32) * x1) + x2).toNatClampNeg ((iV M3 140 (((32 : Int32) * ((60 : Int32) + x1)) + x2).toNatClampNeg) &&& 1)) := SH.wI hS4 _ _ _
    have h := h _ hS8 rfl
    generalize sm_wI M3 140 (((32 : Int32) * x1) + x2).toNatClampNeg ((iV M3 140 (((32 : Int32) * ((60 : Int32) + x1)) + x2).toNatClampNeg) &&& 1) = M7 at h hS8 ⊢
    refine sm_w.run t182 sr182 190 2 (M2 := M7) (f2 := (266, [some (.ref 116), some (.int (x1)), some (.int (x2 + (1 : Int32)))], [])) rfl ⟨(Nat.le_of_ble_eq_true rfl), trivial, trivial⟩ ?_
    exact h
-- 191 LineSetterModel.comes(II)V
theorem t191 : sP 191 = (3, sp_191, sh_191) := rfl
theorem sr191 : sm_srt sp_191 = true := by decide +kernel
theorem g191_0 {M : sm_M} {x1 : Int32} {x2 : Int32} {K : sm_M → Prop} (hS : SH M)  (h : (vp_in (iV M 116 56) 4001) ∧ ∀ M2, SH M2 → M2 = sm_wI M 146 (iV M 116 56).toNatClampNeg x1 → (vp_in (iV M2 116 56) 4001) ∧ ∀ M5, SH M5 → M5 = sm_wI M2 147 (iV M2 116 56).toNatClampNeg x2 → ∀ M7, SH M7 → M7 = sm_wI M5 116 56 ((iV M5 116 56) + (1 : Int32)) → K M7) : sm_w 191 (sm_in sP 191 [.ref 116, .int (x1), .int (x2)]) M (rV K) := by
  show sm_w 191 (0, [some (.ref 116), some (.int (x1)), some (.int (x2))], []) M (rV K)
  refine sm_w.run t191 sr191 0 2 (M2 := M) (f2 := (4, [some (.ref 116), some (.int (x1)), some (.int (x2))], [va_rf (sm_rv M 116 54)])) rfl ⟨trivial, sm_K.g (k_116 hS) (sm_sh.rf _), trivial⟩ ?_
  refine sm_w.fld (r_116_54 hS) ?_
  obtain ⟨c1, h⟩ := h
  refine sm_w.run t191 sr191 2 4 (M2 := sm_wI M 146 (iV M 116 56).toNatClampNeg x1) (f2 := (10, [some (.ref 116), some (.int (x1)), some (.int (x2))], [])) rfl ⟨trivial, sm_K.g (k_116 hS) (sm_sh.rf _), trivial, sm_K.s2 (k_146 hS) (l_146 hS) c1, trivial⟩ ?_
  have hS3 : SH (sm_wI M 146 (iV M 116 56).toNatClampNeg x1) := SH.wI hS _ _ _
  have h := h _ hS3 rfl
  generalize sm_wI M 146 (iV M 116 56).toNatClampNeg x1 = M2 at h hS3 ⊢
  refine sm_w.run t191 sr191 6 2 (M2 := M2) (f2 := (14, [some (.ref 116), some (.int (x1)), some (.int (x2))], [va_rf (sm_rv M2 116 55)])) rfl ⟨trivial, sm_K.g (k_116 hS3) (sm_sh.rf _), trivial⟩ ?_
  refine sm_w.fld (r_116_55 hS3) ?_
  obtain ⟨c4, h⟩ := h
  refine sm_w.run t191 sr191 8 4 (M2 := sm_wI M2 147 (iV M2 116 56).toNatClampNeg x2) (f2 := (20, [some (.ref 116), some (.int (x1)), some (.int (x2))], [])) rfl ⟨trivial, sm_K.g (k_116 hS3) (sm_sh.rf _), trivial, sm_K.s2 (k_147 hS3) (l_147 hS3) c4, trivial⟩ ?_
  have hS6 : SH (sm_wI M2 147 (iV M2 116 56).toNatClampNeg x2) := SH.wI hS3 _ _ _
  have h := h _ hS6 rfl
  generalize sm_wI M2 147 (iV M2 116 56).toNatClampNeg x2 = M5 at h hS6 ⊢
  refine sm_w.run t191 sr191 12 6 (M2 := sm_wI M5 116 56 ((iV M5 116 56) + (1 : Int32))) (f2 := (30, [some (.ref 116), some (.int (x1)), some (.int (x2))], [])) rfl ⟨trivial, rfl, sm_K.g (k_116 hS6) (sm_sh.rf _), trivial, trivial, ⟨(sm_K.p (k_116 hS6) (sm_sh.rf _)).1, (sm_K.p (k_116 hS6) (sm_sh.rf _)).2.1, (sm_K.p (k_116 hS6) (sm_sh.rf _)).2.2, Or.inl rfl⟩, trivial⟩ ?_
  have hS8 : SH (sm_wI M5 116 56 ((iV M5 116 56) + (1 : Int32))) := SH.wI hS6 _ _ _
  have h := h _ hS8 rfl
  generalize sm_wI M5 116 56 ((iV M5 116 56) + (1 : Int32)) = M7 at h hS8 ⊢
  exact sm_w.end t191 sr191 18 (o := .returned none) (M2 := M7) rfl trivial (by decide) (⟨rfl, h⟩)
