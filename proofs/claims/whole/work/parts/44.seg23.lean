/-! METHODS by their segments. -/
-- 170 LineSetterModel.next()V
theorem t170 : sP 170 = (2, sp_170, sh_170) := rfl
theorem sr170 : sm_srt sp_170 = true := by decide +kernel
theorem g170_0 {M : sm_M}  {K : sm_M → Prop} (hS : SH M)  (h : ∀ M1, SH M1 → M1 = sm_wI M 116 10 (iV M 116 11) → sm_w 170 (8, [some (.ref 116), none], []) M1 (rV K)) : sm_w 170 (sm_in sP 170 [.ref 116]) M (rV K) := by
  show sm_w 170 (0, [some (.ref 116), none], []) M (rV K)
  refine sm_w.run t170 sr170 0 4 (M2 := sm_wI M 116 10 (iV M 116 11)) (f2 := (8, [some (.ref 116), none], [])) rfl ⟨trivial, trivial, sm_K.g (k_116 hS) (sm_sh.rf _), ⟨(sm_K.p (k_116 hS) (sm_sh.rf _)).1, (sm_K.p (k_116 hS) (sm_sh.rf _)).2.1, (sm_K.p (k_116 hS) (sm_sh.rf _)).2.2, Or.inl rfl⟩, trivial⟩ ?_
  have hS2 : SH (sm_wI M 116 10 (iV M 116 11)) := SH.wI hS _ _ _
  have h := h _ hS2 rfl
  generalize sm_wI M 116 10 (iV M 116 11) = M1 at h hS2 ⊢
  exact h
theorem g170_1 {M : sm_M}  {K : sm_M → Prop} (hS : SH M)  (h : (q171_0 M (iV M 116 10)) ∧ (((p172_0 M (p171_0 M (iV M 116 10))) = 0 → ∀ M2, SH M2 → M2 = sm_wI M 116 11 (iV M 116 10) → ∀ M4, SH M4 → M4 = sm_wI M2 116 13 (-1 : Int32) → (q171_0 M4 (iV M4 116 10)) ∧ ((0 ≤ (p171_0 M4 (iV M4 116 10)) → (((p173_0 M4 (p171_0 M4 (iV M4 116 10))) = 0 → (((p174_0 M4 (p171_0 M4 (iV M4 116 10))) = 0 → (((p171_0 M4 (iV M4 116 10)) = (34 : Int32) → ∀ M7, SH M7 → M7 = sm_wI M4 116 11 ((iV M4 116 11) + (1 : Int32)) → sm_w 170 (261, [some (.ref 116), none], []) M7 (rV K)) ∧ (¬ (p171_0 M4 (iV M4 116 10)) = (34 : Int32) → ∀ M9, SH M9 → M9 = sm_wI M4 116 9 (4 : Int32) → ∀ M11, SH M11 → M11 = sm_wI M9 116 13 (p171_0 M4 (iV M4 116 10)) → ∀ M13, SH M13 → M13 = sm_wI M11 116 11 ((iV M11 116 11) + (1 : Int32)) → K M13))) ∧ (¬ (p174_0 M4 (p171_0 M4 (iV M4 116 10))) = 0 → ∀ M15, SH M15 → M15 = sm_wI M4 116 12 (0 : Int32) → sm_w 170 (155, [some (.ref 116), none], []) M15 (rV K)))) ∧ (¬ (p173_0 M4 (p171_0 M4 (iV M4 116 10))) = 0 → sm_w 170 (76, [some (.ref 116), none], []) M4 (rV K)))) ∧ (¬ 0 ≤ (p171_0 M4 (iV M4 116 10)) → ∀ M17, SH M17 → M17 = sm_wI M4 116 9 (5 : Int32) → K M17))) ∧ (¬ (p172_0 M (p171_0 M (iV M 116 10))) = 0 → ∀ M19, SH M19 → M19 = sm_wI M 116 10 ((iV M 116 10) + (1 : Int32)) → sm_w 170 (8, [some (.ref 116), none], []) M19 (rV K)))) : sm_w 170 (8, [some (.ref 116), none], []) M (rV K) := by
  obtain ⟨c1, h⟩ := h
  refine sm_w.run t170 sr170 4 3 (M2 := M) (f2 := (13, [some (.ref 116), none], [.int (iV M 116 10), .ref 116])) rfl ⟨trivial, trivial, sm_K.g (k_116 hS) (sm_sh.rf _), trivial⟩ ?_
  refine sm_w.cI t170 sr170 7 (i := 171) (as := [.ref 116, .int (iV M 116 10)]) (g := (13, [some (.ref 116), none], [])) rfl ⟨by decide, by decide, (Nat.le_of_ble_eq_true rfl), (sm_K.g (k_116 hS) (sm_sh.rf _)).1, (sm_K.g (k_116 hS) (sm_sh.rf _)).2, (Nat.le_of_ble_eq_true rfl)⟩ (Nat.le_of_ble_eq_true rfl) (by decide) (p171_c hS c1) (fun vz M2 hz => ?_)
  obtain ⟨hz1, hz2⟩ := hz
  subst hz1
  have hz2 := hz2.symm
  subst hz2
  refine sm_w.cI t170 sr170 8 (i := 172) (as := [.int (p171_0 M (iV M 116 10))]) (g := (16, [some (.ref 116), none], [])) rfl ⟨(Nat.le_of_ble_eq_true rfl), (Nat.le_of_ble_eq_true rfl)⟩ (Nat.le_of_ble_eq_true rfl) (by decide) (p172_c hS) (fun vz M2 hz => ?_)
  obtain ⟨hz1, hz2⟩ := hz
  subst hz1
  have hz2 := hz2.symm
  subst hz2
  refine sm_w.run t170 sr170 9 1 (M2 := M) (f2 := (if (p172_0 M (p171_0 M (iV M 116 10))) = 0 then 35 else 22, [some (.ref 116), none], [])) rfl ⟨trivial, trivial⟩ ?_
  refine sm_w.ite (fun hc => ?_) (fun hc => ?_)
  · have h := h.1 hc
    refine sm_w.run t170 sr170 17 4 (M2 := sm_wI M 116 11 (iV M 116 10)) (f2 := (43, [some (.ref 116), none], [])) rfl ⟨trivial, trivial, sm_K.g (k_116 hS) (sm_sh.rf _), ⟨(sm_K.p (k_116 hS) (sm_sh.rf _)).1, (sm_K.p (k_116 hS) (sm_sh.rf _)).2.1, (sm_K.p (k_116 hS) (sm_sh.rf _)).2.2, Or.inl rfl⟩, trivial⟩ ?_
    have hS3 : SH (sm_wI M 116 11 (iV M 116 10)) := SH.wI hS _ _ _
    have h := h _ hS3 rfl
    generalize sm_wI M 116 11 (iV M 116 10) = M2 at h hS3 ⊢
    refine sm_w.run t170 sr170 21 3 (M2 := sm_wI M2 116 13 (-1 : Int32)) (f2 := (48, [some (.ref 116), none], [])) rfl ⟨trivial, trivial, ⟨(sm_K.p (k_116 hS3) (sm_sh.rf _)).1, (sm_K.p (k_116 hS3) (sm_sh.rf _)).2.1, (sm_K.p (k_116 hS3) (sm_sh.rf _)).2.2, Or.inl rfl⟩, trivial⟩ ?_
    have hS5 : SH (sm_wI M2 116 13 (-1 : Int32)) := SH.wI hS3 _ _ _
    have h := h _ hS5 rfl
    generalize sm_wI M2 116 13 (-1 : Int32) = M4 at h hS5 ⊢
    obtain ⟨c6, h⟩ := h
    refine sm_w.run t170 sr170 24 3 (M2 := M4) (f2 := (53, [some (.ref 116), none], [.int (iV M4 116 10), .ref 116])) rfl ⟨trivial, trivial, sm_K.g (k_116 hS5) (sm_sh.rf _), trivial⟩ ?_
    refine sm_w.cI t170 sr170 27 (i := 171) (as := [.ref 116, .int (iV M4 116 10)]) (g := (53, [some (.ref 116), none], [])) rfl ⟨by decide, by decide, (Nat.le_of_ble_eq_true rfl), (sm_K.g (k_116 hS5) (sm_sh.rf _)).1, (sm_K.g (k_116 hS5) (sm_sh.rf _)).2, (Nat.le_of_ble_eq_true rfl)⟩ (Nat.le_of_ble_eq_true rfl) (by decide) (p171_c hS5 c6) (fun vz M2 hz => ?_)
    obtain ⟨hz1, hz2⟩ := hz
    subst hz1
    have hz2 := hz2.symm
    subst hz2
    refine sm_w.run t170 sr170 28 3 (M2 := M4) (f2 := (if 0 ≤ (p171_0 M4 (iV M4 116 10)) then 69 else 61, [some (.ref 116), some (.int (p171_0 M4 (iV M4 116 10)))], [])) rfl ⟨(Nat.le_of_ble_eq_true rfl), trivial, trivial, trivial⟩ ?_
    refine sm_w.ite (fun hc => ?_) (fun hc => ?_)
    · have h := h.1 hc
      refine sm_w.run t170 sr170 35 1 (M2 := M4) (f2 := (70, [some (.ref 116), some (.int (p171_0 M4 (iV M4 116 10)))], [.int (p171_0 M4 (iV M4 116 10))])) rfl ⟨trivial, trivial⟩ ?_
      refine sm_w.cI t170 sr170 36 (i := 173) (as := [.int (p171_0 M4 (iV M4 116 10))]) (g := (70, [some (.ref 116), some (.int (p171_0 M4 (iV M4 116 10)))], [])) rfl ⟨(Nat.le_of_ble_eq_true rfl), (Nat.le_of_ble_eq_true rfl)⟩ (Nat.le_of_ble_eq_true rfl) (by decide) (p173_c hS5) (fun vz M2 hz => ?_)
      obtain ⟨hz1, hz2⟩ := hz
      subst hz1
      have hz2 := hz2.symm
      subst hz2
      refine sm_w.run t170 sr170 37 1 (M2 := M4) (f2 := (if (p173_0 M4 (p171_0 M4 (iV M4 116 10))) = 0 then 143 else 76, [some (.ref 116), some (.int (p171_0 M4 (iV M4 116 10)))], [])) rfl ⟨trivial, trivial⟩ ?_
      refine sm_w.ite (fun hc => ?_) (fun hc => ?_)
      · have h := h.1 hc
        refine sm_w.run t170 sr170 70 1 (M2 := M4) (f2 := (144, [some (.ref 116), some (.int (p171_0 M4 (iV M4 116 10)))], [.int (p171_0 M4 (iV M4 116 10))])) rfl ⟨trivial, trivial⟩ ?_
        refine sm_w.cI t170 sr170 71 (i := 174) (as := [.int (p171_0 M4 (iV M4 116 10))]) (g := (144, [some (.ref 116), some (.int (p171_0 M4 (iV M4 116 10)))], [])) rfl ⟨(Nat.le_of_ble_eq_true rfl), (Nat.le_of_ble_eq_true rfl)⟩ (Nat.le_of_ble_eq_true rfl) (by decide) (p174_c hS5) (fun vz M2 hz => ?_)
        obtain ⟨hz1, hz2⟩ := hz
        subst hz1
        have hz2 := hz2.symm
        subst hz2
        refine sm_w.run t170 sr170 72 1 (M2 := M4) (f2 := (if (p174_0 M4 (p171_0 M4 (iV M4 116 10))) = 0 then 245 else 150, [some (.ref 116), some (.int (p171_0 M4 (iV M4 116 10)))], [])) rfl ⟨trivial, trivial⟩ ?_
        refine sm_w.ite (fun hc => ?_) (fun hc => ?_)
        · have h := h.1 hc
          refine sm_w.run t170 sr170 122 3 (M2 := M4) (f2 := (if (p171_0 M4 (iV M4 116 10)) = (34 : Int32) then 251 else 348, [some (.ref 116), some (.int (p171_0 M4 (iV M4 116 10)))], [])) rfl ⟨trivial, trivial, trivial, trivial⟩ ?_
          refine sm_w.ite (fun hc => ?_) (fun hc => ?_)
          · have h := h.1 hc
            refine sm_w.run t170 sr170 125 6 (M2 := sm_wI M4 116 11 ((iV M4 116 11) + (1 : Int32))) (f2 := (261, [some (.ref 116), some (.int (p171_0 M4 (iV M4 116 10)))], [])) rfl ⟨trivial, rfl, sm_K.g (k_116 hS5) (sm_sh.rf _), trivial, trivial, ⟨(sm_K.p (k_116 hS5) (sm_sh.rf _)).1, (sm_K.p (k_116 hS5) (sm_sh.rf _)).2.1, (sm_K.p (k_116 hS5) (sm_sh.rf _)).2.2, Or.inl rfl⟩, trivial⟩ ?_
            have hS8 : SH (sm_wI M4 116 11 ((iV M4 116 11) + (1 : Int32))) := SH.wI hS5 _ _ _
            have h := h _ hS8 rfl
            generalize sm_wI M4 116 11 ((iV M4 116 11) + (1 : Int32)) = M7 at h hS8 ⊢
            refine sm_w.weak (ls := [some (.ref 116), none]) (sm_leI [true, false] rfl) ?_
            exact h
          · have h := h.2 hc
            refine sm_w.run t170 sr170 174 3 (M2 := sm_wI M4 116 9 (4 : Int32)) (f2 := (353, [some (.ref 116), some (.int (p171_0 M4 (iV M4 116 10)))], [])) rfl ⟨trivial, trivial, ⟨(sm_K.p (k_116 hS5) (sm_sh.rf _)).1, (sm_K.p (k_116 hS5) (sm_sh.rf _)).2.1, (sm_K.p (k_116 hS5) (sm_sh.rf _)).2.2, Or.inl rfl⟩, trivial⟩ ?_
            have hS10 : SH (sm_wI M4 116 9 (4 : Int32)) := SH.wI hS5 _ _ _
            have h := h _ hS10 rfl
            generalize sm_wI M4 116 9 (4 : Int32) = M9 at h hS10 ⊢
            refine sm_w.run t170 sr170 177 3 (M2 := sm_wI M9 116 13 (p171_0 M4 (iV M4 116 10))) (f2 := (358, [some (.ref 116), some (.int (p171_0 M4 (iV M4 116 10)))], [])) rfl ⟨trivial, trivial, ⟨(sm_K.p (k_116 hS10) (sm_sh.rf _)).1, (sm_K.p (k_116 hS10) (sm_sh.rf _)).2.1, (sm_K.p (k_116 hS10) (sm_sh.rf _)).2.2, Or.inl rfl⟩, trivial⟩ ?_
            have hS12 : SH (sm_wI M9 116 13 (p171_0 M4 (iV M4 116 10))) := SH.wI hS10 _ _ _
            have h := h _ hS12 rfl
            generalize sm_wI M9 116 13 (p171_0 M4 (iV M4 116 10)) = M11 at h hS12 ⊢
            refine sm_w.run t170 sr170 180 6 (M2 := sm_wI M11 116 11 ((iV M11 116 11) + (1 : Int32))) (f2 := (368, [some (.ref 116), some (.int (p171_0 M4 (iV M4 116 10)))], [])) rfl ⟨trivial, rfl, sm_K.g (k_116 hS12) (sm_sh.rf _), trivial, trivial, ⟨(sm_K.p (k_116 hS12) (sm_sh.rf _)).1, (sm_K.p (k_116 hS12) (sm_sh.rf _)).2.1, (sm_K.p (k_116 hS12) (sm_sh.rf _)).2.2, Or.inl rfl⟩, trivial⟩ ?_
            have hS14 : SH (sm_wI M11 116 11 ((iV M11 116 11) + (1 : Int32))) := SH.wI hS12 _ _ _
            have h := h _ hS14 rfl
            generalize sm_wI M11 116 11 ((iV M11 116 11) + (1 : Int32)) = M13 at h hS14 ⊢
            exact sm_w.end t170 sr170 186 (o := .returned none) (M2 := M13) rfl trivial (by decide) (⟨rfl, h⟩)
        · have h := h.2 hc
          refine sm_w.run t170 sr170 73 3 (M2 := sm_wI M4 116 12 (0 : Int32)) (f2 := (155, [some (.ref 116), some (.int (p171_0 M4 (iV M4 116 10)))], [])) rfl ⟨trivial, trivial, ⟨(sm_K.p (k_116 hS5) (sm_sh.rf _)).1, (sm_K.p (k_116 hS5) (sm_sh.rf _)).2.1, (sm_K.p (k_116 hS5) (sm_sh.rf _)).2.2, Or.inl rfl⟩, trivial⟩ ?_
          have hS16 : SH (sm_wI M4 116 12 (0 : Int32)) := SH.wI hS5 _ _ _
          have h := h _ hS16 rfl
          generalize sm_wI M4 116 12 (0 : Int32) = M15 at h hS16 ⊢
          refine sm_w.weak (ls := [some (.ref 116), none]) (sm_leI [true, false] rfl) ?_
          exact h
      · have h := h.2 hc
        refine sm_w.weak (ls := [some (.ref 116), none]) (sm_leI [true, false] rfl) ?_
        exact h
    · have h := h.2 hc
      refine sm_w.run t170 sr170 31 3 (M2 := sm_wI M4 116 9 (5 : Int32)) (f2 := (66, [some (.ref 116), some (.int (p171_0 M4 (iV M4 116 10)))], [])) rfl ⟨trivial, trivial, ⟨(sm_K.p (k_116 hS5) (sm_sh.rf _)).1, (sm_K.p (k_116 hS5) (sm_sh.rf _)).2.1, (sm_K.p (k_116 hS5) (sm_sh.rf _)).2.2, Or.inl rfl⟩, trivial⟩ ?_
      have hS18 : SH (sm_wI M4 116 9 (5 : Int32)) := SH.wI hS5 _ _ _
      have h := h _ hS18 rfl
      generalize sm_wI M4 116 9 (5 : Int32) = M17 at h hS18 ⊢
      refine sm_w.run t170 sr170 34 1 (M2 := M17) (f2 := (368, [some (.ref 116), some (.int (p171_0 M4 (iV M4 116 10)))], [])) rfl ⟨trivial, trivial⟩ ?_
      exact sm_w.end t170 sr170 186 (o := .returned none) (M2 := M17) rfl trivial (by decide) (⟨rfl, h⟩)
  · have h := h.2 hc
    refine sm_w.run t170 sr170 10 6 (M2 := sm_wI M 116 10 ((iV M 116 10) + (1 : Int32))) (f2 := (32, [some (.ref 116), none], [])) rfl ⟨trivial, rfl, sm_K.g (k_116 hS) (sm_sh.rf _), trivial, trivial, ⟨(sm_K.p (k_116 hS) (sm_sh.rf _)).1, (sm_K.p (k_116 hS) (sm_sh.rf _)).2.1, (sm_K.p (k_116 hS) (sm_sh.rf _)).2.2, Or.inl rfl⟩, trivial⟩ ?_
    have hS20 : SH (sm_wI M 116 10 ((iV M 116 10) + (1 : Int32))) := SH.wI hS _ _ _
    have h := h _ hS20 rfl
    generalize sm_wI M 116 10 ((iV M 116 10) + (1 : Int32)) = M19 at h hS20 ⊢
    refine sm_w.run t170 sr170 16 1 (M2 := M19) (f2 := (8, [some (.ref 116), none], [])) rfl ⟨trivial, trivial⟩ ?_
    exact h
theorem g170_2 {M : sm_M}  {K : sm_M → Prop} (hS : SH M)  (h : (q171_0 M (iV M 116 11)) ∧ (((p173_0 M (p171_0 M (iV M 116 11))) = 0 → (q171_0 M (iV M 116 11)) ∧ (((p174_0 M (p171_0 M (iV M 116 11))) = 0 → ((((iV M 116 11) - (iV M 116 10)) ≤ (12 : Int32) → ∀ M3, SH M3 → M3 = sm_wI M 116 9 (1 : Int32) → K M3) ∧ (¬ ((iV M 116 11) - (iV M 116 10)) ≤ (12 : Int32) → ∀ M5, SH M5 → M5 = sm_wI M 116 9 (4 : Int32) → K M5))) ∧ (¬ (p174_0 M (p171_0 M (iV M 116 11))) = 0 → ∀ M7, SH M7 → M7 = sm_wI M 116 11 ((iV M 116 11) + (1 : Int32)) → sm_w 170 (76, [some (.ref 116), none], []) M7 (rV K)))) ∧ (¬ (p173_0 M (p171_0 M (iV M 116 11))) = 0 → ∀ M9, SH M9 → M9 = sm_wI M 116 11 ((iV M 116 11) + (1 : Int32)) → sm_w 170 (76, [some (.ref 116), none], []) M9 (rV K)))) : sm_w 170 (76, [some (.ref 116), none], []) M (rV K) := by
  obtain ⟨c1, h⟩ := h
  refine sm_w.run t170 sr170 38 3 (M2 := M) (f2 := (81, [some (.ref 116), none], [.int (iV M 116 11), .ref 116])) rfl ⟨trivial, trivial, sm_K.g (k_116 hS) (sm_sh.rf _), trivial⟩ ?_
  refine sm_w.cI t170 sr170 41 (i := 171) (as := [.ref 116, .int (iV M 116 11)]) (g := (81, [some (.ref 116), none], [])) rfl ⟨by decide, by decide, (Nat.le_of_ble_eq_true rfl), (sm_K.g (k_116 hS) (sm_sh.rf _)).1, (sm_K.g (k_116 hS) (sm_sh.rf _)).2, (Nat.le_of_ble_eq_true rfl)⟩ (Nat.le_of_ble_eq_true rfl) (by decide) (p171_c hS c1) (fun vz M2 hz => ?_)
  obtain ⟨hz1, hz2⟩ := hz
  subst hz1
  have hz2 := hz2.symm
  subst hz2
  refine sm_w.cI t170 sr170 42 (i := 173) (as := [.int (p171_0 M (iV M 116 11))]) (g := (84, [some (.ref 116), none], [])) rfl ⟨(Nat.le_of_ble_eq_true rfl), (Nat.le_of_ble_eq_true rfl)⟩ (Nat.le_of_ble_eq_true rfl) (by decide) (p173_c hS) (fun vz M2 hz => ?_)
  obtain ⟨hz1, hz2⟩ := hz
  subst hz1
  have hz2 := hz2.symm
  subst hz2
  refine sm_w.run t170 sr170 43 1 (M2 := M) (f2 := (if (p173_0 M (p171_0 M (iV M 116 11))) = 0 then 90 else 104, [some (.ref 116), none], [])) rfl ⟨trivial, trivial⟩ ?_
  refine sm_w.ite (fun hc => ?_) (fun hc => ?_)
  · have h := h.1 hc
    obtain ⟨c2, h⟩ := h
    refine sm_w.run t170 sr170 44 3 (M2 := M) (f2 := (95, [some (.ref 116), none], [.int (iV M 116 11), .ref 116])) rfl ⟨trivial, trivial, sm_K.g (k_116 hS) (sm_sh.rf _), trivial⟩ ?_
    refine sm_w.cI t170 sr170 47 (i := 171) (as := [.ref 116, .int (iV M 116 11)]) (g := (95, [some (.ref 116), none], [])) rfl ⟨by decide, by decide, (Nat.le_of_ble_eq_true rfl), (sm_K.g (k_116 hS) (sm_sh.rf _)).1, (sm_K.g (k_116 hS) (sm_sh.rf _)).2, (Nat.le_of_ble_eq_true rfl)⟩ (Nat.le_of_ble_eq_true rfl) (by decide) (p171_c hS c2) (fun vz M2 hz => ?_)
    obtain ⟨hz1, hz2⟩ := hz
    subst hz1
    have hz2 := hz2.symm
    subst hz2
    refine sm_w.cI t170 sr170 48 (i := 174) (as := [.int (p171_0 M (iV M 116 11))]) (g := (98, [some (.ref 116), none], [])) rfl ⟨(Nat.le_of_ble_eq_true rfl), (Nat.le_of_ble_eq_true rfl)⟩ (Nat.le_of_ble_eq_true rfl) (by decide) (p174_c hS) (fun vz M2 hz => ?_)
    obtain ⟨hz1, hz2⟩ := hz
    subst hz1
    have hz2 := hz2.symm
    subst hz2
    refine sm_w.run t170 sr170 49 1 (M2 := M) (f2 := (if (p174_0 M (p171_0 M (iV M 116 11))) = 0 then 117 else 104, [some (.ref 116), none], [])) rfl ⟨trivial, trivial⟩ ?_
    refine sm_w.ite (fun hc => ?_) (fun hc => ?_)
    · have h := h.1 hc
      refine sm_w.run t170 sr170 57 8 (M2 := M) (f2 := (if ((iV M 116 11) - (iV M 116 10)) ≤ (12 : Int32) then 136 else 132, [some (.ref 116), none], [.ref 116])) rfl ⟨trivial, trivial, sm_K.g (k_116 hS) (sm_sh.rf _), trivial, sm_K.g (k_116 hS) (sm_sh.rf _), trivial, trivial, trivial, trivial⟩ ?_
      refine sm_w.ite (fun hc => ?_) (fun hc => ?_)
      · have h := h.1 hc
        refine sm_w.run t170 sr170 67 2 (M2 := sm_wI M 116 9 (1 : Int32)) (f2 := (140, [some (.ref 116), none], [])) rfl ⟨trivial, ⟨(sm_K.p (k_116 hS) (sm_sh.rf _)).1, (sm_K.p (k_116 hS) (sm_sh.rf _)).2.1, (sm_K.p (k_116 hS) (sm_sh.rf _)).2.2, Or.inl rfl⟩, trivial⟩ ?_
        have hS4 : SH (sm_wI M 116 9 (1 : Int32)) := SH.wI hS _ _ _
        have h := h _ hS4 rfl
        generalize sm_wI M 116 9 (1 : Int32) = M3 at h hS4 ⊢
        refine sm_w.run t170 sr170 69 1 (M2 := M3) (f2 := (368, [some (.ref 116), none], [])) rfl ⟨trivial, trivial⟩ ?_
        exact sm_w.end t170 sr170 186 (o := .returned none) (M2 := M3) rfl trivial (by decide) (⟨rfl, h⟩)
      · have h := h.2 hc
        refine sm_w.run t170 sr170 65 2 (M2 := M) (f2 := (137, [some (.ref 116), none], [.int ((4 : Int32)), .ref 116])) rfl ⟨trivial, trivial, trivial⟩ ?_
        refine sm_w.run t170 sr170 68 1 (M2 := sm_wI M 116 9 (4 : Int32)) (f2 := (140, [some (.ref 116), none], [])) rfl ⟨⟨(sm_K.p (k_116 hS) (sm_sh.rf _)).1, (sm_K.p (k_116 hS) (sm_sh.rf _)).2.1, (sm_K.p (k_116 hS) (sm_sh.rf _)).2.2, Or.inl rfl⟩, trivial⟩ ?_
        have hS6 : SH (sm_wI M 116 9 (4 : Int32)) := SH.wI hS _ _ _
        have h := h _ hS6 rfl
        generalize sm_wI M 116 9 (4 : Int32) = M5 at h hS6 ⊢
        refine sm_w.run t170 sr170 69 1 (M2 := M5) (f2 := (368, [some (.ref 116), none], [])) rfl ⟨trivial, trivial⟩ ?_
        exact sm_w.end t170 sr170 186 (o := .returned none) (M2 := M5) rfl trivial (by decide) (⟨rfl, h⟩)
    · have h := h.2 hc
      refine sm_w.run t170 sr170 50 6 (M2 := sm_wI M 116 11 ((iV M 116 11) + (1 : Int32))) (f2 := (114, [some (.ref 116), none], [])) rfl ⟨trivial, rfl, sm_K.g (k_116 hS) (sm_sh.rf _), trivial, trivial, ⟨(sm_K.p (k_116 hS) (sm_sh.rf _)).1, (sm_K.p (k_116 hS) (sm_sh.rf _)).2.1, (sm_K.p (k_116 hS) (sm_sh.rf _)).2.2, Or.inl rfl⟩, trivial⟩ ?_
      have hS8 : SH (sm_wI M 116 11 ((iV M 116 11) + (1 : Int32))) := SH.wI hS _ _ _
      have h := h _ hS8 rfl
      generalize sm_wI M 116 11 ((iV M 116 11) + (1 : Int32)) = M7 at h hS8 ⊢
      refine sm_w.run t170 sr170 56 1 (M2 := M7) (f2 := (76, [some (.ref 116), none], [])) rfl ⟨trivial, trivial⟩ ?_
      exact h
  · have h := h.2 hc
    refine sm_w.run t170 sr170 50 6 (M2 := sm_wI M 116 11 ((iV M 116 11) + (1 : Int32))) (f2 := (114, [some (.ref 116), none], [])) rfl ⟨trivial, rfl, sm_K.g (k_116 hS) (sm_sh.rf _), trivial, trivial, ⟨(sm_K.p (k_116 hS) (sm_sh.rf _)).1, (sm_K.p (k_116 hS) (sm_sh.rf _)).2.1, (sm_K.p (k_116 hS) (sm_sh.rf _)).2.2, Or.inl rfl⟩, trivial⟩ ?_
    have hS10 : SH (sm_wI M 116 11 ((iV M 116 11) + (1 : Int32))) := SH.wI hS _ _ _
    have h := h _ hS10 rfl
    generalize sm_wI M 116 11 ((iV M 116 11) + (1 : Int32)) = M9 at h hS10 ⊢
    refine sm_w.run t170 sr170 56 1 (M2 := M9) (f2 := (76, [some (.ref 116), none], [])) rfl ⟨trivial, trivial⟩ ?_
    exact h
theorem g170_3 {M : sm_M}  {K : sm_M → Prop} (hS : SH M)  (h : (q171_0 M (iV M 116 11)) ∧ (((p174_0 M (p171_0 M (iV M 116 11))) = 0 → ((((iV M 116 11) - (iV M 116 10)) ≤ (7 : Int32) → ∀ M2, SH M2 → M2 = sm_wI M 116 9 (2 : Int32) → K M2) ∧ (¬ ((iV M 116 11) - (iV M 116 10)) ≤ (7 : Int32) → ∀ M4, SH M4 → M4 = sm_wI M 116 9 (4 : Int32) → K M4))) ∧ (¬ (p174_0 M (p171_0 M (iV M 116 11))) = 0 → (((7 : Int32) ≤ ((iV M 116 11) - (iV M 116 10)) → ∀ M6, SH M6 → M6 = sm_wI M 116 11 ((iV M 116 11) + (1 : Int32)) → sm_w 170 (155, [some (.ref 116), none], []) M6 (rV K)) ∧ (¬ (7 : Int32) ≤ ((iV M 116 11) - (iV M 116 10)) → (q171_0 M (iV M 116 11)) ∧ ∀ M9, SH M9 → M9 = sm_wI M 116 12 ((((10 : Int32) * (iV M 116 12)) + (p171_0 M (iV M 116 11))) - (48 : Int32)) → ∀ M11, SH M11 → M11 = sm_wI M9 116 11 ((iV M9 116 11) + (1 : Int32)) → sm_w 170 (155, [some (.ref 116), none], []) M11 (rV K)))))) : sm_w 170 (155, [some (.ref 116), none], []) M (rV K) := by
  obtain ⟨c1, h⟩ := h
  refine sm_w.run t170 sr170 76 3 (M2 := M) (f2 := (160, [some (.ref 116), none], [.int (iV M 116 11), .ref 116])) rfl ⟨trivial, trivial, sm_K.g (k_116 hS) (sm_sh.rf _), trivial⟩ ?_
  refine sm_w.cI t170 sr170 79 (i := 171) (as := [.ref 116, .int (iV M 116 11)]) (g := (160, [some (.ref 116), none], [])) rfl ⟨by decide, by decide, (Nat.le_of_ble_eq_true rfl), (sm_K.g (k_116 hS) (sm_sh.rf _)).1, (sm_K.g (k_116 hS) (sm_sh.rf _)).2, (Nat.le_of_ble_eq_true rfl)⟩ (Nat.le_of_ble_eq_true rfl) (by decide) (p171_c hS c1) (fun vz M2 hz => ?_)
  obtain ⟨hz1, hz2⟩ := hz
  subst hz1
  have hz2 := hz2.symm
  subst hz2
  refine sm_w.cI t170 sr170 80 (i := 174) (as := [.int (p171_0 M (iV M 116 11))]) (g := (163, [some (.ref 116), none], [])) rfl ⟨(Nat.le_of_ble_eq_true rfl), (Nat.le_of_ble_eq_true rfl)⟩ (Nat.le_of_ble_eq_true rfl) (by decide) (p174_c hS) (fun vz M2 hz => ?_)
  obtain ⟨hz1, hz2⟩ := hz
  subst hz1
  have hz2 := hz2.symm
  subst hz2
  refine sm_w.run t170 sr170 81 1 (M2 := M) (f2 := (if (p174_0 M (p171_0 M (iV M 116 11))) = 0 then 219 else 169, [some (.ref 116), none], [])) rfl ⟨trivial, trivial⟩ ?_
  refine sm_w.ite (fun hc => ?_) (fun hc => ?_)
  · have h := h.1 hc
    refine sm_w.run t170 sr170 109 8 (M2 := M) (f2 := (if ((iV M 116 11) - (iV M 116 10)) ≤ (7 : Int32) then 238 else 234, [some (.ref 116), none], [.ref 116])) rfl ⟨trivial, trivial, sm_K.g (k_116 hS) (sm_sh.rf _), trivial, sm_K.g (k_116 hS) (sm_sh.rf _), trivial, trivial, trivial, trivial⟩ ?_
    refine sm_w.ite (fun hc => ?_) (fun hc => ?_)
    · have h := h.1 hc
      refine sm_w.run t170 sr170 119 2 (M2 := sm_wI M 116 9 (2 : Int32)) (f2 := (242, [some (.ref 116), none], [])) rfl ⟨trivial, ⟨(sm_K.p (k_116 hS) (sm_sh.rf _)).1, (sm_K.p (k_116 hS) (sm_sh.rf _)).2.1, (sm_K.p (k_116 hS) (sm_sh.rf _)).2.2, Or.inl rfl⟩, trivial⟩ ?_
      have hS3 : SH (sm_wI M 116 9 (2 : Int32)) := SH.wI hS _ _ _
      have h := h _ hS3 rfl
      generalize sm_wI M 116 9 (2 : Int32) = M2 at h hS3 ⊢
      refine sm_w.run t170 sr170 121 1 (M2 := M2) (f2 := (368, [some (.ref 116), none], [])) rfl ⟨trivial, trivial⟩ ?_
      exact sm_w.end t170 sr170 186 (o := .returned none) (M2 := M2) rfl trivial (by decide) (⟨rfl, h⟩)
    · have h := h.2 hc
      refine sm_w.run t170 sr170 117 2 (M2 := M) (f2 := (239, [some (.ref 116), none], [.int ((4 : Int32)), .ref 116])) rfl ⟨trivial, trivial, trivial⟩ ?_
      refine sm_w.run t170 sr170 120 1 (M2 := sm_wI M 116 9 (4 : Int32)) (f2 := (242, [some (.ref 116), none], [])) rfl ⟨⟨(sm_K.p (k_116 hS) (sm_sh.rf _)).1, (sm_K.p (k_116 hS) (sm_sh.rf _)).2.1, (sm_K.p (k_116 hS) (sm_sh.rf _)).2.2, Or.inl rfl⟩, trivial⟩ ?_
      have hS5 : SH (sm_wI M 116 9 (4 : Int32)) := SH.wI hS _ _ _
      have h := h _ hS5 rfl
      generalize sm_wI M 116 9 (4 : Int32) = M4 at h hS5 ⊢
      refine sm_w.run t170 sr170 121 1 (M2 := M4) (f2 := (368, [some (.ref 116), none], [])) rfl ⟨trivial, trivial⟩ ?_
      exact sm_w.end t170 sr170 186 (o := .returned none) (M2 := M4) rfl trivial (by decide) (⟨rfl, h⟩)
  · have h := h.2 hc
    refine sm_w.run t170 sr170 82 7 (M2 := M) (f2 := (if (7 : Int32) ≤ ((iV M 116 11) - (iV M 116 10)) then 206 else 183, [some (.ref 116), none], [])) rfl ⟨trivial, sm_K.g (k_116 hS) (sm_sh.rf _), trivial, sm_K.g (k_116 hS) (sm_sh.rf _), trivial, trivial, trivial, trivial⟩ ?_
    refine sm_w.ite (fun hc => ?_) (fun hc => ?_)
    · have h := h.1 hc
      refine sm_w.run t170 sr170 102 6 (M2 := sm_wI M 116 11 ((iV M 116 11) + (1 : Int32))) (f2 := (216, [some (.ref 116), none], [])) rfl ⟨trivial, rfl, sm_K.g (k_116 hS) (sm_sh.rf _), trivial, trivial, ⟨(sm_K.p (k_116 hS) (sm_sh.rf _)).1, (sm_K.p (k_116 hS) (sm_sh.rf _)).2.1, (sm_K.p (k_116 hS) (sm_sh.rf _)).2.2, Or.inl rfl⟩, trivial⟩ ?_
      have hS7 : SH (sm_wI M 116 11 ((iV M 116 11) + (1 : Int32))) := SH.wI hS _ _ _
      have h := h _ hS7 rfl
      generalize sm_wI M 116 11 ((iV M 116 11) + (1 : Int32)) = M6 at h hS7 ⊢
      refine sm_w.run t170 sr170 108 1 (M2 := M6) (f2 := (155, [some (.ref 116), none], [])) rfl ⟨trivial, trivial⟩ ?_
      exact h
    · have h := h.2 hc
      obtain ⟨c8, h⟩ := h
      refine sm_w.run t170 sr170 89 8 (M2 := M) (f2 := (196, [some (.ref 116), none], [.int (iV M 116 11), .ref 116, .int ((10 : Int32) * (iV M 116 12)), .ref 116])) rfl ⟨trivial, trivial, trivial, sm_K.g (k_116 hS) (sm_sh.rf _), trivial, trivial, trivial, sm_K.g (k_116 hS) (sm_sh.rf _), trivial⟩ ?_
      refine sm_w.cI t170 sr170 97 (i := 171) (as := [.ref 116, .int (iV M 116 11)]) (g := (196, [some (.ref 116), none], [.int ((10 : Int32) * (iV M 116 12)), .ref 116])) rfl ⟨by decide, by decide, (Nat.le_of_ble_eq_true rfl), (sm_K.g (k_116 hS) (sm_sh.rf _)).1, (sm_K.g (k_116 hS) (sm_sh.rf _)).2, (Nat.le_of_ble_eq_true rfl)⟩ (Nat.le_of_ble_eq_true rfl) (by decide) (p171_c hS c8) (fun vz M2 hz => ?_)
      obtain ⟨hz1, hz2⟩ := hz
      subst hz1
      have hz2 := hz2.symm
      subst hz2
      refine sm_w.run t170 sr170 98 4 (M2 := sm_wI M 116 12 ((((10 : Int32) * (iV M 116 12)) + (p171_0 M (iV M 116 11))) - (48 : Int32))) (f2 := (206, [some (.ref 116), none], [])) rfl ⟨trivial, trivial, trivial, ⟨(sm_K.p (k_116 hS) (sm_sh.rf _)).1, (sm_K.p (k_116 hS) (sm_sh.rf _)).2.1, (sm_K.p (k_116 hS) (sm_sh.rf _)).2.2, Or.inl rfl⟩, trivial⟩ ?_
      have hS10 : SH (sm_wI M 116 12 ((((10 : Int32) * (iV M 116 12)) + (p171_0 M (iV M 116 11))) - (48 : Int32))) := SH.wI hS _ _ _
      have h := h _ hS10 rfl
      generalize sm_wI M 116 12 ((((10 : Int32) * (iV M 116 12)) + (p171_0 M (iV M 116 11))) - (48 : Int32)) = M9 at h hS10 ⊢
      refine sm_w.run t170 sr170 102 6 (M2 := sm_wI M9 116 11 ((iV M9 116 11) + (1 : Int32))) (f2 := (216, [some (.ref 116), none], [])) rfl ⟨trivial, rfl, sm_K.g (k_116 hS10) (sm_sh.rf _), trivial, trivial, ⟨(sm_K.p (k_116 hS10) (sm_sh.rf _)).1, (sm_K.p (k_116 hS10) (sm_sh.rf _)).2.1, (sm_K.p (k_116 hS10) (sm_sh.rf _)).2.2, Or.inl rfl⟩, trivial⟩ ?_
      have hS12 : SH (sm_wI M9 116 11 ((iV M9 116 11) + (1 : Int32))) := SH.wI hS10 _ _ _
      have h := h _ hS12 rfl
      generalize sm_wI M9 116 11 ((iV M9 116 11) + (1 : Int32)) = M11 at h hS12 ⊢
      refine sm_w.run t170 sr170 108 1 (M2 := M11) (f2 := (155, [some (.ref 116), none], [])) rfl ⟨trivial, trivial⟩ ?_
      exact h
theorem g170_4 {M : sm_M}  {K : sm_M → Prop} (hS : SH M)  (h : (q171_0 M (iV M 116 11)) ∧ (((p171_0 M (iV M 116 11)) < (32 : Int32) → (q171_0 M (iV M 116 11)) ∧ (((p171_0 M (iV M 116 11)) = (34 : Int32) → ∀ M3, SH M3 → M3 = sm_wI M 116 9 (3 : Int32) → ∀ M5, SH M5 → M5 = sm_wI M3 116 11 ((iV M3 116 11) + (1 : Int32)) → K M5) ∧ (¬ (p171_0 M (iV M 116 11)) = (34 : Int32) → ∀ M7, SH M7 → M7 = sm_wI M 116 9 (4 : Int32) → ∀ M9, SH M9 → M9 = sm_wI M7 116 11 ((iV M7 116 11) + (1 : Int32)) → K M9))) ∧ (¬ (p171_0 M (iV M 116 11)) < (32 : Int32) → (q171_0 M (iV M 116 11)) ∧ (((126 : Int32) < (p171_0 M (iV M 116 11)) → (q171_0 M (iV M 116 11)) ∧ (((p171_0 M (iV M 116 11)) = (34 : Int32) → ∀ M13, SH M13 → M13 = sm_wI M 116 9 (3 : Int32) → ∀ M15, SH M15 → M15 = sm_wI M13 116 11 ((iV M13 116 11) + (1 : Int32)) → K M15) ∧ (¬ (p171_0 M (iV M 116 11)) = (34 : Int32) → ∀ M17, SH M17 → M17 = sm_wI M 116 9 (4 : Int32) → ∀ M19, SH M19 → M19 = sm_wI M17 116 11 ((iV M17 116 11) + (1 : Int32)) → K M19))) ∧ (¬ (126 : Int32) < (p171_0 M (iV M 116 11)) → (q171_0 M (iV M 116 11)) ∧ (((p171_0 M (iV M 116 11)) = (34 : Int32) → (q171_0 M (iV M 116 11)) ∧ (((p171_0 M (iV M 116 11)) = (34 : Int32) → ∀ M23, SH M23 → M23 = sm_wI M 116 9 (3 : Int32) → ∀ M25, SH M25 → M25 = sm_wI M23 116 11 ((iV M23 116 11) + (1 : Int32)) → K M25) ∧ (¬ (p171_0 M (iV M 116 11)) = (34 : Int32) → ∀ M27, SH M27 → M27 = sm_wI M 116 9 (4 : Int32) → ∀ M29, SH M29 → M29 = sm_wI M27 116 11 ((iV M27 116 11) + (1 : Int32)) → K M29))) ∧ (¬ (p171_0 M (iV M 116 11)) = (34 : Int32) → ∀ M31, SH M31 → M31 = sm_wI M 116 11 ((iV M 116 11) + (1 : Int32)) → sm_w 170 (261, [some (.ref 116), none], []) M31 (rV K)))))))) : sm_w 170 (261, [some (.ref 116), none], []) M (rV K) := by
  obtain ⟨c1, h⟩ := h
  refine sm_w.run t170 sr170 131 3 (M2 := M) (f2 := (266, [some (.ref 116), none], [.int (iV M 116 11), .ref 116])) rfl ⟨trivial, trivial, sm_K.g (k_116 hS) (sm_sh.rf _), trivial⟩ ?_
  refine sm_w.cI t170 sr170 134 (i := 171) (as := [.ref 116, .int (iV M 116 11)]) (g := (266, [some (.ref 116), none], [])) rfl ⟨by decide, by decide, (Nat.le_of_ble_eq_true rfl), (sm_K.g (k_116 hS) (sm_sh.rf _)).1, (sm_K.g (k_116 hS) (sm_sh.rf _)).2, (Nat.le_of_ble_eq_true rfl)⟩ (Nat.le_of_ble_eq_true rfl) (by decide) (p171_c hS c1) (fun vz M2 hz => ?_)
  obtain ⟨hz1, hz2⟩ := hz
  subst hz1
  have hz2 := hz2.symm
  subst hz2
  refine sm_w.run t170 sr170 135 2 (M2 := M) (f2 := (if (p171_0 M (iV M 116 11)) < (32 : Int32) then 313 else 274, [some (.ref 116), none], [])) rfl ⟨trivial, trivial, trivial⟩ ?_
  refine sm_w.ite (fun hc => ?_) (fun hc => ?_)
  · have h := h.1 hc
    obtain ⟨c2, h⟩ := h
    refine sm_w.run t170 sr170 156 4 (M2 := M) (f2 := (319, [some (.ref 116), none], [.int (iV M 116 11), .ref 116, .ref 116])) rfl ⟨trivial, trivial, trivial, sm_K.g (k_116 hS) (sm_sh.rf _), trivial⟩ ?_
    refine sm_w.cI t170 sr170 160 (i := 171) (as := [.ref 116, .int (iV M 116 11)]) (g := (319, [some (.ref 116), none], [.ref 116])) rfl ⟨by decide, by decide, (Nat.le_of_ble_eq_true rfl), (sm_K.g (k_116 hS) (sm_sh.rf _)).1, (sm_K.g (k_116 hS) (sm_sh.rf _)).2, (Nat.le_of_ble_eq_true rfl)⟩ (Nat.le_of_ble_eq_true rfl) (by decide) (p171_c hS c2) (fun vz M2 hz => ?_)
    obtain ⟨hz1, hz2⟩ := hz
    subst hz1
    have hz2 := hz2.symm
    subst hz2
    refine sm_w.run t170 sr170 161 2 (M2 := M) (f2 := (if (p171_0 M (iV M 116 11)) = (34 : Int32) then 327 else 331, [some (.ref 116), none], [.ref 116])) rfl ⟨trivial, trivial, trivial⟩ ?_
    refine sm_w.ite (fun hc => ?_) (fun hc => ?_)
    · have h := h.1 hc
      refine sm_w.run t170 sr170 163 2 (M2 := M) (f2 := (332, [some (.ref 116), none], [.int ((3 : Int32)), .ref 116])) rfl ⟨trivial, trivial, trivial⟩ ?_
      refine sm_w.run t170 sr170 166 1 (M2 := sm_wI M 116 9 (3 : Int32)) (f2 := (335, [some (.ref 116), none], [])) rfl ⟨⟨(sm_K.p (k_116 hS) (sm_sh.rf _)).1, (sm_K.p (k_116 hS) (sm_sh.rf _)).2.1, (sm_K.p (k_116 hS) (sm_sh.rf _)).2.2, Or.inl rfl⟩, trivial⟩ ?_
      have hS4 : SH (sm_wI M 116 9 (3 : Int32)) := SH.wI hS _ _ _
      have h := h _ hS4 rfl
      generalize sm_wI M 116 9 (3 : Int32) = M3 at h hS4 ⊢
      refine sm_w.run t170 sr170 167 6 (M2 := sm_wI M3 116 11 ((iV M3 116 11) + (1 : Int32))) (f2 := (345, [some (.ref 116), none], [])) rfl ⟨trivial, rfl, sm_K.g (k_116 hS4) (sm_sh.rf _), trivial, trivial, ⟨(sm_K.p (k_116 hS4) (sm_sh.rf _)).1, (sm_K.p (k_116 hS4) (sm_sh.rf _)).2.1, (sm_K.p (k_116 hS4) (sm_sh.rf _)).2.2, Or.inl rfl⟩, trivial⟩ ?_
      have hS6 : SH (sm_wI M3 116 11 ((iV M3 116 11) + (1 : Int32))) := SH.wI hS4 _ _ _
      have h := h _ hS6 rfl
      generalize sm_wI M3 116 11 ((iV M3 116 11) + (1 : Int32)) = M5 at h hS6 ⊢
      refine sm_w.run t170 sr170 173 1 (M2 := M5) (f2 := (368, [some (.ref 116), none], [])) rfl ⟨trivial, trivial⟩ ?_
      exact sm_w.end t170 sr170 186 (o := .returned none) (M2 := M5) rfl trivial (by decide) (⟨rfl, h⟩)
    · have h := h.2 hc
      refine sm_w.run t170 sr170 165 2 (M2 := sm_wI M 116 9 (4 : Int32)) (f2 := (335, [some (.ref 116), none], [])) rfl ⟨trivial, ⟨(sm_K.p (k_116 hS) (sm_sh.rf _)).1, (sm_K.p (k_116 hS) (sm_sh.rf _)).2.1, (sm_K.p (k_116 hS) (sm_sh.rf _)).2.2, Or.inl rfl⟩, trivial⟩ ?_
      have hS8 : SH (sm_wI M 116 9 (4 : Int32)) := SH.wI hS _ _ _
      have h := h _ hS8 rfl
      generalize sm_wI M 116 9 (4 : Int32) = M7 at h hS8 ⊢
      refine sm_w.run t170 sr170 167 6 (M2 := sm_wI M7 116 11 ((iV M7 116 11) + (1 : Int32))) (f2 := (345, [some (.ref 116), none], [])) rfl ⟨trivial, rfl, sm_K.g (k_116 hS8) (sm_sh.rf _), trivial, trivial, ⟨(sm_K.p (k_116 hS8) (sm_sh.rf _)).1, (sm_K.p (k_116 hS8) (sm_sh.rf _)).2.1, (sm_K.p (k_116 hS8) (sm_sh.rf _)).2.2, Or.inl rfl⟩, trivial⟩ ?_
      have hS10 : SH (sm_wI M7 116 11 ((iV M7 116 11) + (1 : Int32))) := SH.wI hS8 _ _ _
      have h := h _ hS10 rfl
      generalize sm_wI M7 116 11 ((iV M7 116 11) + (1 : Int32)) = M9 at h hS10 ⊢
      refine sm_w.run t170 sr170 173 1 (M2 := M9) (f2 := (368, [some (.ref 116), none], [])) rfl ⟨trivial, trivial⟩ ?_
      exact sm_w.end t170 sr170 186 (o := .returned none) (M2 := M9) rfl trivial (by decide) (⟨rfl, h⟩)
  · have h := h.2 hc
    obtain ⟨c11, h⟩ := h
    refine sm_w.run t170 sr170 137 3 (M2 := M) (f2 := (279, [some (.ref 116), none], [.int (iV M 116 11), .ref 116])) rfl ⟨trivial, trivial, sm_K.g (k_116 hS) (sm_sh.rf _), trivial⟩ ?_
    refine sm_w.cI t170 sr170 140 (i := 171) (as := [.ref 116, .int (iV M 116 11)]) (g := (279, [some (.ref 116), none], [])) rfl ⟨by decide, by decide, (Nat.le_of_ble_eq_true rfl), (sm_K.g (k_116 hS) (sm_sh.rf _)).1, (sm_K.g (k_116 hS) (sm_sh.rf _)).2, (Nat.le_of_ble_eq_true rfl)⟩ (Nat.le_of_ble_eq_true rfl) (by decide) (p171_c hS c11) (fun vz M2 hz => ?_)
    obtain ⟨hz1, hz2⟩ := hz
    subst hz1
    have hz2 := hz2.symm
    subst hz2
    refine sm_w.run t170 sr170 141 2 (M2 := M) (f2 := (if (126 : Int32) < (p171_0 M (iV M 116 11)) then 313 else 287, [some (.ref 116), none], [])) rfl ⟨trivial, trivial, trivial⟩ ?_
    refine sm_w.ite (fun hc => ?_) (fun hc => ?_)
    · have h := h.1 hc
      obtain ⟨c12, h⟩ := h
      refine sm_w.run t170 sr170 156 4 (M2 := M) (f2 := (319, [some (.ref 116), none], [.int (iV M 116 11), .ref 116, .ref 116])) rfl ⟨trivial, trivial, trivial, sm_K.g (k_116 hS) (sm_sh.rf _), trivial⟩ ?_
      refine sm_w.cI t170 sr170 160 (i := 171) (as := [.ref 116, .int (iV M 116 11)]) (g := (319, [some (.ref 116), none], [.ref 116])) rfl ⟨by decide, by decide, (Nat.le_of_ble_eq_true rfl), (sm_K.g (k_116 hS) (sm_sh.rf _)).1, (sm_K.g (k_116 hS) (sm_sh.rf _)).2, (Nat.le_of_ble_eq_true rfl)⟩ (Nat.le_of_ble_eq_true rfl) (by decide) (p171_c hS c12) (fun vz M2 hz => ?_)
      obtain ⟨hz1, hz2⟩ := hz
      subst hz1
      have hz2 := hz2.symm
      subst hz2
      refine sm_w.run t170 sr170 161 2 (M2 := M) (f2 := (if (p171_0 M (iV M 116 11)) = (34 : Int32) then 327 else 331, [some (.ref 116), none], [.ref 116])) rfl ⟨trivial, trivial, trivial⟩ ?_
      refine sm_w.ite (fun hc => ?_) (fun hc => ?_)
      · have h := h.1 hc
        refine sm_w.run t170 sr170 163 2 (M2 := M) (f2 := (332, [some (.ref 116), none], [.int ((3 : Int32)), .ref 116])) rfl ⟨trivial, trivial, trivial⟩ ?_
        refine sm_w.run t170 sr170 166 1 (M2 := sm_wI M 116 9 (3 : Int32)) (f2 := (335, [some (.ref 116), none], [])) rfl ⟨⟨(sm_K.p (k_116 hS) (sm_sh.rf _)).1, (sm_K.p (k_116 hS) (sm_sh.rf _)).2.1, (sm_K.p (k_116 hS) (sm_sh.rf _)).2.2, Or.inl rfl⟩, trivial⟩ ?_
        have hS14 : SH (sm_wI M 116 9 (3 : Int32)) := SH.wI hS _ _ _
        have h := h _ hS14 rfl
        generalize sm_wI M 116 9 (3 : Int32) = M13 at h hS14 ⊢
        refine sm_w.run t170 sr170 167 6 (M2 := sm_wI M13 116 11 ((iV M13 116 11) + (1 : Int32))) (f2 := (345, [some (.ref 116), none], [])) rfl ⟨trivial, rfl, sm_K.g (k_116 hS14) (sm_sh.rf _), trivial, trivial, ⟨(sm_K.p (k_116 hS14) (sm_sh.rf _)).1, (sm_K.p (k_116 hS14) (sm_sh.rf _)).2.1, (sm_K.p (k_116 hS14) (sm_sh.rf _)).2.2, Or.inl rfl⟩, trivial⟩ ?_
        have hS16 : SH (sm_wI M13 116 11 ((iV M13 116 11) + (1 : Int32))) := SH.wI hS14 _ _ _
        have h := h _ hS16 rfl
        generalize sm_wI M13 116 11 ((iV M13 116 11) + (1 : Int32)) = M15 at h hS16 ⊢
        refine sm_w.run t170 sr170 173 1 (M2 := M15) (f2 := (368, [some (.ref 116), none], [])) rfl ⟨trivial, trivial⟩ ?_
        exact sm_w.end t170 sr170 186 (o := .returned none) (M2 := M15) rfl trivial (by decide) (⟨rfl, h⟩)
      · have h := h.2 hc
        refine sm_w.run t170 sr170 165 2 (M2 := sm_wI M 116 9 (4 : Int32)) (f2 := (335, [some (.ref 116), none], [])) rfl ⟨trivial, ⟨(sm_K.p (k_116 hS) (sm_sh.rf _)).1, (sm_K.p (k_116 hS) (sm_sh.rf _)).2.1, (sm_K.p (k_116 hS) (sm_sh.rf _)).2.2, Or.inl rfl⟩, trivial⟩ ?_
        have hS18 : SH (sm_wI M 116 9 (4 : Int32)) := SH.wI hS _ _ _
        have h := h _ hS18 rfl
        generalize sm_wI M 116 9 (4 : Int32) = M17 at h hS18 ⊢
        refine sm_w.run t170 sr170 167 6 (M2 := sm_wI M17 116 11 ((iV M17 116 11) + (1 : Int32))) (f2 := (345, [some (.ref 116), none], [])) rfl ⟨trivial, rfl, sm_K.g (k_116 hS18) (sm_sh.rf _), trivial, trivial, ⟨(sm_K.p (k_116 hS18) (sm_sh.rf _)).1, (sm_K.p (k_116 hS18) (sm_sh.rf _)).2.1, (sm_K.p (k_116 hS18) (sm_sh.rf _)).2.2, Or.inl rfl⟩, trivial⟩ ?_
        have hS20 : SH (sm_wI M17 116 11 ((iV M17 116 11) + (1 : Int32))) := SH.wI hS18 _ _ _
        have h := h _ hS20 rfl
        generalize sm_wI M17 116 11 ((iV M17 116 11) + (1 : Int32)) = M19 at h hS20 ⊢
        refine sm_w.run t170 sr170 173 1 (M2 := M19) (f2 := (368, [some (.ref 116), none], [])) rfl ⟨trivial, trivial⟩ ?_
        exact sm_w.end t170 sr170 186 (o := .returned none) (M2 := M19) rfl trivial (by decide) (⟨rfl, h⟩)
    · have h := h.2 hc
      obtain ⟨c21, h⟩ := h
      refine sm_w.run t170 sr170 143 3 (M2 := M) (f2 := (292, [some (.ref 116), none], [.int (iV M 116 11), .ref 116])) rfl ⟨trivial, trivial, sm_K.g (k_116 hS) (sm_sh.rf _), trivial⟩ ?_
      refine sm_w.cI t170 sr170 146 (i := 171) (as := [.ref 116, .int (iV M 116 11)]) (g := (292, [some (.ref 116), none], [])) rfl ⟨by decide, by decide, (Nat.le_of_ble_eq_true rfl), (sm_K.g (k_116 hS) (sm_sh.rf _)).1, (sm_K.g (k_116 hS) (sm_sh.rf _)).2, (Nat.le_of_ble_eq_true rfl)⟩ (Nat.le_of_ble_eq_true rfl) (by decide) (p171_c hS c21) (fun vz M2 hz => ?_)
      obtain ⟨hz1, hz2⟩ := hz
      subst hz1
      have hz2 := hz2.symm
      subst hz2
      refine sm_w.run t170 sr170 147 2 (M2 := M) (f2 := (if (p171_0 M (iV M 116 11)) = (34 : Int32) then 313 else 300, [some (.ref 116), none], [])) rfl ⟨trivial, trivial, trivial⟩ ?_
      refine sm_w.ite (fun hc => ?_) (fun hc => ?_)
      · have h := h.1 hc
        obtain ⟨c22, h⟩ := h
        refine sm_w.run t170 sr170 156 4 (M2 := M) (f2 := (319, [some (.ref 116), none], [.int (iV M 116 11), .ref 116, .ref 116])) rfl ⟨trivial, trivial, trivial, sm_K.g (k_116 hS) (sm_sh.rf _), trivial⟩ ?_
        refine sm_w.cI t170 sr170 160 (i := 171) (as := [.ref 116, .int (iV M 116 11)]) (g := (319, [some (.ref 116), none], [.ref 116])) rfl ⟨by decide, by decide, (Nat.le_of_ble_eq_true rfl), (sm_K.g (k_116 hS) (sm_sh.rf _)).1, (sm_K.g (k_116 hS) (sm_sh.rf _)).2, (Nat.le_of_ble_eq_true rfl)⟩ (Nat.le_of_ble_eq_true rfl) (by decide) (p171_c hS c22) (fun vz M2 hz => ?_)
        obtain ⟨hz1, hz2⟩ := hz
        subst hz1
        have hz2 := hz2.symm
        subst hz2
        refine sm_w.run t170 sr170 161 2 (M2 := M) (f2 := (if (p171_0 M (iV M 116 11)) = (34 : Int32) then 327 else 331, [some (.ref 116), none], [.ref 116])) rfl ⟨trivial, trivial, trivial⟩ ?_
        refine sm_w.ite (fun hc => ?_) (fun hc => ?_)
        · have h := h.1 hc
          refine sm_w.run t170 sr170 163 2 (M2 := M) (f2 := (332, [some (.ref 116), none], [.int ((3 : Int32)), .ref 116])) rfl ⟨trivial, trivial, trivial⟩ ?_
          refine sm_w.run t170 sr170 166 1 (M2 := sm_wI M 116 9 (3 : Int32)) (f2 := (335, [some (.ref 116), none], [])) rfl ⟨⟨(sm_K.p (k_116 hS) (sm_sh.rf _)).1, (sm_K.p (k_116 hS) (sm_sh.rf _)).2.1, (sm_K.p (k_116 hS) (sm_sh.rf _)).2.2, Or.inl rfl⟩, trivial⟩ ?_
          have hS24 : SH (sm_wI M 116 9 (3 : Int32)) := SH.wI hS _ _ _
          have h := h _ hS24 rfl
          generalize sm_wI M 116 9 (3 : Int32) = M23 at h hS24 ⊢
          refine sm_w.run t170 sr170 167 6 (M2 := sm_wI M23 116 11 ((iV M23 116 11) + (1 : Int32))) (f2 := (345, [some (.ref 116), none], [])) rfl ⟨trivial, rfl, sm_K.g (k_116 hS24) (sm_sh.rf _), trivial, trivial, ⟨(sm_K.p (k_116 hS24) (sm_sh.rf _)).1, (sm_K.p (k_116 hS24) (sm_sh.rf _)).2.1, (sm_K.p (k_116 hS24) (sm_sh.rf _)).2.2, Or.inl rfl⟩, trivial⟩ ?_
          have hS26 : SH (sm_wI M23 116 11 ((iV M23 116 11) + (1 : Int32))) := SH.wI hS24 _ _ _
          have h := h _ hS26 rfl
          generalize sm_wI M23 116 11 ((iV M23 116 11) + (1 : Int32)) = M25 at h hS26 ⊢
          refine sm_w.run t170 sr170 173 1 (M2 := M25) (f2 := (368, [some (.ref 116), none], [])) rfl ⟨trivial, trivial⟩ ?_
          exact sm_w.end t170 sr170 186 (o := .returned none) (M2 := M25) rfl trivial (by decide) (⟨rfl, h⟩)
        · have h := h.2 hc
          refine sm_w.run t170 sr170 165 2 (M2 := sm_wI M 116 9 (4 : Int32)) (f2 := (335, [some (.ref 116), none], [])) rfl ⟨trivial, ⟨(sm_K.p (k_116 hS) (sm_sh.rf _)).1, (sm_K.p (k_116 hS) (sm_sh.rf _)).2.1, (sm_K.p (k_116 hS) (sm_sh.rf _)).2.2, Or.inl rfl⟩, trivial⟩ ?_
          have hS28 : SH (sm_wI M 116 9 (4 : Int32)) := SH.wI hS _ _ _
          have h := h _ hS28 rfl
          generalize sm_wI M 116 9 (4 : Int32) = M27 at h hS28 ⊢
          refine sm_w.run t170 sr170 167 6 (M2 := sm_wI M27 116 11 ((iV M27 116 11) + (1 : Int32))) (f2 := (345, [some (.ref 116), none], [])) rfl ⟨trivial, rfl, sm_K.g (k_116 hS28) (sm_sh.rf _), trivial, trivial, ⟨(sm_K.p (k_116 hS28) (sm_sh.rf _)).1, (sm_K.p (k_116 hS28) (sm_sh.rf _)).2.1, (sm_K.p (k_116 hS28) (sm_sh.rf _)).2.2, Or.inl rfl⟩, trivial⟩ ?_
          have hS30 : SH (sm_wI M27 116 11 ((iV M27 116 11) + (1 : Int32))) := SH.wI hS28 _ _ _
          have h := h _ hS30 rfl
          generalize sm_wI M27 116 11 ((iV M27 116 11) + (1 : Int32)) = M29 at h hS30 ⊢
          refine sm_w.run t170 sr170 173 1 (M2 := M29) (f2 := (368, [some (.ref 116), none], [])) rfl ⟨trivial, trivial⟩ ?_
          exact sm_w.end t170 sr170 186 (o := .returned none) (M2 := M29) rfl trivial (by decide) (⟨rfl, h⟩)
      · have h := h.2 hc
        refine sm_w.run t170 sr170 149 6 (M2 := sm_wI M 116 11 ((iV M 116 11) + (1 : Int32))) (f2 := (310, [some (.ref 116), none], [])) rfl ⟨trivial, rfl, sm_K.g (k_116 hS) (sm_sh.rf _), trivial, trivial, ⟨(sm_K.p (k_116 hS) (sm_sh.rf _)).1, (sm_K.p (k_116 hS) (sm_sh.rf _)).2.1, (sm_K.p (k_116 hS) (sm_sh.rf _)).2.2, Or.inl rfl⟩, trivial⟩ ?_
        have hS32 : SH (sm_wI M 116 11 ((iV M 116 11) + (1 : Int32))) := SH.wI hS _ _ _
        have h := h _ hS32 rfl
        generalize sm_wI M 116 11 ((iV M 116 11) + (1 : Int32)) = M31 at h hS32 ⊢
        refine sm_w.run t170 sr170 155 1 (M2 := M31) (f2 := (261, [some (.ref 116), none], [])) rfl ⟨trivial, trivial⟩ ?_
        exact h
-- 175 LineSetterModel.word()J
theorem t175 : sP 175 = (4, sp_175, sh_175) := rfl
theorem sr175 : sm_srt sp_175 = true := by decide +kernel
theorem g175_0 {M : sm_M}  {K : Int64 → sm_M → Prop} (hS : SH M)  (h : (((iV M 116 9) = (1 : Int32) → ((((iV M 116 11) - (iV M 116 10)) ≤ (7 : Int32) → sm_w 175 (31, [some (.ref 116), some (.long ((0 : Int64))), none, some (.int (iV M 116 10))], []) M (rJ K)) ∧ (¬ ((iV M 116 11) - (iV M 116 10)) ≤ (7 : Int32) → K (0 : Int64) M))) ∧ (¬ (iV M 116 9) = (1 : Int32) → K (0 : Int64) M))) : sm_w 175 (sm_in sP 175 [.ref 116]) M (rJ K) := by
  show sm_w 175 (0, [some (.ref 116), none, none, none], []) M (rJ K)
  refine sm_w.run t175 sr175 0 6 (M2 := M) (f2 := (if (iV M 116 9) = (1 : Int32) then 10 else 24, [some (.ref 116), some (.long ((0 : Int64))), none, none], [])) rfl ⟨trivial, (Nat.le_of_ble_eq_true rfl), trivial, sm_K.g (k_116 hS) (sm_sh.rf _), trivial, trivial, trivial⟩ ?_
  refine sm_w.ite (fun hc => ?_) (fun hc => ?_)
  · have h := h.1 hc
    refine sm_w.run t175 sr175 6 7 (M2 := M) (f2 := (if ((iV M 116 11) - (iV M 116 10)) ≤ (7 : Int32) then 26 else 24, [some (.ref 116), some (.long ((0 : Int64))), none, none], [])) rfl ⟨trivial, sm_K.g (k_116 hS) (sm_sh.rf _), trivial, sm_K.g (k_116 hS) (sm_sh.rf _), trivial, trivial, trivial, trivial⟩ ?_
    refine sm_w.ite (fun hc => ?_) (fun hc => ?_)
    · have h := h.1 hc
      refine sm_w.run t175 sr175 15 3 (M2 := M) (f2 := (31, [some (.ref 116), some (.long ((0 : Int64))), none, some (.int (iV M 116 10))], [])) rfl ⟨trivial, sm_K.g (k_116 hS) (sm_sh.rf _), (Nat.le_of_ble_eq_true rfl), trivial⟩ ?_
      exact h
    · have h := h.2 hc
      refine sm_w.run t175 sr175 13 1 (M2 := M) (f2 := (25, [some (.ref 116), some (.long ((0 : Int64))), none, none], [.long ((0 : Int64))])) rfl ⟨trivial, trivial⟩ ?_
      exact sm_w.end t175 sr175 14 (o := .returned (some (.long ((0 : Int64))))) (M2 := M) rfl trivial (by decide) (⟨_, rfl, h⟩)
  · have h := h.2 hc
    refine sm_w.run t175 sr175 13 1 (M2 := M) (f2 := (25, [some (.ref 116), some (.long ((0 : Int64))), none, none], [.long ((0 : Int64))])) rfl ⟨trivial, trivial⟩ ?_
    exact sm_w.end t175 sr175 14 (o := .returned (some (.long ((0 : Int64))))) (M2 := M) rfl trivial (by decide) (⟨_, rfl, h⟩)
theorem g175_1 {M : sm_M} {x1 : Int64} {x3 : Int32} {K : Int64 → sm_M → Prop} (hS : SH M)  (h : (((iV M 116 11) ≤ x3 → K x1 M) ∧ (¬ (iV M 116 11) ≤ x3 → (vp_in x3 8192) ∧ sm_w 175 (31, [some (.ref 116), some (.long ((x1 <<< ((8 : Int32).toInt64 &&& 63)) ||| ((iV M 118 x3.toNatClampNeg).toInt64))), none, some (.int (x3 + (1 : Int32)))], []) M (rJ K)))) : sm_w 175 (31, [some (.ref 116), some (.long (x1)), none, some (.int (x3))], []) M (rJ K) := by
  refine sm_w.run t175 sr175 18 4 (M2 := M) (f2 := (if (iV M 116 11) ≤ x3 then 58 else 39, [some (.ref 116), some (.long (x1)), none, some (.int (x3))], [])) rfl ⟨trivial, trivial, sm_K.g (k_116 hS) (sm_sh.rf _), trivial, trivial⟩ ?_
  refine sm_w.ite (fun hc => ?_) (fun hc => ?_)
  · have h := h.1 hc
    refine sm_w.run t175 sr175 34 1 (M2 := M) (f2 := (59, [some (.ref 116), some (.long (x1)), none, some (.int (x3))], [.long (x1)])) rfl ⟨trivial, trivial⟩ ?_
    exact sm_w.end t175 sr175 35 (o := .returned (some (.long (x1)))) (M2 := M) rfl trivial (by decide) (⟨_, rfl, h⟩)
  · have h := h.2 hc
    refine sm_w.run t175 sr175 22 5 (M2 := M) (f2 := (47, [some (.ref 116), some (.long (x1)), none, some (.int (x3))], [va_rf (sm_rv M 116 2), .long (x1 <<< ((8 : Int32).toInt64 &&& 63))])) rfl ⟨trivial, trivial, trivial, trivial, sm_K.g (k_116 hS) (sm_sh.rf _), trivial⟩ ?_
    refine sm_w.fld (r_116_2 hS) ?_
    obtain ⟨c1, h⟩ := h
    refine sm_w.run t175 sr175 27 7 (M2 := M) (f2 := (31, [some (.ref 116), some (.long ((x1 <<< ((8 : Int32).toInt64 &&& 63)) ||| ((iV M 118 x3.toNatClampNeg).toInt64))), none, some (.int (x3 + (1 : Int32)))], [])) rfl ⟨trivial, sm_K.a2 (k_118 hS) (l_118 hS) c1, trivial, trivial, (Nat.le_of_ble_eq_true rfl), (Nat.le_of_ble_eq_true rfl), trivial, trivial⟩ ?_
    exact h
-- 177 LineSetterModel.wrong(I)V
theorem t177 : sP 177 = (2, sp_177, sh_177) := rfl
theorem sr177 : sm_srt sp_177 = true := by decide +kernel
theorem g177_0 {M : sm_M} {x1 : Int32} {K : sm_M → Prop} (hS : SH M)  (h : ((0 ≤ (iV M 116 8) → K M) ∧ (¬ 0 ≤ (iV M 116 8) → ∀ M1, SH M1 → M1 = sm_wI M 116 8 x1 → K M1))) : sm_w 177 (sm_in sP 177 [.ref 116, .int (x1)]) M (rV K) := by
  show sm_w 177 (0, [some (.ref 116), some (.int (x1))], []) M (rV K)
  refine sm_w.run t177 sr177 0 3 (M2 := M) (f2 := (if 0 ≤ (iV M 116 8) then 12 else 7, [some (.ref 116), some (.int (x1))], [])) rfl ⟨trivial, sm_K.g (k_116 hS) (sm_sh.rf _), trivial, trivial⟩ ?_
  refine sm_w.ite (fun hc => ?_) (fun hc => ?_)
  · have h := h.1 hc
    exact sm_w.end t177 sr177 6 (o := .returned none) (M2 := M) rfl trivial (by decide) (⟨rfl, h⟩)
  · have h := h.2 hc
    refine sm_w.run t177 sr177 3 3 (M2 := sm_wI M 116 8 x1) (f2 := (12, [some (.ref 116), some (.int (x1))], [])) rfl ⟨trivial, trivial, ⟨(sm_K.p (k_116 hS) (sm_sh.rf _)).1, (sm_K.p (k_116 hS) (sm_sh.rf _)).2.1, (sm_K.p (k_116 hS) (sm_sh.rf _)).2.2, Or.inl rfl⟩, trivial⟩ ?_
    have hS2 : SH (sm_wI M 116 8 x1) := SH.wI hS _ _ _
    have h := h _ hS2 rfl
    generalize sm_wI M 116 8 x1 = M1 at h hS2 ⊢
    exact sm_w.end t177 sr177 6 (o := .returned none) (M2 := M1) rfl trivial (by decide) (⟨rfl, h⟩)
