/-! METHODS by their segments. -/
-- 168 LineSetterModel.font()I
theorem t168 : sP 168 = (6, sp_168, sh_168) := rfl
theorem sr168 : sm_srt sp_168 = true := by decide +kernel
theorem g168_0 {M : sm_M}  {K : Int32 → sm_M → Prop} (hS : SH M)  (h : sm_cV 169 [.ref 116] M (fun M1 => SH M1 → sm_w 168 (6, [some (.ref 116), some (.int ((0 : Int32))), none, none, none, none], []) M1 (rI K))) : sm_w 168 (sm_in sP 168 [.ref 116]) M (rI K) := by
  show sm_w 168 (0, [some (.ref 116), none, none, none, none, none], []) M (rI K)
  refine sm_w.run t168 sr168 0 1 (M2 := M) (f2 := (1, [some (.ref 116), none, none, none, none, none], [.ref 116])) rfl ⟨trivial, trivial⟩ ?_
  refine sm_w.cV t168 sr168 1 (i := 169) (as := [.ref 116]) (g := (1, [some (.ref 116), none, none, none, none, none], [])) rfl ⟨by decide, by decide, (Nat.le_of_ble_eq_true rfl), (sm_K.g (k_116 hS) (sm_sh.rf _)).1, (sm_K.g (k_116 hS) (sm_sh.rf _)).2, (Nat.le_of_ble_eq_true rfl)⟩ (Nat.le_of_ble_eq_true rfl) (by decide) (sm_cV.s (by decide) hS h) (fun M1 h => ?_)
  obtain ⟨hS3, h⟩ := h
  refine sm_w.run t168 sr168 2 2 (M2 := M1) (f2 := (6, [some (.ref 116), some (.int ((0 : Int32))), none, none, none, none], [])) rfl ⟨trivial, (Nat.le_of_ble_eq_true rfl), trivial⟩ ?_
  exact h
theorem g168_1 {M : sm_M} {x1 : Int32} {K : Int32 → sm_M → Prop} (hS : SH M)  (h : (((256 : Int32) ≤ x1 → ∀ M1, SH M1 → M1 = sm_wI M 116 30 (0 : Int32) → ∀ M3, SH M3 → M3 = sm_wI M1 116 31 (0 : Int32) → ∀ M5, SH M5 → M5 = sm_wI M3 116 11 (0 : Int32) → sm_cV 170 [.ref 116] M5 (fun M7 => SH M7 → sm_w 168 (56, [some (.ref 116), some (.int ((0 : Int32))), none, none, none, none], []) M7 (rI K))) ∧ (¬ (256 : Int32) ≤ x1 → (vp_in x1 256) ∧ ∀ M11, SH M11 → M11 = sm_wI M 121 x1.toNatClampNeg (500 : Int32) → (vp_in x1 256) ∧ ∀ M14, SH M14 → M14 = sm_wI M11 134 x1.toNatClampNeg ((0 : Int32) &&& 1) → sm_w 168 (6, [some (.ref 116), some (.int (x1 + (1 : Int32))), none, none, none, none], []) M14 (rI K)))) : sm_w 168 (6, [some (.ref 116), some (.int (x1)), none, none, none, none], []) M (rI K) := by
  refine sm_w.run t168 sr168 4 3 (M2 := M) (f2 := (if (256 : Int32) ≤ x1 then 35 else 13, [some (.ref 116), some (.int (x1)), none, none, none, none], [])) rfl ⟨trivial, trivial, trivial, trivial⟩ ?_
  refine sm_w.ite (fun hc => ?_) (fun hc => ?_)
  · have h := h.1 hc
    refine sm_w.run t168 sr168 19 3 (M2 := sm_wI M 116 30 (0 : Int32)) (f2 := (40, [some (.ref 116), some (.int (x1)), none, none, none, none], [])) rfl ⟨trivial, trivial, ⟨(sm_K.p (k_116 hS) (sm_sh.rf _)).1, (sm_K.p (k_116 hS) (sm_sh.rf _)).2.1, (sm_K.p (k_116 hS) (sm_sh.rf _)).2.2, Or.inl rfl⟩, trivial⟩ ?_
    have hS2 : SH (sm_wI M 116 30 (0 : Int32)) := SH.wI hS _ _ _
    have h := h _ hS2 rfl
    generalize sm_wI M 116 30 (0 : Int32) = M1 at h hS2 ⊢
    refine sm_w.run t168 sr168 22 3 (M2 := sm_wI M1 116 31 (0 : Int32)) (f2 := (45, [some (.ref 116), some (.int (x1)), none, none, none, none], [])) rfl ⟨trivial, trivial, ⟨(sm_K.p (k_116 hS2) (sm_sh.rf _)).1, (sm_K.p (k_116 hS2) (sm_sh.rf _)).2.1, (sm_K.p (k_116 hS2) (sm_sh.rf _)).2.2, Or.inl rfl⟩, trivial⟩ ?_
    have hS4 : SH (sm_wI M1 116 31 (0 : Int32)) := SH.wI hS2 _ _ _
    have h := h _ hS4 rfl
    generalize sm_wI M1 116 31 (0 : Int32) = M3 at h hS4 ⊢
    refine sm_w.run t168 sr168 25 3 (M2 := sm_wI M3 116 11 (0 : Int32)) (f2 := (50, [some (.ref 116), some (.int (x1)), none, none, none, none], [])) rfl ⟨trivial, trivial, ⟨(sm_K.p (k_116 hS4) (sm_sh.rf _)).1, (sm_K.p (k_116 hS4) (sm_sh.rf _)).2.1, (sm_K.p (k_116 hS4) (sm_sh.rf _)).2.2, Or.inl rfl⟩, trivial⟩ ?_
    have hS6 : SH (sm_wI M3 116 11 (0 : Int32)) := SH.wI hS4 _ _ _
    have h := h _ hS6 rfl
    generalize sm_wI M3 116 11 (0 : Int32) = M5 at h hS6 ⊢
    refine sm_w.run t168 sr168 28 3 (M2 := M5) (f2 := (53, [some (.ref 116), some (.int ((0 : Int32))), none, none, none, none], [.ref 116])) rfl ⟨trivial, (Nat.le_of_ble_eq_true rfl), trivial, trivial⟩ ?_
    refine sm_w.cV t168 sr168 31 (i := 170) (as := [.ref 116]) (g := (53, [some (.ref 116), some (.int ((0 : Int32))), none, none, none, none], [])) rfl ⟨by decide, by decide, (Nat.le_of_ble_eq_true rfl), (sm_K.g (k_116 hS6) (sm_sh.rf _)).1, (sm_K.g (k_116 hS6) (sm_sh.rf _)).2, (Nat.le_of_ble_eq_true rfl)⟩ (Nat.le_of_ble_eq_true rfl) (by decide) (sm_cV.s (by decide) hS6 h) (fun M7 h => ?_)
    obtain ⟨hS9, h⟩ := h
    exact h
  · have h := h.2 hc
    refine sm_w.run t168 sr168 7 2 (M2 := M) (f2 := (17, [some (.ref 116), some (.int (x1)), none, none, none, none], [va_rf (sm_rv M 116 15)])) rfl ⟨trivial, sm_K.g (k_116 hS) (sm_sh.rf _), trivial⟩ ?_
    refine sm_w.fld (r_116_15 hS) ?_
    obtain ⟨c10, h⟩ := h
    refine sm_w.run t168 sr168 9 3 (M2 := sm_wI M 121 x1.toNatClampNeg (500 : Int32)) (f2 := (22, [some (.ref 116), some (.int (x1)), none, none, none, none], [])) rfl ⟨trivial, trivial, sm_K.s2 (k_121 hS) (l_121 hS) c10, trivial⟩ ?_
    have hS12 : SH (sm_wI M 121 x1.toNatClampNeg (500 : Int32)) := SH.wI hS _ _ _
    have h := h _ hS12 rfl
    generalize sm_wI M 121 x1.toNatClampNeg (500 : Int32) = M11 at h hS12 ⊢
    refine sm_w.run t168 sr168 12 2 (M2 := M11) (f2 := (26, [some (.ref 116), some (.int (x1)), none, none, none, none], [va_rf (sm_rv M11 116 32)])) rfl ⟨trivial, sm_K.g (k_116 hS12) (sm_sh.rf _), trivial⟩ ?_
    refine sm_w.fld (r_116_32 hS12) ?_
    obtain ⟨c13, h⟩ := h
    refine sm_w.run t168 sr168 14 3 (M2 := sm_wI M11 134 x1.toNatClampNeg ((0 : Int32) &&& 1)) (f2 := (29, [some (.ref 116), some (.int (x1)), none, none, none, none], [])) rfl ⟨trivial, trivial, sm_K.s2 (k_134 hS12) (l_134 hS12) c13, trivial⟩ ?_
    have hS15 : SH (sm_wI M11 134 x1.toNatClampNeg ((0 : Int32) &&& 1)) := SH.wI hS12 _ _ _
    have h := h _ hS15 rfl
    generalize sm_wI M11 134 x1.toNatClampNeg ((0 : Int32) &&& 1) = M14 at h hS15 ⊢
    refine sm_w.run t168 sr168 17 2 (M2 := M14) (f2 := (6, [some (.ref 116), some (.int (x1 + (1 : Int32))), none, none, none, none], [])) rfl ⟨(Nat.le_of_ble_eq_true rfl), trivial, trivial⟩ ?_
    exact h
theorem g168_2 {M : sm_M} {x1 : Int32} {K : Int32 → sm_M → Prop} (hS : SH M)  (h : ((0 ≤ (iV M 116 8) → ∀ M1, SH M1 → M1 = sm_wI M 116 7 (iV M 116 8) → (((iV M1 116 8) < 0 → ∀ M3, SH M3 → M3 = sm_wI M1 116 0 (0 : Int32) → sm_w 168 (229, [some (.ref 116), some (.int (x1)), some (.int ((0 : Int32))), none, none, none], []) M3 (rI K)) ∧ (¬ (iV M1 116 8) < 0 → ∀ M8, SH M8 → M8 = sm_wI M1 116 0 (1 : Int32) → K (0 : Int32) M8))) ∧ (¬ 0 ≤ (iV M 116 8) → (((iV M 116 9) = (5 : Int32) → ∀ M10, SH M10 → M10 = sm_wI M 116 7 (iV M 116 8) → (((iV M10 116 8) < 0 → ∀ M12, SH M12 → M12 = sm_wI M10 116 0 (0 : Int32) → sm_w 168 (229, [some (.ref 116), some (.int (x1)), some (.int ((0 : Int32))), none, none, none], []) M12 (rI K)) ∧ (¬ (iV M10 116 8) < 0 → ∀ M17, SH M17 → M17 = sm_wI M10 116 0 (1 : Int32) → K (0 : Int32) M17))) ∧ (¬ (iV M 116 9) = (5 : Int32) → sm_cJ 175 [.ref 116] M (fun v20 M19 => SH M19 → ((v20 = (512869299304 : Int64) → sm_cV 170 [.ref 116] M19 (fun M22 => SH M22 → sm_cI 176 [.ref 116] M22 (fun v26 M25 => SH M25 → sm_cI 178 [.ref 116, .int ((5000 : Int32))] M25 (fun v29 M28 => SH M28 → sm_cV 179 [.ref 116] M28 (fun M31 => SH M31 → ((0 ≤ (iV M31 116 8) → sm_w 168 (56, [some (.ref 116), some (.int (x1)), none, none, none, none], []) M31 (rI K)) ∧ (¬ 0 ≤ (iV M31 116 8) → (vp_in v26 256) ∧ ∀ M35, SH M35 → M35 = sm_wI M31 121 v26.toNatClampNeg v29 → (vp_in v26 256) ∧ (((iV M35 134 v26.toNatClampNeg) = 0 → (vp_in v26 256) ∧ ∀ M39, SH M39 → M39 = sm_wI M35 134 v26.toNatClampNeg ((1 : Int32) &&& 1) → sm_w 168 (56, [some (.ref 116), some (.int (x1 + (1 : Int32))), none, none, none, none], []) M39 (rI K)) ∧ (¬ (iV M35 134 v26.toNatClampNeg) = 0 → (vp_in v26 256) ∧ ∀ M42, SH M42 → M42 = sm_wI M35 134 v26.toNatClampNeg ((1 : Int32) &&& 1) → sm_w 168 (56, [some (.ref 116), some (.int (x1 + (0 : Int32))), none, none, none, none], []) M42 (rI K)))))))))) ∧ (¬ v20 = (512869299304 : Int64) → ((v20 = (1801810542 : Int64) → sm_cV 170 [.ref 116] M19 (fun M44 => SH M44 → sm_cV 180 [.ref 116] M44 (fun M47 => SH M47 → sm_w 168 (56, [some (.ref 116), some (.int (x1)), none, none, none, none], []) M47 (rI K)))) ∧ (¬ v20 = (1801810542 : Int64) → ((v20 = (1785686382 : Int64) → sm_cV 170 [.ref 116] M19 (fun M50 => SH M50 → sm_cV 181 [.ref 116] M50 (fun M53 => SH M53 → sm_w 168 (56, [some (.ref 116), some (.int (x1)), none, none, none, none], []) M53 (rI K)))) ∧ (¬ v20 = (1785686382 : Int64) → sm_cV 177 [.ref 116, .int (iV M19 116 10)] M19 (fun M56 => SH M56 → sm_w 168 (56, [some (.ref 116), some (.int (x1)), none, none, none, none], []) M56 (rI K)))))))))))))) : sm_w 168 (56, [some (.ref 116), some (.int (x1)), none, none, none, none], []) M (rI K) := by
  refine sm_w.run t168 sr168 32 3 (M2 := M) (f2 := (if 0 ≤ (iV M 116 8) then 201 else 63, [some (.ref 116), some (.int (x1)), none, none, none, none], [])) rfl ⟨trivial, sm_K.g (k_116 hS) (sm_sh.rf _), trivial, trivial⟩ ?_
  refine sm_w.ite (fun hc => ?_) (fun hc => ?_)
  · have h := h.1 hc
    refine sm_w.run t168 sr168 105 4 (M2 := sm_wI M 116 7 (iV M 116 8)) (f2 := (209, [some (.ref 116), some (.int (x1)), none, none, none, none], [])) rfl ⟨trivial, trivial, sm_K.g (k_116 hS) (sm_sh.rf _), ⟨(sm_K.p (k_116 hS) (sm_sh.rf _)).1, (sm_K.p (k_116 hS) (sm_sh.rf _)).2.1, (sm_K.p (k_116 hS) (sm_sh.rf _)).2.2, Or.inl rfl⟩, trivial⟩ ?_
    have hS2 : SH (sm_wI M 116 7 (iV M 116 8)) := SH.wI hS _ _ _
    have h := h _ hS2 rfl
    generalize sm_wI M 116 7 (iV M 116 8) = M1 at h hS2 ⊢
    refine sm_w.run t168 sr168 109 3 (M2 := M1) (f2 := (if (iV M1 116 8) < 0 then 222 else 216, [some (.ref 116), some (.int (x1)), none, none, none, none], [])) rfl ⟨trivial, sm_K.g (k_116 hS2) (sm_sh.rf _), trivial, trivial⟩ ?_
    refine sm_w.ite (fun hc => ?_) (fun hc => ?_)
    · have h := h.1 hc
      refine sm_w.run t168 sr168 116 3 (M2 := sm_wI M1 116 0 (0 : Int32)) (f2 := (227, [some (.ref 116), some (.int (x1)), none, none, none, none], [])) rfl ⟨trivial, trivial, ⟨(sm_K.p (k_116 hS2) (sm_sh.rf _)).1, (sm_K.p (k_116 hS2) (sm_sh.rf _)).2.1, (sm_K.p (k_116 hS2) (sm_sh.rf _)).2.2, Or.inl rfl⟩, trivial⟩ ?_
      have hS4 : SH (sm_wI M1 116 0 (0 : Int32)) := SH.wI hS2 _ _ _
      have h := h _ hS4 rfl
      generalize sm_wI M1 116 0 (0 : Int32) = M3 at h hS4 ⊢
      refine sm_w.run t168 sr168 119 2 (M2 := M3) (f2 := (229, [some (.ref 116), some (.int (x1)), some (.int ((0 : Int32))), none, none, none], [])) rfl ⟨trivial, (Nat.le_of_ble_eq_true rfl), trivial⟩ ?_
      exact h
    · have h := h.2 hc
      refine sm_w.run t168 sr168 112 2 (M2 := M1) (f2 := (218, [some (.ref 116), some (.int (x1)), none, none, none, none], [.int ((1 : Int32)), .ref 116])) rfl ⟨trivial, trivial, trivial⟩ ?_
      refine sm_w.cI t168 sr168 114 (i := 163) (as := [.ref 116, .int ((1 : Int32))]) (g := (218, [some (.ref 116), some (.int (x1)), none, none, none, none], [])) rfl ⟨by decide, by decide, (Nat.le_of_ble_eq_true rfl), (sm_K.g (k_116 hS2) (sm_sh.rf _)).1, (sm_K.g (k_116 hS2) (sm_sh.rf _)).2, (Nat.le_of_ble_eq_true rfl)⟩ (Nat.le_of_ble_eq_true rfl) (by decide) (sm_cI.s2 (by decide) hS2 (g163_0 (K := fun v6 M5 => K v6 M5) hS2 h)) (fun v6 M5 h => ?_)
      obtain ⟨hS7, h⟩ := h
      exact sm_w.end t168 sr168 115 (o := .returned (some (.int (v6)))) (M2 := M5) rfl rfl (by decide) (⟨_, rfl, h⟩)
  · have h := h.2 hc
    refine sm_w.run t168 sr168 35 4 (M2 := M) (f2 := (if (iV M 116 9) = (5 : Int32) then 201 else 71, [some (.ref 116), some (.int (x1)), none, none, none, none], [])) rfl ⟨trivial, sm_K.g (k_116 hS) (sm_sh.rf _), trivial, trivial, trivial⟩ ?_
    refine sm_w.ite (fun hc => ?_) (fun hc => ?_)
    · have h := h.1 hc
      refine sm_w.run t168 sr168 105 4 (M2 := sm_wI M 116 7 (iV M 116 8)) (f2 := (209, [some (.ref 116), some (.int (x1)), none, none, none, none], [])) rfl ⟨trivial, trivial, sm_K.g (k_116 hS) (sm_sh.rf _), ⟨(sm_K.p (k_116 hS) (sm_sh.rf _)).1, (sm_K.p (k_116 hS) (sm_sh.rf _)).2.1, (sm_K.p (k_116 hS) (sm_sh.rf _)).2.2, Or.inl rfl⟩, trivial⟩ ?_
      have hS11 : SH (sm_wI M 116 7 (iV M 116 8)) := SH.wI hS _ _ _
      have h := h _ hS11 rfl
      generalize sm_wI M 116 7 (iV M 116 8) = M10 at h hS11 ⊢
      refine sm_w.run t168 sr168 109 3 (M2 := M10) (f2 := (if (iV M10 116 8) < 0 then 222 else 216, [some (.ref 116), some (.int (x1)), none, none, none, none], [])) rfl ⟨trivial, sm_K.g (k_116 hS11) (sm_sh.rf _), trivial, trivial⟩ ?_
      refine sm_w.ite (fun hc => ?_) (fun hc => ?_)
      · have h := h.1 hc
        refine sm_w.run t168 sr168 116 3 (M2 := sm_wI M10 116 0 (0 : Int32)) (f2 := (227, [some (.ref 116), some (.int (x1)), none, none, none, none], [])) rfl ⟨trivial, trivial, ⟨(sm_K.p (k_116 hS11) (sm_sh.rf _)).1, (sm_K.p (k_116 hS11) (sm_sh.rf _)).2.1, (sm_K.p (k_116 hS11) (sm_sh.rf _)).2.2, Or.inl rfl⟩, trivial⟩ ?_
        have hS13 : SH (sm_wI M10 116 0 (0 : Int32)) := SH.wI hS11 _ _ _
        have h := h _ hS13 rfl
        generalize sm_wI M10 116 0 (0 : Int32) = M12 at h hS13 ⊢
        refine sm_w.run t168 sr168 119 2 (M2 := M12) (f2 := (229, [some (.ref 116), some (.int (x1)), some (.int ((0 : Int32))), none, none, none], [])) rfl ⟨trivial, (Nat.le_of_ble_eq_true rfl), trivial⟩ ?_
        exact h
      · have h := h.2 hc
        refine sm_w.run t168 sr168 112 2 (M2 := M10) (f2 := (218, [some (.ref 116), some (.int (x1)), none, none, none, none], [.int ((1 : Int32)), .ref 116])) rfl ⟨trivial, trivial, trivial⟩ ?_
        refine sm_w.cI t168 sr168 114 (i := 163) (as := [.ref 116, .int ((1 : Int32))]) (g := (218, [some (.ref 116), some (.int (x1)), none, none, none, none], [])) rfl ⟨by decide, by decide, (Nat.le_of_ble_eq_true rfl), (sm_K.g (k_116 hS11) (sm_sh.rf _)).1, (sm_K.g (k_116 hS11) (sm_sh.rf _)).2, (Nat.le_of_ble_eq_true rfl)⟩ (Nat.le_of_ble_eq_true rfl) (by decide) (sm_cI.s2 (by decide) hS11 (g163_0 (K := fun v15 M14 => K v15 M14) hS11 h)) (fun v15 M14 h => ?_)
        obtain ⟨hS16, h⟩ := h
        exact sm_w.end t168 sr168 115 (o := .returned (some (.int (v15)))) (M2 := M14) rfl rfl (by decide) (⟨_, rfl, h⟩)
    · have h := h.2 hc
      refine sm_w.run t168 sr168 39 1 (M2 := M) (f2 := (72, [some (.ref 116), some (.int (x1)), none, none, none, none], [.ref 116])) rfl ⟨trivial, trivial⟩ ?_
      refine sm_w.cJ t168 sr168 40 (i := 175) (as := [.ref 116]) (g := (72, [some (.ref 116), some (.int (x1)), none, none, none, none], [])) rfl ⟨by decide, by decide, (Nat.le_of_ble_eq_true rfl), (sm_K.g (k_116 hS) (sm_sh.rf _)).1, (sm_K.g (k_116 hS) (sm_sh.rf _)).2, (Nat.le_of_ble_eq_true rfl)⟩ (Nat.le_of_ble_eq_true rfl) (by decide) (sm_cJ.s (by decide) hS h) (fun v20 M19 h => ?_)
      obtain ⟨hS21, h⟩ := h
      refine sm_w.run t168 sr168 41 5 (M2 := M19) (f2 := (if (lg_cmp v20 (512869299304 : Int64)) = 0 then 84 else 152, [some (.ref 116), some (.int (x1)), some (.long (v20)), none, none, none], [])) rfl ⟨(Nat.le_of_ble_eq_true rfl), trivial, trivial, trivial, trivial, trivial⟩ ?_
      refine sm_w.ite (fun hc => ?_) (fun hc => ?_)
      · have h := h.1 (lc_e.mp hc)
        refine sm_w.run t168 sr168 46 1 (M2 := M19) (f2 := (85, [some (.ref 116), some (.int (x1)), some (.long (v20)), none, none, none], [.ref 116])) rfl ⟨trivial, trivial⟩ ?_
        refine sm_w.cV t168 sr168 47 (i := 170) (as := [.ref 116]) (g := (85, [some (.ref 116), some (.int (x1)), some (.long (v20)), none, none, none], [])) rfl ⟨by decide, by decide, (Nat.le_of_ble_eq_true rfl), (sm_K.g (k_116 hS21) (sm_sh.rf _)).1, (sm_K.g (k_116 hS21) (sm_sh.rf _)).2, (Nat.le_of_ble_eq_true rfl)⟩ (Nat.le_of_ble_eq_true rfl) (by decide) (sm_cV.s (by decide) hS21 h) (fun M22 h => ?_)
        obtain ⟨hS24, h⟩ := h
        refine sm_w.run t168 sr168 48 1 (M2 := M22) (f2 := (89, [some (.ref 116), some (.int (x1)), some (.long (v20)), none, none, none], [.ref 116])) rfl ⟨trivial, trivial⟩ ?_
        refine sm_w.cI t168 sr168 49 (i := 176) (as := [.ref 116]) (g := (89, [some (.ref 116), some (.int (x1)), some (.long (v20)), none, none, none], [])) rfl ⟨by decide, by decide, (Nat.le_of_ble_eq_true rfl), (sm_K.g (k_116 hS24) (sm_sh.rf _)).1, (sm_K.g (k_116 hS24) (sm_sh.rf _)).2, (Nat.le_of_ble_eq_true rfl)⟩ (Nat.le_of_ble_eq_true rfl) (by decide) (sm_cI.s (by decide) hS24 h) (fun v26 M25 h => ?_)
        obtain ⟨hS27, h⟩ := h
        refine sm_w.run t168 sr168 50 3 (M2 := M25) (f2 := (98, [some (.ref 116), some (.int (x1)), some (.long (v20)), none, some (.int (v26)), none], [.int ((5000 : Int32)), .ref 116])) rfl ⟨(Nat.le_of_ble_eq_true rfl), trivial, trivial, trivial⟩ ?_
        refine sm_w.cI t168 sr168 53 (i := 178) (as := [.ref 116, .int ((5000 : Int32))]) (g := (98, [some (.ref 116), some (.int (x1)), some (.long (v20)), none, some (.int (v26)), none], [])) rfl ⟨by decide, by decide, (Nat.le_of_ble_eq_true rfl), (sm_K.g (k_116 hS27) (sm_sh.rf _)).1, (sm_K.g (k_116 hS27) (sm_sh.rf _)).2, (Nat.le_of_ble_eq_true rfl)⟩ (Nat.le_of_ble_eq_true rfl) (by decide) (sm_cI.s (by decide) hS27 h) (fun v29 M28 h => ?_)
        obtain ⟨hS30, h⟩ := h
        refine sm_w.run t168 sr168 54 2 (M2 := M28) (f2 := (104, [some (.ref 116), some (.int (x1)), some (.long (v20)), none, some (.int (v26)), some (.int (v29))], [.ref 116])) rfl ⟨(Nat.le_of_ble_eq_true rfl), trivial, trivial⟩ ?_
        refine sm_w.cV t168 sr168 56 (i := 179) (as := [.ref 116]) (g := (104, [some (.ref 116), some (.int (x1)), some (.long (v20)), none, some (.int (v26)), some (.int (v29))], [])) rfl ⟨by decide, by decide, (Nat.le_of_ble_eq_true rfl), (sm_K.g (k_116 hS30) (sm_sh.rf _)).1, (sm_K.g (k_116 hS30) (sm_sh.rf _)).2, (Nat.le_of_ble_eq_true rfl)⟩ (Nat.le_of_ble_eq_true rfl) (by decide) (sm_cV.s (by decide) hS30 h) (fun M31 h => ?_)
        obtain ⟨hS33, h⟩ := h
        refine sm_w.run t168 sr168 57 3 (M2 := M31) (f2 := (if 0 ≤ (iV M31 116 8) then 149 else 114, [some (.ref 116), some (.int (x1)), some (.long (v20)), none, some (.int (v26)), some (.int (v29))], [])) rfl ⟨trivial, sm_K.g (k_116 hS33) (sm_sh.rf _), trivial, trivial⟩ ?_
        refine sm_w.ite (fun hc => ?_) (fun hc => ?_)
        · have h := h.1 hc
          refine sm_w.run t168 sr168 81 1 (M2 := M31) (f2 := (198, [some (.ref 116), some (.int (x1)), some (.long (v20)), none, some (.int (v26)), some (.int (v29))], [])) rfl ⟨trivial, trivial⟩ ?_
          refine sm_w.run t168 sr168 104 1 (M2 := M31) (f2 := (56, [some (.ref 116), some (.int (x1)), some (.long (v20)), none, some (.int (v26)), some (.int (v29))], [])) rfl ⟨trivial, trivial⟩ ?_
          refine sm_w.weak (ls := [some (.ref 116), some (.int (x1)), none, none, none, none]) (sm_leI [true, true, false, false, false, false] rfl) ?_
          exact h
        · have h := h.2 hc
          refine sm_w.run t168 sr168 60 2 (M2 := M31) (f2 := (118, [some (.ref 116), some (.int (x1)), some (.long (v20)), none, some (.int (v26)), some (.int (v29))], [va_rf (sm_rv M31 116 15)])) rfl ⟨trivial, sm_K.g (k_116 hS33) (sm_sh.rf _), trivial⟩ ?_
          refine sm_w.fld (r_116_15 hS33) ?_
          obtain ⟨c34, h⟩ := h
          refine sm_w.run t168 sr168 62 3 (M2 := sm_wI M31 121 v26.toNatClampNeg v29) (f2 := (123, [some (.ref 116), some (.int (x1)), some (.long (v20)), none, some (.int (v26)), some (.int (v29))], [])) rfl ⟨trivial, trivial, sm_K.s2 (k_121 hS33) (l_121 hS33) c34, trivial⟩ ?_
          have hS36 : SH (sm_wI M31 121 v26.toNatClampNeg v29) := SH.wI hS33 _ _ _
          have h := h _ hS36 rfl
          generalize sm_wI M31 121 v26.toNatClampNeg v29 = M35 at h hS36 ⊢
          refine sm_w.run t168 sr168 65 3 (M2 := M35) (f2 := (128, [some (.ref 116), some (.int (x1)), some (.long (v20)), none, some (.int (v26)), some (.int (v29))], [va_rf (sm_rv M35 116 32), .int (x1)])) rfl ⟨trivial, trivial, sm_K.g (k_116 hS36) (sm_sh.rf _), trivial⟩ ?_
          refine sm_w.fld (r_116_32 hS36) ?_
          obtain ⟨c37, h⟩ := h
          refine sm_w.run t168 sr168 68 3 (M2 := M35) (f2 := (if (iV M35 134 v26.toNatClampNeg) = 0 then 138 else 134, [some (.ref 116), some (.int (x1)), some (.long (v20)), none, some (.int (v26)), some (.int (v29))], [.int (x1)])) rfl ⟨trivial, sm_K.a2 (k_134 hS36) (l_134 hS36) c37, trivial, trivial⟩ ?_
          refine sm_w.ite (fun hc => ?_) (fun hc => ?_)
          · have h := h.1 hc
            refine sm_w.run t168 sr168 73 5 (M2 := M35) (f2 := (145, [some (.ref 116), some (.int (x1 + (1 : Int32))), some (.long (v20)), none, some (.int (v26)), some (.int (v29))], [va_rf (sm_rv M35 116 32)])) rfl ⟨trivial, trivial, (Nat.le_of_ble_eq_true rfl), trivial, sm_K.g (k_116 hS36) (sm_sh.rf _), trivial⟩ ?_
            refine sm_w.fld (r_116_32 hS36) ?_
            obtain ⟨c38, h⟩ := h
            refine sm_w.run t168 sr168 78 3 (M2 := sm_wI M35 134 v26.toNatClampNeg ((1 : Int32) &&& 1)) (f2 := (149, [some (.ref 116), some (.int (x1 + (1 : Int32))), some (.long (v20)), none, some (.int (v26)), some (.int (v29))], [])) rfl ⟨trivial, trivial, sm_K.s2 (k_134 hS36) (l_134 hS36) c38, trivial⟩ ?_
            have hS40 : SH (sm_wI M35 134 v26.toNatClampNeg ((1 : Int32) &&& 1)) := SH.wI hS36 _ _ _
            have h := h _ hS40 rfl
            generalize sm_wI M35 134 v26.toNatClampNeg ((1 : Int32) &&& 1) = M39 at h hS40 ⊢
            refine sm_w.run t168 sr168 81 1 (M2 := M39) (f2 := (198, [some (.ref 116), some (.int (x1 + (1 : Int32))), some (.long (v20)), none, some (.int (v26)), some (.int (v29))], [])) rfl ⟨trivial, trivial⟩ ?_
            refine sm_w.run t168 sr168 104 1 (M2 := M39) (f2 := (56, [some (.ref 116), some (.int (x1 + (1 : Int32))), some (.long (v20)), none, some (.int (v26)), some (.int (v29))], [])) rfl ⟨trivial, trivial⟩ ?_
            refine sm_w.weak (ls := [some (.ref 116), some (.int (x1 + (1 : Int32))), none, none, none, none]) (sm_leI [true, true, false, false, false, false] rfl) ?_
            exact h
          · have h := h.2 hc
            refine sm_w.run t168 sr168 71 2 (M2 := M35) (f2 := (139, [some (.ref 116), some (.int (x1)), some (.long (v20)), none, some (.int (v26)), some (.int (v29))], [.int ((0 : Int32)), .int (x1)])) rfl ⟨trivial, trivial, trivial⟩ ?_
            refine sm_w.run t168 sr168 74 4 (M2 := M35) (f2 := (145, [some (.ref 116), some (.int (x1 + (0 : Int32))), some (.long (v20)), none, some (.int (v26)), some (.int (v29))], [va_rf (sm_rv M35 116 32)])) rfl ⟨trivial, (Nat.le_of_ble_eq_true rfl), trivial, sm_K.g (k_116 hS36) (sm_sh.rf _), trivial⟩ ?_
            refine sm_w.fld (r_116_32 hS36) ?_
            obtain ⟨c41, h⟩ := h
            refine sm_w.run t168 sr168 78 3 (M2 := sm_wI M35 134 v26.toNatClampNeg ((1 : Int32) &&& 1)) (f2 := (149, [some (.ref 116), some (.int (x1 + (0 : Int32))), some (.long (v20)), none, some (.int (v26)), some (.int (v29))], [])) rfl ⟨trivial, trivial, sm_K.s2 (k_134 hS36) (l_134 hS36) c41, trivial⟩ ?_
            have hS43 : SH (sm_wI M35 134 v26.toNatClampNeg ((1 : Int32) &&& 1)) := SH.wI hS36 _ _ _
            have h := h _ hS43 rfl
            generalize sm_wI M35 134 v26.toNatClampNeg ((1 : Int32) &&& 1) = M42 at h hS43 ⊢
            refine sm_w.run t168 sr168 81 1 (M2 := M42) (f2 := (198, [some (.ref 116), some (.int (x1 + (0 : Int32))), some (.long (v20)), none, some (.int (v26)), some (.int (v29))], [])) rfl ⟨trivial, trivial⟩ ?_
            refine sm_w.run t168 sr168 104 1 (M2 := M42) (f2 := (56, [some (.ref 116), some (.int (x1 + (0 : Int32))), some (.long (v20)), none, some (.int (v26)), some (.int (v29))], [])) rfl ⟨trivial, trivial⟩ ?_
            refine sm_w.weak (ls := [some (.ref 116), some (.int (x1 + (0 : Int32))), none, none, none, none]) (sm_leI [true, true, false, false, false, false] rfl) ?_
            exact h
      · have h := h.2 (fun z => hc (lc_e.mpr z))
        refine sm_w.run t168 sr168 82 4 (M2 := M19) (f2 := (if (lg_cmp v20 (1801810542 : Int64)) = 0 then 160 else 171, [some (.ref 116), some (.int (x1)), some (.long (v20)), none, none, none], [])) rfl ⟨trivial, trivial, trivial, trivial, trivial⟩ ?_
        refine sm_w.ite (fun hc => ?_) (fun hc => ?_)
        · have h := h.1 (lc_e.mp hc)
          refine sm_w.run t168 sr168 86 1 (M2 := M19) (f2 := (161, [some (.ref 116), some (.int (x1)), some (.long (v20)), none, none, none], [.ref 116])) rfl ⟨trivial, trivial⟩ ?_
          refine sm_w.cV t168 sr168 87 (i := 170) (as := [.ref 116]) (g := (161, [some (.ref 116), some (.int (x1)), some (.long (v20)), none, none, none], [])) rfl ⟨by decide, by decide, (Nat.le_of_ble_eq_true rfl), (sm_K.g (k_116 hS21) (sm_sh.rf _)).1, (sm_K.g (k_116 hS21) (sm_sh.rf _)).2, (Nat.le_of_ble_eq_true rfl)⟩ (Nat.le_of_ble_eq_true rfl) (by decide) (sm_cV.s (by decide) hS21 h) (fun M44 h => ?_)
          obtain ⟨hS46, h⟩ := h
          refine sm_w.run t168 sr168 88 1 (M2 := M44) (f2 := (165, [some (.ref 116), some (.int (x1)), some (.long (v20)), none, none, none], [.ref 116])) rfl ⟨trivial, trivial⟩ ?_
          refine sm_w.cV t168 sr168 89 (i := 180) (as := [.ref 116]) (g := (165, [some (.ref 116), some (.int (x1)), some (.long (v20)), none, none, none], [])) rfl ⟨by decide, by decide, (Nat.le_of_ble_eq_true rfl), (sm_K.g (k_116 hS46) (sm_sh.rf _)).1, (sm_K.g (k_116 hS46) (sm_sh.rf _)).2, (Nat.le_of_ble_eq_true rfl)⟩ (Nat.le_of_ble_eq_true rfl) (by decide) (sm_cV.s (by decide) hS46 h) (fun M47 h => ?_)
          obtain ⟨hS49, h⟩ := h
          refine sm_w.run t168 sr168 90 1 (M2 := M47) (f2 := (198, [some (.ref 116), some (.int (x1)), some (.long (v20)), none, none, none], [])) rfl ⟨trivial, trivial⟩ ?_
          refine sm_w.run t168 sr168 104 1 (M2 := M47) (f2 := (56, [some (.ref 116), some (.int (x1)), some (.long (v20)), none, none, none], [])) rfl ⟨trivial, trivial⟩ ?_
          refine sm_w.weak (ls := [some (.ref 116), some (.int (x1)), none, none, none, none]) (sm_leI [true, true, false, false, false, false] rfl) ?_
          exact h
        · have h := h.2 (fun z => hc (lc_e.mpr z))
          refine sm_w.run t168 sr168 91 4 (M2 := M19) (f2 := (if (lg_cmp v20 (1785686382 : Int64)) = 0 then 179 else 190, [some (.ref 116), some (.int (x1)), some (.long (v20)), none, none, none], [])) rfl ⟨trivial, trivial, trivial, trivial, trivial⟩ ?_
          refine sm_w.ite (fun hc => ?_) (fun hc => ?_)
          · have h := h.1 (lc_e.mp hc)
            refine sm_w.run t168 sr168 95 1 (M2 := M19) (f2 := (180, [some (.ref 116), some (.int (x1)), some (.long (v20)), none, none, none], [.ref 116])) rfl ⟨trivial, trivial⟩ ?_
            refine sm_w.cV t168 sr168 96 (i := 170) (as := [.ref 116]) (g := (180, [some (.ref 116), some (.int (x1)), some (.long (v20)), none, none, none], [])) rfl ⟨by decide, by decide, (Nat.le_of_ble_eq_true rfl), (sm_K.g (k_116 hS21) (sm_sh.rf _)).1, (sm_K.g (k_116 hS21) (sm_sh.rf _)).2, (Nat.le_of_ble_eq_true rfl)⟩ (Nat.le_of_ble_eq_true rfl) (by decide) (sm_cV.s (by decide) hS21 h) (fun M50 h => ?_)
            obtain ⟨hS52, h⟩ := h
            refine sm_w.run t168 sr168 97 1 (M2 := M50) (f2 := (184, [some (.ref 116), some (.int (x1)), some (.long (v20)), none, none, none], [.ref 116])) rfl ⟨trivial, trivial⟩ ?_
            refine sm_w.cV t168 sr168 98 (i := 181) (as := [.ref 116]) (g := (184, [some (.ref 116), some (.int (x1)), some (.long (v20)), none, none, none], [])) rfl ⟨by decide, by decide, (Nat.le_of_ble_eq_true rfl), (sm_K.g (k_116 hS52) (sm_sh.rf _)).1, (sm_K.g (k_116 hS52) (sm_sh.rf _)).2, (Nat.le_of_ble_eq_true rfl)⟩ (Nat.le_of_ble_eq_true rfl) (by decide) (sm_cV.s (by decide) hS52 h) (fun M53 h => ?_)
            obtain ⟨hS55, h⟩ := h
            refine sm_w.run t168 sr168 99 1 (M2 := M53) (f2 := (198, [some (.ref 116), some (.int (x1)), some (.long (v20)), none, none, none], [])) rfl ⟨trivial, trivial⟩ ?_
            refine sm_w.run t168 sr168 104 1 (M2 := M53) (f2 := (56, [some (.ref 116), some (.int (x1)), some (.long (v20)), none, none, none], [])) rfl ⟨trivial, trivial⟩ ?_
            refine sm_w.weak (ls := [some (.ref 116), some (.int (x1)), none, none, none, none]) (sm_leI [true, true, false, false, false, false] rfl) ?_
            exact h
          · have h := h.2 (fun z => hc (lc_e.mpr z))
            refine sm_w.run t168 sr168 100 3 (M2 := M19) (f2 := (195, [some (.ref 116), some (.int (x1)), some (.long (v20)), none, none, none], [.int (iV M19 116 10), .ref 116])) rfl ⟨trivial, trivial, sm_K.g (k_116 hS21) (sm_sh.rf _), trivial⟩ ?_
            refine sm_w.cV t168 sr168 103 (i := 177) (as := [.ref 116, .int (iV M19 116 10)]) (g := (195, [some (.ref 116), some (.int (x1)), some (.long (v20)), none, none, none], [])) rfl ⟨by decide, by decide, (Nat.le_of_ble_eq_true rfl), (sm_K.g (k_116 hS21) (sm_sh.rf _)).1, (sm_K.g (k_116 hS21) (sm_sh.rf _)).2, (Nat.le_of_ble_eq_true rfl)⟩ (Nat.le_of_ble_eq_true rfl) (by decide) (sm_cV.s (by decide) hS21 h) (fun M56 h => ?_)
            obtain ⟨hS58, h⟩ := h
            refine sm_w.run t168 sr168 104 1 (M2 := M56) (f2 := (56, [some (.ref 116), some (.int (x1)), some (.long (v20)), none, none, none], [])) rfl ⟨trivial, trivial⟩ ?_
            refine sm_w.weak (ls := [some (.ref 116), some (.int (x1)), none, none, none, none]) (sm_leI [true, true, false, false, false, false] rfl) ?_
            exact h
theorem g168_3 {M : sm_M} {x1 : Int32} {x2 : Int32} {K : Int32 → sm_M → Prop} (hS : SH M)  (h : (((256 : Int32) ≤ x2 → ∀ M1, SH M1 → M1 = sm_wI M 116 28 (iV M 116 30) → ∀ M3, SH M3 → M3 = sm_wI M1 116 29 (iV M1 116 31) → sm_w 168 (272, [some (.ref 116), some (.int (x1)), some (.int ((0 : Int32))), none, none, none], []) M3 (rI K)) ∧ (¬ (256 : Int32) ≤ x2 → (vp_in x2 256) ∧ ∀ M6, SH M6 → M6 = sm_wI M 120 x2.toNatClampNeg (iV M 121 x2.toNatClampNeg) → sm_w 168 (229, [some (.ref 116), some (.int (x1)), some (.int (x2 + (1 : Int32))), none, none, none], []) M6 (rI K)))) : sm_w 168 (229, [some (.ref 116), some (.int (x1)), some (.int (x2)), none, none, none], []) M (rI K) := by
  refine sm_w.run t168 sr168 121 3 (M2 := M) (f2 := (if (256 : Int32) ≤ x2 then 254 else 236, [some (.ref 116), some (.int (x1)), some (.int (x2)), none, none, none], [])) rfl ⟨trivial, trivial, trivial, trivial⟩ ?_
  refine sm_w.ite (fun hc => ?_) (fun hc => ?_)
  · have h := h.1 hc
    refine sm_w.run t168 sr168 134 4 (M2 := sm_wI M 116 28 (iV M 116 30)) (f2 := (262, [some (.ref 116), some (.int (x1)), some (.int (x2)), none, none, none], [])) rfl ⟨trivial, trivial, sm_K.g (k_116 hS) (sm_sh.rf _), ⟨(sm_K.p (k_116 hS) (sm_sh.rf _)).1, (sm_K.p (k_116 hS) (sm_sh.rf _)).2.1, (sm_K.p (k_116 hS) (sm_sh.rf _)).2.2, Or.inl rfl⟩, trivial⟩ ?_
    have hS2 : SH (sm_wI M 116 28 (iV M 116 30)) := SH.wI hS _ _ _
    have h := h _ hS2 rfl
    generalize sm_wI M 116 28 (iV M 116 30) = M1 at h hS2 ⊢
    refine sm_w.run t168 sr168 138 4 (M2 := sm_wI M1 116 29 (iV M1 116 31)) (f2 := (270, [some (.ref 116), some (.int (x1)), some (.int (x2)), none, none, none], [])) rfl ⟨trivial, trivial, sm_K.g (k_116 hS2) (sm_sh.rf _), ⟨(sm_K.p (k_116 hS2) (sm_sh.rf _)).1, (sm_K.p (k_116 hS2) (sm_sh.rf _)).2.1, (sm_K.p (k_116 hS2) (sm_sh.rf _)).2.2, Or.inl rfl⟩, trivial⟩ ?_
    have hS4 : SH (sm_wI M1 116 29 (iV M1 116 31)) := SH.wI hS2 _ _ _
    have h := h _ hS4 rfl
    generalize sm_wI M1 116 29 (iV M1 116 31) = M3 at h hS4 ⊢
    refine sm_w.run t168 sr168 142 2 (M2 := M3) (f2 := (272, [some (.ref 116), some (.int (x1)), some (.int ((0 : Int32))), none, none, none], [])) rfl ⟨trivial, (Nat.le_of_ble_eq_true rfl), trivial⟩ ?_
    exact h
  · have h := h.2 hc
    refine sm_w.run t168 sr168 124 2 (M2 := M) (f2 := (240, [some (.ref 116), some (.int (x1)), some (.int (x2)), none, none, none], [va_rf (sm_rv M 116 14)])) rfl ⟨trivial, sm_K.g (k_116 hS) (sm_sh.rf _), trivial⟩ ?_
    refine sm_w.fld (r_116_14 hS) ?_
    refine sm_w.run t168 sr168 126 3 (M2 := M) (f2 := (245, [some (.ref 116), some (.int (x1)), some (.int (x2)), none, none, none], [va_rf (sm_rv M 116 15), .int (x2), .ref 120])) rfl ⟨trivial, trivial, sm_K.g (k_116 hS) (sm_sh.rf _), trivial⟩ ?_
    refine sm_w.fld (r_116_15 hS) ?_
    obtain ⟨c5, h⟩ := h
    refine sm_w.run t168 sr168 129 3 (M2 := sm_wI M 120 x2.toNatClampNeg (iV M 121 x2.toNatClampNeg)) (f2 := (248, [some (.ref 116), some (.int (x1)), some (.int (x2)), none, none, none], [])) rfl ⟨trivial, sm_K.a2 (k_121 hS) (l_121 hS) c5, sm_K.s2 (k_120 hS) (l_120 hS) c5, trivial⟩ ?_
    have hS7 : SH (sm_wI M 120 x2.toNatClampNeg (iV M 121 x2.toNatClampNeg)) := SH.wI hS _ _ _
    have h := h _ hS7 rfl
    generalize sm_wI M 120 x2.toNatClampNeg (iV M 121 x2.toNatClampNeg) = M6 at h hS7 ⊢
    refine sm_w.run t168 sr168 132 2 (M2 := M6) (f2 := (229, [some (.ref 116), some (.int (x1)), some (.int (x2 + (1 : Int32))), none, none, none], [])) rfl ⟨(Nat.le_of_ble_eq_true rfl), trivial, trivial⟩ ?_
    exact h
theorem g168_4 {M : sm_M} {x1 : Int32} {x2 : Int32} {K : Int32 → sm_M → Prop} (hS : SH M)  (h : (((iV M 116 28) ≤ x2 → sm_w 168 (324, [some (.ref 116), some (.int (x1)), some (.int ((0 : Int32))), none, none, none], []) M (rI K)) ∧ (¬ (iV M 116 28) ≤ x2 → (vp_in x2 200) ∧ ∀ M2, SH M2 → M2 = sm_wI M 122 x2.toNatClampNeg (iV M 128 x2.toNatClampNeg) → (vp_in x2 200) ∧ ∀ M5, SH M5 → M5 = sm_wI M2 123 x2.toNatClampNeg (iV M2 129 x2.toNatClampNeg) → (vp_in x2 200) ∧ ∀ M8, SH M8 → M8 = sm_wI M5 124 x2.toNatClampNeg (iV M5 130 x2.toNatClampNeg) → sm_w 168 (272, [some (.ref 116), some (.int (x1)), some (.int (x2 + (1 : Int32))), none, none, none], []) M8 (rI K)))) : sm_w 168 (272, [some (.ref 116), some (.int (x1)), some (.int (x2)), none, none, none], []) M (rI K) := by
  refine sm_w.run t168 sr168 144 4 (M2 := M) (f2 := (if (iV M 116 28) ≤ x2 then 322 else 280, [some (.ref 116), some (.int (x1)), some (.int (x2)), none, none, none], [])) rfl ⟨trivial, trivial, sm_K.g (k_116 hS) (sm_sh.rf _), trivial, trivial⟩ ?_
  refine sm_w.ite (fun hc => ?_) (fun hc => ?_)
  · have h := h.1 hc
    refine sm_w.run t168 sr168 174 2 (M2 := M) (f2 := (324, [some (.ref 116), some (.int (x1)), some (.int ((0 : Int32))), none, none, none], [])) rfl ⟨trivial, (Nat.le_of_ble_eq_true rfl), trivial⟩ ?_
    exact h
  · have h := h.2 hc
    refine sm_w.run t168 sr168 148 2 (M2 := M) (f2 := (284, [some (.ref 116), some (.int (x1)), some (.int (x2)), none, none, none], [va_rf (sm_rv M 116 16)])) rfl ⟨trivial, sm_K.g (k_116 hS) (sm_sh.rf _), trivial⟩ ?_
    refine sm_w.fld (r_116_16 hS) ?_
    refine sm_w.run t168 sr168 150 3 (M2 := M) (f2 := (289, [some (.ref 116), some (.int (x1)), some (.int (x2)), none, none, none], [va_rf (sm_rv M 116 22), .int (x2), .ref 122])) rfl ⟨trivial, trivial, sm_K.g (k_116 hS) (sm_sh.rf _), trivial⟩ ?_
    refine sm_w.fld (r_116_22 hS) ?_
    obtain ⟨c1, h⟩ := h
    refine sm_w.run t168 sr168 153 3 (M2 := sm_wI M 122 x2.toNatClampNeg (iV M 128 x2.toNatClampNeg)) (f2 := (292, [some (.ref 116), some (.int (x1)), some (.int (x2)), none, none, none], [])) rfl ⟨trivial, sm_K.a2 (k_128 hS) (l_128 hS) c1, sm_K.s2 (k_122 hS) (l_122 hS) c1, trivial⟩ ?_
    have hS3 : SH (sm_wI M 122 x2.toNatClampNeg (iV M 128 x2.toNatClampNeg)) := SH.wI hS _ _ _
    have h := h _ hS3 rfl
    generalize sm_wI M 122 x2.toNatClampNeg (iV M 128 x2.toNatClampNeg) = M2 at h hS3 ⊢
    refine sm_w.run t168 sr168 156 2 (M2 := M2) (f2 := (296, [some (.ref 116), some (.int (x1)), some (.int (x2)), none, none, none], [va_rf (sm_rv M2 116 17)])) rfl ⟨trivial, sm_K.g (k_116 hS3) (sm_sh.rf _), trivial⟩ ?_
    refine sm_w.fld (r_116_17 hS3) ?_
    refine sm_w.run t168 sr168 158 3 (M2 := M2) (f2 := (301, [some (.ref 116), some (.int (x1)), some (.int (x2)), none, none, none], [va_rf (sm_rv M2 116 23), .int (x2), .ref 123])) rfl ⟨trivial, trivial, sm_K.g (k_116 hS3) (sm_sh.rf _), trivial⟩ ?_
    refine sm_w.fld (r_116_23 hS3) ?_
    obtain ⟨c4, h⟩ := h
    refine sm_w.run t168 sr168 161 3 (M2 := sm_wI M2 123 x2.toNatClampNeg (iV M2 129 x2.toNatClampNeg)) (f2 := (304, [some (.ref 116), some (.int (x1)), some (.int (x2)), none, none, none], [])) rfl ⟨trivial, sm_K.a2 (k_129 hS3) (l_129 hS3) c4, sm_K.s2 (k_123 hS3) (l_123 hS3) c4, trivial⟩ ?_
    have hS6 : SH (sm_wI M2 123 x2.toNatClampNeg (iV M2 129 x2.toNatClampNeg)) := SH.wI hS3 _ _ _
    have h := h _ hS6 rfl
    generalize sm_wI M2 123 x2.toNatClampNeg (iV M2 129 x2.toNatClampNeg) = M5 at h hS6 ⊢
    refine sm_w.run t168 sr168 164 2 (M2 := M5) (f2 := (308, [some (.ref 116), some (.int (x1)), some (.int (x2)), none, none, none], [va_rf (sm_rv M5 116 18)])) rfl ⟨trivial, sm_K.g (k_116 hS6) (sm_sh.rf _), trivial⟩ ?_
    refine sm_w.fld (r_116_18 hS6) ?_
    refine sm_w.run t168 sr168 166 3 (M2 := M5) (f2 := (313, [some (.ref 116), some (.int (x1)), some (.int (x2)), none, none, none], [va_rf (sm_rv M5 116 24), .int (x2), .ref 124])) rfl ⟨trivial, trivial, sm_K.g (k_116 hS6) (sm_sh.rf _), trivial⟩ ?_
    refine sm_w.fld (r_116_24 hS6) ?_
    obtain ⟨c7, h⟩ := h
    refine sm_w.run t168 sr168 169 3 (M2 := sm_wI M5 124 x2.toNatClampNeg (iV M5 130 x2.toNatClampNeg)) (f2 := (316, [some (.ref 116), some (.int (x1)), some (.int (x2)), none, none, none], [])) rfl ⟨trivial, sm_K.a2 (k_130 hS6) (l_130 hS6) c7, sm_K.s2 (k_124 hS6) (l_124 hS6) c7, trivial⟩ ?_
    have hS9 : SH (sm_wI M5 124 x2.toNatClampNeg (iV M5 130 x2.toNatClampNeg)) := SH.wI hS6 _ _ _
    have h := h _ hS9 rfl
    generalize sm_wI M5 124 x2.toNatClampNeg (iV M5 130 x2.toNatClampNeg) = M8 at h hS9 ⊢
    refine sm_w.run t168 sr168 172 2 (M2 := M8) (f2 := (272, [some (.ref 116), some (.int (x1)), some (.int (x2 + (1 : Int32))), none, none, none], [])) rfl ⟨(Nat.le_of_ble_eq_true rfl), trivial, trivial⟩ ?_
    exact h
theorem g168_5 {M : sm_M} {x1 : Int32} {x2 : Int32} {K : Int32 → sm_M → Prop} (hS : SH M)  (h : (((iV M 116 29) ≤ x2 → K ((x1 + (iV M 116 28)) + (iV M 116 29)) M) ∧ (¬ (iV M 116 29) ≤ x2 → (vp_in x2 60) ∧ ∀ M2, SH M2 → M2 = sm_wI M 125 x2.toNatClampNeg (iV M 131 x2.toNatClampNeg) → (vp_in x2 60) ∧ ∀ M5, SH M5 → M5 = sm_wI M2 126 x2.toNatClampNeg (iV M2 132 x2.toNatClampNeg) → (vp_in x2 60) ∧ ∀ M8, SH M8 → M8 = sm_wI M5 127 x2.toNatClampNeg (iV M5 133 x2.toNatClampNeg) → sm_w 168 (324, [some (.ref 116), some (.int (x1)), some (.int (x2 + (1 : Int32))), none, none, none], []) M8 (rI K)))) : sm_w 168 (324, [some (.ref 116), some (.int (x1)), some (.int (x2)), none, none, none], []) M (rI K) := by
  refine sm_w.run t168 sr168 176 4 (M2 := M) (f2 := (if (iV M 116 29) ≤ x2 then 374 else 332, [some (.ref 116), some (.int (x1)), some (.int (x2)), none, none, none], [])) rfl ⟨trivial, trivial, sm_K.g (k_116 hS) (sm_sh.rf _), trivial, trivial⟩ ?_
  refine sm_w.ite (fun hc => ?_) (fun hc => ?_)
  · have h := h.1 hc
    refine sm_w.run t168 sr168 206 7 (M2 := M) (f2 := (385, [some (.ref 116), some (.int (x1)), some (.int (x2)), none, none, none], [.int ((x1 + (iV M 116 28)) + (iV M 116 29))])) rfl ⟨trivial, trivial, sm_K.g (k_116 hS) (sm_sh.rf _), trivial, trivial, sm_K.g (k_116 hS) (sm_sh.rf _), trivial, trivial⟩ ?_
    exact sm_w.end t168 sr168 213 (o := .returned (some (.int ((x1 + (iV M 116 28)) + (iV M 116 29))))) (M2 := M) rfl rfl (by decide) (⟨_, rfl, h⟩)
  · have h := h.2 hc
    refine sm_w.run t168 sr168 180 2 (M2 := M) (f2 := (336, [some (.ref 116), some (.int (x1)), some (.int (x2)), none, none, none], [va_rf (sm_rv M 116 19)])) rfl ⟨trivial, sm_K.g (k_116 hS) (sm_sh.rf _), trivial⟩ ?_
    refine sm_w.fld (r_116_19 hS) ?_
    refine sm_w.run t168 sr168 182 3 (M2 := M) (f2 := (341, [some (.ref 116), some (.int (x1)), some (.int (x2)), none, none, none], [va_rf (sm_rv M 116 25), .int (x2), .ref 125])) rfl ⟨trivial, trivial, sm_K.g (k_116 hS) (sm_sh.rf _), trivial⟩ ?_
    refine sm_w.fld (r_116_25 hS) ?_
    obtain ⟨c1, h⟩ := h
    refine sm_w.run t168 sr168 185 3 (M2 := sm_wI M 125 x2.toNatClampNeg (iV M 131 x2.toNatClampNeg)) (f2 := (344, [some (.ref 116), some (.int (x1)), some (.int (x2)), none, none, none], [])) rfl ⟨trivial, sm_K.a2 (k_131 hS) (l_131 hS) c1, sm_K.s2 (k_125 hS) (l_125 hS) c1, trivial⟩ ?_
    have hS3 : SH (sm_wI M 125 x2.toNatClampNeg (iV M 131 x2.toNatClampNeg)) := SH.wI hS _ _ _
    have h := h _ hS3 rfl
    generalize sm_wI M 125 x2.toNatClampNeg (iV M 131 x2.toNatClampNeg) = M2 at h hS3 ⊢
    refine sm_w.run t168 sr168 188 2 (M2 := M2) (f2 := (348, [some (.ref 116), some (.int (x1)), some (.int (x2)), none, none, none], [va_rf (sm_rv M2 116 20)])) rfl ⟨trivial, sm_K.g (k_116 hS3) (sm_sh.rf _), trivial⟩ ?_
    refine sm_w.fld (r_116_20 hS3) ?_
    refine sm_w.run t168 sr168 190 3 (M2 := M2) (f2 := (353, [some (.ref 116), some (.int (x1)), some (.int (x2)), none, none, none], [va_rf (sm_rv M2 116 26), .int (x2), .ref 126])) rfl ⟨trivial, trivial, sm_K.g (k_116 hS3) (sm_sh.rf _), trivial⟩ ?_
    refine sm_w.fld (r_116_26 hS3) ?_
    obtain ⟨c4, h⟩ := h
    refine sm_w.run t168 sr168 193 3 (M2 := sm_wI M2 126 x2.toNatClampNeg (iV M2 132 x2.toNatClampNeg)) (f2 := (356, [some (.ref 116), some (.int (x1)), some (.int (x2)), none, none, none], [])) rfl ⟨trivial, sm_K.a2 (k_132 hS3) (l_132 hS3) c4, sm_K.s2 (k_126 hS3) (l_126 hS3) c4, trivial⟩ ?_
    have hS6 : SH (sm_wI M2 126 x2.toNatClampNeg (iV M2 132 x2.toNatClampNeg)) := SH.wI hS3 _ _ _
    have h := h _ hS6 rfl
    generalize sm_wI M2 126 x2.toNatClampNeg (iV M2 132 x2.toNatClampNeg) = M5 at h hS6 ⊢
    refine sm_w.run t168 sr168 196 2 (M2 := M5) (f2 := (360, [some (.ref 116), some (.int (x1)), some (.int (x2)), none, none, none], [va_rf (sm_rv M5 116 21)])) rfl ⟨trivial, sm_K.g (k_116 hS6) (sm_sh.rf _), trivial⟩ ?_
    refine sm_w.fld (r_116_21 hS6) ?_
    refine sm_w.run t168 sr168 198 3 (M2 := M5) (f2 := (365, [some (.ref 116), some (.int (x1)), some (.int (x2)), none, none, none], [va_rf (sm_rv M5 116 27), .int (x2), .ref 127])) rfl ⟨trivial, trivial, sm_K.g (k_116 hS6) (sm_sh.rf _), trivial⟩ ?_
    refine sm_w.fld (r_116_27 hS6) ?_
    obtain ⟨c7, h⟩ := h
    refine sm_w.run t168 sr168 201 3 (M2 := sm_wI M5 127 x2.toNatClampNeg (iV M5 133 x2.toNatClampNeg)) (f2 := (368, [some (.ref 116), some (.int (x1)), some (.int (x2)), none, none, none], [])) rfl ⟨trivial, sm_K.a2 (k_133 hS6) (l_133 hS6) c7, sm_K.s2 (k_127 hS6) (l_127 hS6) c7, trivial⟩ ?_
    have hS9 : SH (sm_wI M5 127 x2.toNatClampNeg (iV M5 133 x2.toNatClampNeg)) := SH.wI hS6 _ _ _
    have h := h _ hS9 rfl
    generalize sm_wI M5 127 x2.toNatClampNeg (iV M5 133 x2.toNatClampNeg) = M8 at h hS9 ⊢
    refine sm_w.run t168 sr168 204 2 (M2 := M8) (f2 := (324, [some (.ref 116), some (.int (x1)), some (.int (x2 + (1 : Int32))), none, none, none], [])) rfl ⟨(Nat.le_of_ble_eq_true rfl), trivial, trivial⟩ ?_
    exact h
