/-! METHODS by their segments. -/
-- 25 LineSetter$FontReader.readInto(LLineSetter$Font;)I
theorem t25 : sP 25 = (4, sp_25, sh_25) := rfl
theorem sr25 : sm_srt sp_25 = true := by decide +kernel
theorem g25_0 {M : sm_M} {x1 : Nat} {K : Int32 → sm_M → Prop} (hS : SH M) (hx1 : fF x1) (h : sm_cV 26 [.ref x1] M (fun M1 => SH M1 → ∀ M4, SH M4 → M4 = sm_wI M1 33 1 (0 : Int32) → ∀ M6, SH M6 → M6 = sm_wI M4 33 2 (-1 : Int32) → sm_cI 29 [.ref 24, .int (iV M6 33 1)] M6 (fun v12 M11 => SH M11 → ∀ M14, SH M14 → M14 = sm_wI M11 33 1 v12 → sm_w 25 (22, [some (.ref 33), some (.ref x1), some (.int ((1 : Int32))), some (.int ((0 : Int32)))], []) M14 (rI K)))) : sm_w 25 (sm_in sP 25 [.ref 33, .ref x1]) M (rI K) := by
  show sm_w 25 (0, [some (.ref 33), some (.ref x1), none, none], []) M (rI K)
  refine sm_w.run t25 sr25 0 1 (M2 := M) (f2 := (1, [some (.ref 33), some (.ref x1), none, none], [.ref x1])) rfl ⟨trivial, trivial⟩ ?_
  refine sm_w.cV t25 sr25 1 (i := 26) (as := [.ref x1]) (g := (1, [some (.ref 33), some (.ref x1), none, none], [])) rfl ⟨by decide, by decide, (Nat.le_of_ble_eq_true rfl), (sm_K.g (kF_0 hS hx1) (sm_sh.rf _)).1, (sm_K.g (kF_0 hS hx1) (sm_sh.rf _)).2, (Nat.le_of_ble_eq_true rfl)⟩ (Nat.le_of_ble_eq_true rfl) (by decide) (sm_cV.s (by decide) hS h) (fun M1 h => ?_)
  obtain ⟨hS3, h⟩ := h
  refine sm_w.run t25 sr25 2 3 (M2 := sm_wI M1 33 1 (0 : Int32)) (f2 := (9, [some (.ref 33), some (.ref x1), none, none], [])) rfl ⟨trivial, trivial, ⟨(sm_K.p (k_33 hS3) (sm_sh.rf _)).1, (sm_K.p (k_33 hS3) (sm_sh.rf _)).2.1, (sm_K.p (k_33 hS3) (sm_sh.rf _)).2.2, Or.inl rfl⟩, trivial⟩ ?_
  have hS5 : SH (sm_wI M1 33 1 (0 : Int32)) := SH.wI hS3 _ _ _
  have h := h _ hS5 rfl
  generalize sm_wI M1 33 1 (0 : Int32) = M4 at h hS5 ⊢
  refine sm_w.run t25 sr25 5 3 (M2 := sm_wI M4 33 2 (-1 : Int32)) (f2 := (14, [some (.ref 33), some (.ref x1), none, none], [])) rfl ⟨trivial, trivial, ⟨(sm_K.p (k_33 hS5) (sm_sh.rf _)).1, (sm_K.p (k_33 hS5) (sm_sh.rf _)).2.1, (sm_K.p (k_33 hS5) (sm_sh.rf _)).2.2, Or.inl rfl⟩, trivial⟩ ?_
  have hS7 : SH (sm_wI M4 33 2 (-1 : Int32)) := SH.wI hS5 _ _ _
  have h := h _ hS7 rfl
  generalize sm_wI M4 33 2 (-1 : Int32) = M6 at h hS7 ⊢
  refine sm_w.run t25 sr25 8 1 (M2 := M6) (f2 := (15, [some (.ref 33), some (.ref x1), none, none], [.ref 33])) rfl ⟨trivial, trivial⟩ ?_
  refine sm_w.cV t25 sr25 9 (i := 28) (as := [.ref 33]) (g := (15, [some (.ref 33), some (.ref x1), none, none], [])) rfl ⟨by decide, by decide, (Nat.le_of_ble_eq_true rfl), (sm_K.g (k_33 hS7) (sm_sh.rf _)).1, (sm_K.g (k_33 hS7) (sm_sh.rf _)).2, (Nat.le_of_ble_eq_true rfl)⟩ (Nat.le_of_ble_eq_true rfl) (by decide) (sm_cV.s2 (by decide) hS7 (g28_0 (K := fun M8 => sm_w 25 (22, [some (.ref 33), some (.ref x1), some (.int ((1 : Int32))), some (.int ((0 : Int32)))], []) M8 (rI K)) hS7 h)) (fun M8 h => ?_)
  obtain ⟨hS10, h⟩ := h
  refine sm_w.run t25 sr25 10 4 (M2 := M8) (f2 := (22, [some (.ref 33), some (.ref x1), some (.int ((1 : Int32))), some (.int ((0 : Int32)))], [])) rfl ⟨trivial, (Nat.le_of_ble_eq_true rfl), trivial, (Nat.le_of_ble_eq_true rfl), trivial⟩ ?_
  exact h
theorem g25_1 {M : sm_M} {x1 : Nat} {x2 : Int32} {x3 : Int32} {K : Int32 → sm_M → Prop} (hS : SH M) (hx1 : fF x1) (h : (((iV M 24 1) ≤ x3 → K (iV M 33 2) M) ∧ (¬ (iV M 24 1) ≤ x3 → ((x2 = 0 → K (iV M 33 2) M) ∧ (¬ x2 = 0 → (((iV M 24 1) ≤ (iV M 33 1) → K (iV M 33 2) M) ∧ (¬ (iV M 24 1) ≤ (iV M 33 1) → sm_cI 32 [.ref 33, .ref x1] M (fun v2 M1 => SH M1 → sm_cI 29 [.ref 24, .int (iV M1 33 1)] M1 (fun v8 M7 => SH M7 → ∀ M10, SH M10 → M10 = sm_wI M7 33 1 v8 → sm_w 25 (22, [some (.ref 33), some (.ref x1), some (.int (v2)), some (.int (x3 + (1 : Int32)))], []) M10 (rI K)))))))))) : sm_w 25 (22, [some (.ref 33), some (.ref x1), some (.int (x2)), some (.int (x3))], []) M (rI K) := by
  refine sm_w.run t25 sr25 14 3 (M2 := M) (f2 := (27, [some (.ref 33), some (.ref x1), some (.int (x2)), some (.int (x3))], [va_rf (sm_rv M 33 0), .int (x3)])) rfl ⟨trivial, trivial, sm_K.g (k_33 hS) (sm_sh.rf _), trivial⟩ ?_
  refine sm_w.fld (r_33_0 hS) ?_
  refine sm_w.run t25 sr25 17 2 (M2 := M) (f2 := (if (iV M 24 1) ≤ x3 then 67 else 33, [some (.ref 33), some (.ref x1), some (.int (x2)), some (.int (x3))], [])) rfl ⟨sm_K.g (kB_0 hS fB_24) (sm_sh.rf _), trivial, trivial⟩ ?_
  refine sm_w.ite (fun hc => ?_) (fun hc => ?_)
  · have h := h.1 hc
    refine sm_w.run t25 sr25 35 2 (M2 := M) (f2 := (71, [some (.ref 33), some (.ref x1), some (.int (x2)), some (.int (x3))], [.int (iV M 33 2)])) rfl ⟨trivial, sm_K.g (k_33 hS) (sm_sh.rf _), trivial⟩ ?_
    exact sm_w.end t25 sr25 37 (o := .returned (some (.int (iV M 33 2)))) (M2 := M) rfl rfl (by decide) (⟨_, rfl, h⟩)
  · have h := h.2 hc
    refine sm_w.run t25 sr25 19 2 (M2 := M) (f2 := (if x2 = 0 then 67 else 37, [some (.ref 33), some (.ref x1), some (.int (x2)), some (.int (x3))], [])) rfl ⟨trivial, trivial, trivial⟩ ?_
    refine sm_w.ite (fun hc => ?_) (fun hc => ?_)
    · have h := h.1 hc
      refine sm_w.run t25 sr25 35 2 (M2 := M) (f2 := (71, [some (.ref 33), some (.ref x1), some (.int (x2)), some (.int (x3))], [.int (iV M 33 2)])) rfl ⟨trivial, sm_K.g (k_33 hS) (sm_sh.rf _), trivial⟩ ?_
      exact sm_w.end t25 sr25 37 (o := .returned (some (.int (iV M 33 2)))) (M2 := M) rfl rfl (by decide) (⟨_, rfl, h⟩)
    · have h := h.2 hc
      refine sm_w.run t25 sr25 21 4 (M2 := M) (f2 := (45, [some (.ref 33), some (.ref x1), some (.int (x2)), some (.int (x3))], [va_rf (sm_rv M 33 0), .int (iV M 33 1)])) rfl ⟨trivial, sm_K.g (k_33 hS) (sm_sh.rf _), trivial, sm_K.g (k_33 hS) (sm_sh.rf _), trivial⟩ ?_
      refine sm_w.fld (r_33_0 hS) ?_
      refine sm_w.run t25 sr25 25 2 (M2 := M) (f2 := (if (iV M 24 1) ≤ (iV M 33 1) then 67 else 51, [some (.ref 33), some (.ref x1), some (.int (x2)), some (.int (x3))], [])) rfl ⟨sm_K.g (kB_0 hS fB_24) (sm_sh.rf _), trivial, trivial⟩ ?_
      refine sm_w.ite (fun hc => ?_) (fun hc => ?_)
      · have h := h.1 hc
        refine sm_w.run t25 sr25 35 2 (M2 := M) (f2 := (71, [some (.ref 33), some (.ref x1), some (.int (x2)), some (.int (x3))], [.int (iV M 33 2)])) rfl ⟨trivial, sm_K.g (k_33 hS) (sm_sh.rf _), trivial⟩ ?_
        exact sm_w.end t25 sr25 37 (o := .returned (some (.int (iV M 33 2)))) (M2 := M) rfl rfl (by decide) (⟨_, rfl, h⟩)
      · have h := h.2 hc
        refine sm_w.run t25 sr25 27 2 (M2 := M) (f2 := (53, [some (.ref 33), some (.ref x1), some (.int (x2)), some (.int (x3))], [.ref x1, .ref 33])) rfl ⟨trivial, trivial, trivial⟩ ?_
        refine sm_w.cI t25 sr25 29 (i := 32) (as := [.ref 33, .ref x1]) (g := (53, [some (.ref 33), some (.ref x1), some (.int (x2)), some (.int (x3))], [])) rfl ⟨by decide, by decide, (Nat.le_of_ble_eq_true rfl), (sm_K.g (k_33 hS) (sm_sh.rf _)).1, (sm_K.g (k_33 hS) (sm_sh.rf _)).2, (Nat.le_of_ble_eq_true rfl)⟩ (Nat.le_of_ble_eq_true rfl) (by decide) (sm_cI.s (by decide) hS h) (fun v2 M1 h => ?_)
        obtain ⟨hS3, h⟩ := h
        refine sm_w.run t25 sr25 30 2 (M2 := M1) (f2 := (58, [some (.ref 33), some (.ref x1), some (.int (v2)), some (.int (x3))], [.ref 33])) rfl ⟨(Nat.le_of_ble_eq_true rfl), trivial, trivial⟩ ?_
        refine sm_w.cV t25 sr25 32 (i := 28) (as := [.ref 33]) (g := (58, [some (.ref 33), some (.ref x1), some (.int (v2)), some (.int (x3))], [])) rfl ⟨by decide, by decide, (Nat.le_of_ble_eq_true rfl), (sm_K.g (k_33 hS3) (sm_sh.rf _)).1, (sm_K.g (k_33 hS3) (sm_sh.rf _)).2, (Nat.le_of_ble_eq_true rfl)⟩ (Nat.le_of_ble_eq_true rfl) (by decide) (sm_cV.s2 (by decide) hS3 (g28_0 (K := fun M4 => sm_w 25 (22, [some (.ref 33), some (.ref x1), some (.int (v2)), some (.int (x3 + (1 : Int32)))], []) M4 (rI K)) hS3 h)) (fun M4 h => ?_)
        obtain ⟨hS6, h⟩ := h
        refine sm_w.run t25 sr25 33 2 (M2 := M4) (f2 := (22, [some (.ref 33), some (.ref x1), some (.int (v2)), some (.int (x3 + (1 : Int32)))], [])) rfl ⟨(Nat.le_of_ble_eq_true rfl), trivial, trivial⟩ ?_
        exact h
-- 54 LineSetter$Font.entries()I
theorem t54 : sP 54 = (1, sp_54, sh_54) := rfl
theorem sr54 : sm_srt sp_54 = true := by decide +kernel
theorem g54_0 {M : sm_M} {x0 : Nat} {K : Int32 → sm_M → Prop} (hS : SH M) (hx0 : fF x0) (h : K (((iV M x0 2) + (iV M (x0 + 3) 4)) + (iV M (x0 + 8) 4)) M) : sm_w 54 (sm_in sP 54 [.ref x0]) M (rI K) := by
  show sm_w 54 (0, [some (.ref x0)], []) M (rI K)
  refine sm_w.run t54 sr54 0 4 (M2 := M) (f2 := (8, [some (.ref x0)], [va_rf (sm_rv M x0 3), .int (iV M x0 2)])) rfl ⟨trivial, sm_K.g (kF_0 hS hx0) (sm_sh.rf _), trivial, sm_K.g (kF_0 hS hx0) (sm_sh.rf _), trivial⟩ ?_
  refine sm_w.fld (rF_3 hS hx0) ?_
  refine sm_w.run t54 sr54 4 4 (M2 := M) (f2 := (16, [some (.ref x0)], [va_rf (sm_rv M x0 4), .int ((iV M x0 2) + (iV M (x0 + 3) 4))])) rfl ⟨sm_K.g (kQ_0 hS (fF_3 hx0)) (sm_sh.rf _), trivial, trivial, sm_K.g (kF_0 hS hx0) (sm_sh.rf _), trivial⟩ ?_
  refine sm_w.fld (rF_4 hS hx0) ?_
  refine sm_w.run t54 sr54 8 2 (M2 := M) (f2 := (20, [some (.ref x0)], [.int (((iV M x0 2) + (iV M (x0 + 3) 4)) + (iV M (x0 + 8) 4))])) rfl ⟨sm_K.g (kQ_0 hS (fF_8 hx0)) (sm_sh.rf _), trivial, trivial⟩ ?_
  exact sm_w.end t54 sr54 10 (o := .returned (some (.int (((iV M x0 2) + (iV M (x0 + 3) 4)) + (iV M (x0 + 8) 4))))) (M2 := M) rfl rfl (by decide) (⟨_, rfl, h⟩)
def p54_0 (M : sm_M) (x0 : Nat) : Int32 := ((iV M x0 2) + (iV M (x0 + 3) 4)) + (iV M (x0 + 8) 4)
theorem p54_c {M : sm_M} {x0 : Nat} (hS : SH M) (hx0 : fF x0) : sm_cI 54 [.ref x0] M (fun v M2 => v = p54_0 M x0 ∧ M2 = M) := by
  refine g54_0 (K := (fun v M2 => v = p54_0 M x0 ∧ M2 = M)) hS hx0 ?_
  exact ⟨rfl, rfl⟩
-- 24 LineSetter.font()I
theorem t24 : sP 24 = (2, sp_24, sh_24) := rfl
theorem sr24 : sm_srt sp_24 = true := by decide +kernel
theorem g24_0 {M : sm_M}  {K : Int32 → sm_M → Prop} {X : Nat → sm_M → Prop} (hS : SH M)  (h : ∃ r1, sm_rv M 23 10 = some r1 ∧ fF r1 ∧ sm_cI 25 [.ref 33, .ref r1] M (fun v5 M4 => SH M4 → ∀ M7, SH M7 → M7 = sm_wI M4 23 16 v5 → ∀ M9, SH M9 → M9 = sm_wI M7 24 1 (0 : Int32) → (((iV M9 23 16) < 0 → ∃ r11, sm_rv M9 23 9 = some r11 ∧ fF r11 ∧ ∃ r14, sm_rv M9 23 10 = some r14 ∧ fF r14 ∧ ∀ M17, SH M17 → M17 = sm_wR M9 23 9 (some r14) → ∀ M19, SH M19 → M19 = sm_wR M17 23 10 (some r11) → ∃ r21, sm_rv M19 23 9 = some r21 ∧ fF r21 ∧ K (p54_0 M19 r21) M19) ∧ (¬ (iV M9 23 16) < 0 → X M9.1 (sm_new M9 50 6))))) : sm_w 24 (sm_in sP 24 [.ref 23]) M (yI X K) := by
  show sm_w 24 (0, [some (.ref 23), none], []) M (yI X K)
  refine sm_w.run t24 sr24 0 3 (M2 := M) (f2 := (5, [some (.ref 23), none], [va_rf (sm_rv M 23 5), .ref 23])) rfl ⟨trivial, trivial, sm_K.g (k_23 hS) (sm_sh.rf _), trivial⟩ ?_
  refine sm_w.fld (r_23_5 hS) ?_
  refine sm_w.run t24 sr24 3 2 (M2 := M) (f2 := (9, [some (.ref 23), none], [va_rf (sm_rv M 23 10), .ref 33, .ref 23])) rfl ⟨trivial, sm_K.g (k_23 hS) (sm_sh.rf _), trivial⟩ ?_
  obtain ⟨r1, e2, h3, h⟩ := h
  refine sm_w.fld e2 ?_
  refine sm_w.cI t24 sr24 5 (i := 25) (as := [.ref 33, .ref r1]) (g := (9, [some (.ref 23), none], [.ref 23])) rfl ⟨by decide, by decide, (Nat.le_of_ble_eq_true rfl), (sm_K.g (k_33 hS) (sm_sh.rf _)).1, (sm_K.g (k_33 hS) (sm_sh.rf _)).2, (Nat.le_of_ble_eq_true rfl)⟩ (Nat.le_of_ble_eq_true rfl) (by decide) (sm_cI.s (by decide) hS h) (fun v5 M4 h => ?_)
  obtain ⟨hS6, h⟩ := h
  refine sm_w.run t24 sr24 6 1 (M2 := sm_wI M4 23 16 v5) (f2 := (15, [some (.ref 23), none], [])) rfl ⟨⟨(sm_K.p (k_23 hS6) (sm_sh.rf _)).1, (sm_K.p (k_23 hS6) (sm_sh.rf _)).2.1, (sm_K.p (k_23 hS6) (sm_sh.rf _)).2.2, Or.inl rfl⟩, trivial⟩ ?_
  have hS8 : SH (sm_wI M4 23 16 v5) := SH.wI hS6 _ _ _
  have h := h _ hS8 rfl
  generalize sm_wI M4 23 16 v5 = M7 at h hS8 ⊢
  refine sm_w.run t24 sr24 7 2 (M2 := M7) (f2 := (19, [some (.ref 23), none], [va_rf (sm_rv M7 23 0)])) rfl ⟨trivial, sm_K.g (k_23 hS8) (sm_sh.rf _), trivial⟩ ?_
  refine sm_w.fld (r_23_0 hS8) ?_
  refine sm_w.run t24 sr24 9 2 (M2 := sm_wI M7 24 1 (0 : Int32)) (f2 := (23, [some (.ref 23), none], [])) rfl ⟨trivial, ⟨(sm_K.p (kB_0 hS8 fB_24) (sm_sh.rf _)).1, (sm_K.p (kB_0 hS8 fB_24) (sm_sh.rf _)).2.1, (sm_K.p (kB_0 hS8 fB_24) (sm_sh.rf _)).2.2, Or.inl rfl⟩, trivial⟩ ?_
  have hS10 : SH (sm_wI M7 24 1 (0 : Int32)) := SH.wI hS8 _ _ _
  have h := h _ hS10 rfl
  generalize sm_wI M7 24 1 (0 : Int32) = M9 at h hS10 ⊢
  refine sm_w.run t24 sr24 11 3 (M2 := M9) (f2 := (if (iV M9 23 16) < 0 then 40 else 30, [some (.ref 23), none], [])) rfl ⟨trivial, sm_K.g (k_23 hS10) (sm_sh.rf _), trivial, trivial⟩ ?_
  refine sm_w.ite (fun hc => ?_) (fun hc => ?_)
  · have h := h.1 hc
    refine sm_w.run t24 sr24 15 2 (M2 := M9) (f2 := (44, [some (.ref 23), none], [va_rf (sm_rv M9 23 9)])) rfl ⟨trivial, sm_K.g (k_23 hS10) (sm_sh.rf _), trivial⟩ ?_
    obtain ⟨r11, e12, h13, h⟩ := h
    refine sm_w.fld e12 ?_
    refine sm_w.run t24 sr24 17 4 (M2 := M9) (f2 := (50, [some (.ref 23), some (.ref r11)], [va_rf (sm_rv M9 23 10), .ref 23])) rfl ⟨(Nat.le_of_ble_eq_true rfl), trivial, trivial, sm_K.g (k_23 hS10) (sm_sh.rf _), trivial⟩ ?_
    obtain ⟨r14, e15, h16, h⟩ := h
    refine sm_w.fld e15 ?_
    refine sm_w.run t24 sr24 21 1 (M2 := sm_wR M9 23 9 (some r14)) (f2 := (53, [some (.ref 23), some (.ref r11)], [])) rfl ⟨⟨(sm_K.p (k_23 hS10) (sm_sh.rf _)).1, (sm_K.p (k_23 hS10) (sm_sh.rf _)).2.1, (sm_K.p (k_23 hS10) (sm_sh.rf _)).2.2, rfl⟩, trivial⟩ ?_
    have hS18 : SH (sm_wR M9 23 9 (some r14)) := SH.w23 hS10 _ _ (by decide)
    have h := h _ hS18 rfl
    generalize sm_wR M9 23 9 (some r14) = M17 at h hS18 ⊢
    refine sm_w.run t24 sr24 22 3 (M2 := sm_wR M17 23 10 (some r11)) (f2 := (58, [some (.ref 23), some (.ref r11)], [])) rfl ⟨trivial, trivial, ⟨(sm_K.p (k_23 hS18) (sm_sh.rf _)).1, (sm_K.p (k_23 hS18) (sm_sh.rf _)).2.1, (sm_K.p (k_23 hS18) (sm_sh.rf _)).2.2, rfl⟩, trivial⟩ ?_
    have hS20 : SH (sm_wR M17 23 10 (some r11)) := SH.w23 hS18 _ _ (by decide)
    have h := h _ hS20 rfl
    generalize sm_wR M17 23 10 (some r11) = M19 at h hS20 ⊢
    refine sm_w.run t24 sr24 25 2 (M2 := M19) (f2 := (62, [some (.ref 23), some (.ref r11)], [va_rf (sm_rv M19 23 9)])) rfl ⟨trivial, sm_K.g (k_23 hS20) (sm_sh.rf _), trivial⟩ ?_
    obtain ⟨r21, e22, h23, h⟩ := h
    refine sm_w.fld e22 ?_
    refine sm_w.cI t24 sr24 27 (i := 54) (as := [.ref r21]) (g := (62, [some (.ref 23), some (.ref r11)], [])) rfl ⟨by decide, by decide, (Nat.le_of_ble_eq_true rfl), (sm_K.g (kF_0 hS20 h23) (sm_sh.rf _)).1, (sm_K.g (kF_0 hS20 h23) (sm_sh.rf _)).2, (Nat.le_of_ble_eq_true rfl)⟩ (Nat.le_of_ble_eq_true rfl) (by decide) (p54_c hS20 h23) (fun vz M2 hz => ?_)
    obtain ⟨hz1, hz2⟩ := hz
    subst hz1
    have hz2 := hz2.symm
    subst hz2
    exact sm_w.end t24 sr24 28 (o := .returned (some (.int (p54_0 M19 r21)))) (M2 := M19) rfl rfl (by decide) (Or.inr ⟨_, rfl, h⟩)
  · have h := h.2 hc
    exact sm_w.end t24 sr24 14 (o := .threw M9.1) (M2 := sm_new M9 50 6) rfl (Nat.le_of_ble_eq_true rfl) (by decide) (Or.inl ⟨_, rfl, h⟩)
-- 23 LineSetterLaw.font(LLineSetter;[J)I
theorem t23 : sP 23 = (3, sp_23, sh_23) := rfl
theorem sr23 : sm_srt sp_23 = true := by decide +kernel
theorem g23_0 {M : sm_M}  {K : Int32 → sm_M → Prop} (hS : SH M)  (h : sm_xI 24 [.ref 23] M (fun r0 M0 => (sm_kd M0 r0 = 50 ∧ SH M0 ∧ K (1 : Int32) M0)) (fun v2 M1 => SH M1 ∧ (vp_in (0 : Int32) 1) ∧ ∀ M5, SH M5 → M5 = sm_wJ M1 164 (0 : Int32).toNatClampNeg v2.toInt64 → K (0 : Int32) M5)) : sm_w 23 (sm_in sP 23 [.ref 23, .ref 164]) M (rI K) := by
  show sm_w 23 (0, [some (.ref 23), some (.ref 164), none], []) M (rI K)
  refine sm_w.run t23 sr23 0 3 (M2 := M) (f2 := (3, [some (.ref 23), some (.ref 164), none], [.ref 23, .int ((0 : Int32)), .ref 164])) rfl ⟨trivial, trivial, trivial, trivial⟩ ?_
  refine sm_w.yI t23 sr23 3 (i := 24) (as := [.ref 23]) (g := (3, [some (.ref 23), some (.ref 164), none], [.int ((0 : Int32)), .ref 164])) rfl ⟨by decide, by decide, (Nat.le_of_ble_eq_true rfl), (sm_K.g (k_23 hS) (sm_sh.rf _)).1, (sm_K.g (k_23 hS) (sm_sh.rf _)).2, (Nat.le_of_ble_eq_true rfl)⟩ (Nat.le_of_ble_eq_true rfl) (by decide) h (fun r0 M0 h => ?_) (fun v2 M1 h => ?_)
  · rcases h with ⟨hk, hS0, h⟩
    · refine ⟨11, by rw [hk]; rfl, ?_⟩
      refine sm_w.run t23 sr23 7 2 (M2 := M0) (f2 := (13, [some (.ref 23), some (.ref 164), some (.ref r0)], [.int ((1 : Int32))])) rfl ⟨(Nat.le_of_ble_eq_true rfl), trivial, trivial⟩ ?_
      exact sm_w.end t23 sr23 9 (o := .returned (some (.int ((1 : Int32))))) (M2 := M0) rfl rfl (by decide) (⟨_, rfl, h⟩)
  · obtain ⟨hS3, h⟩ := h
    obtain ⟨c4, h⟩ := h
    refine sm_w.run t23 sr23 4 2 (M2 := sm_wJ M1 164 (0 : Int32).toNatClampNeg v2.toInt64) (f2 := (8, [some (.ref 23), some (.ref 164), none], [])) rfl ⟨trivial, sm_K.s2 (k_164 hS3) (l_164 hS3) c4, trivial⟩ ?_
    have hS6 : SH (sm_wJ M1 164 (0 : Int32).toNatClampNeg v2.toInt64) := SH.wJ hS3 _ _ _
    have h := h _ hS6 rfl
    generalize sm_wJ M1 164 (0 : Int32).toNatClampNeg v2.toInt64 = M5 at h hS6 ⊢
    refine sm_w.run t23 sr23 6 1 (M2 := M5) (f2 := (14, [some (.ref 23), some (.ref 164), none], [])) rfl ⟨trivial, trivial⟩ ?_
    refine sm_w.run t23 sr23 10 1 (M2 := M5) (f2 := (15, [some (.ref 23), some (.ref 164), none], [.int ((0 : Int32))])) rfl ⟨trivial, trivial⟩ ?_
    exact sm_w.end t23 sr23 11 (o := .returned (some (.int ((0 : Int32))))) (M2 := M5) rfl rfl (by decide) (⟨_, rfl, h⟩)
-- 59 LineSetter$Bytes.behindWord(I)I
theorem t59 : sP 59 = (3, sp_59, sh_59) := rfl
theorem sr59 : sm_srt sp_59 = true := by decide +kernel
theorem g59_0 {M : sm_M} {x0 : Nat} {x1 : Int32} {K : Int32 → sm_M → Prop} (hS : SH M) (hx0 : fB x0) (h : sm_w 59 (2, [some (.ref x0), none, some (.int (x1))], []) M (rI K)) : sm_w 59 (sm_in sP 59 [.ref x0, .int (x1)]) M (rI K) := by
  show sm_w 59 (0, [some (.ref x0), some (.int (x1)), none], []) M (rI K)
  refine sm_w.run t59 sr59 0 2 (M2 := M) (f2 := (2, [some (.ref x0), some (.int (x1)), some (.int (x1))], [])) rfl ⟨trivial, (Nat.le_of_ble_eq_true rfl), trivial⟩ ?_
  refine sm_w.weak (ls := [some (.ref x0), none, some (.int (x1))]) (sm_leI [true, false, true] rfl) ?_
  exact h
theorem g59_1 {M : sm_M} {x0 : Nat} {x2 : Int32} {K : Int32 → sm_M → Prop} (hS : SH M) (hx0 : fB x0) (h : (((iV M x0 1) ≤ x2 → K x2 M) ∧ (¬ (iV M x0 1) ≤ x2 → (q30_0 M x0 x2) ∧ (((p31_0 M (p30_0 M x0 x2)) = 0 → sm_w 59 (2, [some (.ref x0), none, some (.int (x2 + (1 : Int32)))], []) M (rI K)) ∧ (¬ (p31_0 M (p30_0 M x0 x2)) = 0 → K x2 M))))) : sm_w 59 (2, [some (.ref x0), none, some (.int (x2))], []) M (rI K) := by
  refine sm_w.run t59 sr59 2 4 (M2 := M) (f2 := (if (iV M x0 1) ≤ x2 then 27 else 10, [some (.ref x0), none, some (.int (x2))], [])) rfl ⟨trivial, trivial, sm_K.g (kB_0 hS hx0) (sm_sh.rf _), trivial, trivial⟩ ?_
  refine sm_w.ite (fun hc => ?_) (fun hc => ?_)
  · have h := h.1 hc
    refine sm_w.run t59 sr59 13 1 (M2 := M) (f2 := (28, [some (.ref x0), none, some (.int (x2))], [.int (x2)])) rfl ⟨trivial, trivial⟩ ?_
    exact sm_w.end t59 sr59 14 (o := .returned (some (.int (x2)))) (M2 := M) rfl rfl (by decide) (⟨_, rfl, h⟩)
  · have h := h.2 hc
    obtain ⟨c1, h⟩ := h
    refine sm_w.run t59 sr59 6 2 (M2 := M) (f2 := (12, [some (.ref x0), none, some (.int (x2))], [.int (x2), .ref x0])) rfl ⟨trivial, trivial, trivial⟩ ?_
    refine sm_w.cI t59 sr59 8 (i := 30) (as := [.ref x0, .int (x2)]) (g := (12, [some (.ref x0), none, some (.int (x2))], [])) rfl ⟨by decide, by decide, (Nat.le_of_ble_eq_true rfl), (sm_K.g (kB_0 hS hx0) (sm_sh.rf _)).1, (sm_K.g (kB_0 hS hx0) (sm_sh.rf _)).2, (Nat.le_of_ble_eq_true rfl)⟩ (Nat.le_of_ble_eq_true rfl) (by decide) (p30_c hS hx0 c1) (fun vz M2 hz => ?_)
    obtain ⟨hz1, hz2⟩ := hz
    subst hz1
    have hz2 := hz2.symm
    subst hz2
    refine sm_w.cI t59 sr59 9 (i := 31) (as := [.int (p30_0 M x0 x2)]) (g := (15, [some (.ref x0), none, some (.int (x2))], [])) rfl ⟨(Nat.le_of_ble_eq_true rfl), (Nat.le_of_ble_eq_true rfl)⟩ (Nat.le_of_ble_eq_true rfl) (by decide) (p31_c hS) (fun vz M2 hz => ?_)
    obtain ⟨hz1, hz2⟩ := hz
    subst hz1
    have hz2 := hz2.symm
    subst hz2
    refine sm_w.run t59 sr59 10 1 (M2 := M) (f2 := (if (p31_0 M (p30_0 M x0 x2)) = 0 then 21 else 27, [some (.ref x0), none, some (.int (x2))], [])) rfl ⟨trivial, trivial⟩ ?_
    refine sm_w.ite (fun hc => ?_) (fun hc => ?_)
    · have h := h.1 hc
      refine sm_w.run t59 sr59 11 2 (M2 := M) (f2 := (2, [some (.ref x0), none, some (.int (x2 + (1 : Int32)))], [])) rfl ⟨(Nat.le_of_ble_eq_true rfl), trivial, trivial⟩ ?_
      exact h
    · have h := h.2 hc
      refine sm_w.run t59 sr59 13 1 (M2 := M) (f2 := (28, [some (.ref x0), none, some (.int (x2))], [.int (x2)])) rfl ⟨trivial, trivial⟩ ?_
      exact sm_w.end t59 sr59 14 (o := .returned (some (.int (x2)))) (M2 := M) rfl rfl (by decide) (⟨_, rfl, h⟩)
-- 58 LineSetter$HyphenReader.nextWord()V
theorem t58 : sP 58 = (1, sp_58, sh_58) := rfl
theorem sr58 : sm_srt sp_58 = true := by decide +kernel
theorem g58_0 {M : sm_M}  {K : sm_M → Prop} (hS : SH M)  (h : sm_cI 29 [.ref 24, .int (iV M 34 2)] M (fun v2 M1 => SH M1 → ∀ M4, SH M4 → M4 = sm_wI M1 34 1 v2 → sm_cI 59 [.ref 24, .int (iV M4 34 1)] M4 (fun v7 M6 => SH M6 → ∀ M9, SH M9 → M9 = sm_wI M6 34 2 v7 → K M9))) : sm_w 58 (sm_in sP 58 [.ref 34]) M (rV K) := by
  show sm_w 58 (0, [some (.ref 34)], []) M (rV K)
  refine sm_w.run t58 sr58 0 3 (M2 := M) (f2 := (5, [some (.ref 34)], [va_rf (sm_rv M 34 0), .ref 34])) rfl ⟨trivial, trivial, sm_K.g (k_34 hS) (sm_sh.rf _), trivial⟩ ?_
  refine sm_w.fld (r_34_0 hS) ?_
  refine sm_w.run t58 sr58 3 2 (M2 := M) (f2 := (9, [some (.ref 34)], [.int (iV M 34 2), .ref 24, .ref 34])) rfl ⟨trivial, sm_K.g (k_34 hS) (sm_sh.rf _), trivial⟩ ?_
  refine sm_w.cI t58 sr58 5 (i := 29) (as := [.ref 24, .int (iV M 34 2)]) (g := (9, [some (.ref 34)], [.ref 34])) rfl ⟨by decide, by decide, (Nat.le_of_ble_eq_true rfl), (sm_K.g (kB_0 hS fB_24) (sm_sh.rf _)).1, (sm_K.g (kB_0 hS fB_24) (sm_sh.rf _)).2, (Nat.le_of_ble_eq_true rfl)⟩ (Nat.le_of_ble_eq_true rfl) (by decide) (sm_cI.s (by decide) hS h) (fun v2 M1 h => ?_)
  obtain ⟨hS3, h⟩ := h
  refine sm_w.run t58 sr58 6 1 (M2 := sm_wI M1 34 1 v2) (f2 := (15, [some (.ref 34)], [])) rfl ⟨⟨(sm_K.p (k_34 hS3) (sm_sh.rf _)).1, (sm_K.p (k_34 hS3) (sm_sh.rf _)).2.1, (sm_K.p (k_34 hS3) (sm_sh.rf _)).2.2, Or.inl rfl⟩, trivial⟩ ?_
  have hS5 : SH (sm_wI M1 34 1 v2) := SH.wI hS3 _ _ _
  have h := h _ hS5 rfl
  generalize sm_wI M1 34 1 v2 = M4 at h hS5 ⊢
  refine sm_w.run t58 sr58 7 3 (M2 := M4) (f2 := (20, [some (.ref 34)], [va_rf (sm_rv M4 34 0), .ref 34])) rfl ⟨trivial, trivial, sm_K.g (k_34 hS5) (sm_sh.rf _), trivial⟩ ?_
  refine sm_w.fld (r_34_0 hS5) ?_
  refine sm_w.run t58 sr58 10 2 (M2 := M4) (f2 := (24, [some (.ref 34)], [.int (iV M4 34 1), .ref 24, .ref 34])) rfl ⟨trivial, sm_K.g (k_34 hS5) (sm_sh.rf _), trivial⟩ ?_
  refine sm_w.cI t58 sr58 12 (i := 59) (as := [.ref 24, .int (iV M4 34 1)]) (g := (24, [some (.ref 34)], [.ref 34])) rfl ⟨by decide, by decide, (Nat.le_of_ble_eq_true rfl), (sm_K.g (kB_0 hS5 fB_24) (sm_sh.rf _)).1, (sm_K.g (kB_0 hS5 fB_24) (sm_sh.rf _)).2, (Nat.le_of_ble_eq_true rfl)⟩ (Nat.le_of_ble_eq_true rfl) (by decide) (sm_cI.s (by decide) hS5 h) (fun v7 M6 h => ?_)
  obtain ⟨hS8, h⟩ := h
  refine sm_w.run t58 sr58 13 1 (M2 := sm_wI M6 34 2 v7) (f2 := (30, [some (.ref 34)], [])) rfl ⟨⟨(sm_K.p (k_34 hS8) (sm_sh.rf _)).1, (sm_K.p (k_34 hS8) (sm_sh.rf _)).2.1, (sm_K.p (k_34 hS8) (sm_sh.rf _)).2.2, Or.inl rfl⟩, trivial⟩ ?_
  have hS10 : SH (sm_wI M6 34 2 v7) := SH.wI hS8 _ _ _
  have h := h _ hS10 rfl
  generalize sm_wI M6 34 2 v7 = M9 at h hS10 ⊢
  exact sm_w.end t58 sr58 14 (o := .returned none) (M2 := M9) rfl trivial (by decide) (⟨rfl, h⟩)
-- 61 LineSetter$HyphenReader.isEndsName()Z
theorem t61 : sP 61 = (1, sp_61, sh_61) := rfl
theorem sr61 : sm_srt sp_61 = true := by decide +kernel
theorem g61_0 {M : sm_M}  {K : Int32 → sm_M → Prop} (hS : SH M)  (h : (q34_0 M 7) ∧ ((((iV M 34 2) - (iV M 34 1)) = (p34_0 M 7) → sm_cI 36 [.ref 24, .ref 7, .int (iV M 34 1)] M (fun v3 M2 => SH M2 → ((v3 = 0 → K (0 : Int32) M2) ∧ (¬ v3 = 0 → K (1 : Int32) M2)))) ∧ (¬ ((iV M 34 2) - (iV M 34 1)) = (p34_0 M 7) → K (0 : Int32) M))) : sm_w 61 (sm_in sP 61 [.ref 34]) M (rI K) := by
  show sm_w 61 (0, [some (.ref 34)], []) M (rI K)
  obtain ⟨c1, h⟩ := h
  refine sm_w.run t61 sr61 0 6 (M2 := M) (f2 := (11, [some (.ref 34)], [.ref 7, .int ((iV M 34 2) - (iV M 34 1))])) rfl ⟨trivial, sm_K.g (k_34 hS) (sm_sh.rf _), trivial, sm_K.g (k_34 hS) (sm_sh.rf _), trivial, trivial, trivial⟩ ?_
  refine sm_w.cI t61 sr61 6 (i := 34) (as := [.ref 7]) (g := (11, [some (.ref 34)], [.int ((iV M 34 2) - (iV M 34 1))])) rfl ⟨by decide, by decide, (Nat.le_of_ble_eq_true rfl), (kN hS fN_7).1, (kN hS fN_7).2, (Nat.le_of_ble_eq_true rfl)⟩ (Nat.le_of_ble_eq_true rfl) (by decide) (p34_c hS fN_7 c1) (fun vz M2 hz => ?_)
  obtain ⟨hz1, hz2⟩ := hz
  subst hz1
  have hz2 := hz2.symm
  subst hz2
  refine sm_w.run t61 sr61 7 1 (M2 := M) (f2 := (if ((iV M 34 2) - (iV M 34 1)) = (p34_0 M 7) then 17 else 37, [some (.ref 34)], [])) rfl ⟨trivial, trivial⟩ ?_
  refine sm_w.ite (fun hc => ?_) (fun hc => ?_)
  · have h := h.1 hc
    refine sm_w.run t61 sr61 8 2 (M2 := M) (f2 := (21, [some (.ref 34)], [va_rf (sm_rv M 34 0)])) rfl ⟨trivial, sm_K.g (k_34 hS) (sm_sh.rf _), trivial⟩ ?_
    refine sm_w.fld (r_34_0 hS) ?_
    refine sm_w.run t61 sr61 10 3 (M2 := M) (f2 := (27, [some (.ref 34)], [.int (iV M 34 1), .ref 7, .ref 24])) rfl ⟨trivial, trivial, sm_K.g (k_34 hS) (sm_sh.rf _), trivial⟩ ?_
    refine sm_w.cI t61 sr61 13 (i := 36) (as := [.ref 24, .ref 7, .int (iV M 34 1)]) (g := (27, [some (.ref 34)], [])) rfl ⟨by decide, by decide, (Nat.le_of_ble_eq_true rfl), (sm_K.g (kB_0 hS fB_24) (sm_sh.rf _)).1, (sm_K.g (kB_0 hS fB_24) (sm_sh.rf _)).2, (Nat.le_of_ble_eq_true rfl)⟩ (Nat.le_of_ble_eq_true rfl) (by decide) (sm_cI.s (by decide) hS h) (fun v3 M2 h => ?_)
    obtain ⟨hS4, h⟩ := h
    refine sm_w.run t61 sr61 14 1 (M2 := M2) (f2 := (if v3 = 0 then 37 else 33, [some (.ref 34)], [])) rfl ⟨trivial, trivial⟩ ?_
    refine sm_w.ite (fun hc => ?_) (fun hc => ?_)
    · have h := h.1 hc
      refine sm_w.run t61 sr61 17 1 (M2 := M2) (f2 := (38, [some (.ref 34)], [.int ((0 : Int32))])) rfl ⟨trivial, trivial⟩ ?_
      exact sm_w.end t61 sr61 18 (o := .returned (some (.int ((0 : Int32))))) (M2 := M2) rfl rfl (by decide) (⟨_, rfl, h⟩)
    · have h := h.2 hc
      refine sm_w.run t61 sr61 15 2 (M2 := M2) (f2 := (38, [some (.ref 34)], [.int ((1 : Int32))])) rfl ⟨trivial, trivial, trivial⟩ ?_
      exact sm_w.end t61 sr61 18 (o := .returned (some (.int ((1 : Int32))))) (M2 := M2) rfl rfl (by decide) (⟨_, rfl, h⟩)
  · have h := h.2 hc
    refine sm_w.run t61 sr61 17 1 (M2 := M) (f2 := (38, [some (.ref 34)], [.int ((0 : Int32))])) rfl ⟨trivial, trivial⟩ ?_
    exact sm_w.end t61 sr61 18 (o := .returned (some (.int ((0 : Int32))))) (M2 := M) rfl rfl (by decide) (⟨_, rfl, h⟩)
-- 63 LineSetter$HyphenTable.tellEnds(II)V
theorem t63 : sP 63 = (3, sp_63, sh_63) := rfl
theorem sr63 : sm_srt sp_63 = true := by decide +kernel
theorem g63_0 {M : sm_M} {x0 : Nat} {x1 : Int32} {x2 : Int32} {K : sm_M → Prop} (hS : SH M) (hx0 : fH x0) (h : ∀ M1, SH M1 → M1 = sm_wI M x0 11 x1 → ∀ M3, SH M3 → M3 = sm_wI M1 x0 12 x2 → K M3) : sm_w 63 (sm_in sP 63 [.ref x0, .int (x1), .int (x2)]) M (rV K) := by
  show sm_w 63 (0, [some (.ref x0), some (.int (x1)), some (.int (x2))], []) M (rV K)
  refine sm_w.run t63 sr63 0 3 (M2 := sm_wI M x0 11 x1) (f2 := (5, [some (.ref x0), some (.int (x1)), some (.int (x2))], [])) rfl ⟨trivial, trivial, ⟨(sm_K.p (kH_0 hS hx0) (sm_sh.rf _)).1, (sm_K.p (kH_0 hS hx0) (sm_sh.rf _)).2.1, (sm_K.p (kH_0 hS hx0) (sm_sh.rf _)).2.2, Or.inl rfl⟩, trivial⟩ ?_
  have hS2 : SH (sm_wI M x0 11 x1) := SH.wI hS _ _ _
  have h := h _ hS2 rfl
  generalize sm_wI M x0 11 x1 = M1 at h hS2 ⊢
  refine sm_w.run t63 sr63 3 3 (M2 := sm_wI M1 x0 12 x2) (f2 := (10, [some (.ref x0), some (.int (x1)), some (.int (x2))], [])) rfl ⟨trivial, trivial, ⟨(sm_K.p (kH_0 hS2 hx0) (sm_sh.rf _)).1, (sm_K.p (kH_0 hS2 hx0) (sm_sh.rf _)).2.1, (sm_K.p (kH_0 hS2 hx0) (sm_sh.rf _)).2.2, Or.inl rfl⟩, trivial⟩ ?_
  have hS4 : SH (sm_wI M1 x0 12 x2) := SH.wI hS2 _ _ _
  have h := h _ hS4 rfl
  generalize sm_wI M1 x0 12 x2 = M3 at h hS4 ⊢
  exact sm_w.end t63 sr63 6 (o := .returned none) (M2 := M3) rfl trivial (by decide) (⟨rfl, h⟩)
-- 62 LineSetter$HyphenReader.readEnds(LLineSetter$HyphenTable;)Z
theorem t62 : sP 62 = (4, sp_62, sh_62) := rfl
theorem sr62 : sm_srt sp_62 = true := by decide +kernel
theorem g62_0 {M : sm_M} {x1 : Nat} {K : Int32 → sm_M → Prop} (hS : SH M) (hx1 : fH x1) (h : (q30_0 M 24 (iV M 34 1)) ∧ (q30_0 M 24 ((iV M 34 1) + (1 : Int32))) ∧ ((((iV M 34 2) - (iV M 34 1)) = (2 : Int32) → ((((p30_0 M 24 (iV M 34 1)) - (48 : Int32)) < (1 : Int32) → K (0 : Int32) M) ∧ (¬ ((p30_0 M 24 (iV M 34 1)) - (48 : Int32)) < (1 : Int32) → (((9 : Int32) < ((p30_0 M 24 (iV M 34 1)) - (48 : Int32)) → K (0 : Int32) M) ∧ (¬ (9 : Int32) < ((p30_0 M 24 (iV M 34 1)) - (48 : Int32)) → ((((p30_0 M 24 ((iV M 34 1) + (1 : Int32))) - (48 : Int32)) < (1 : Int32) → K (0 : Int32) M) ∧ (¬ ((p30_0 M 24 ((iV M 34 1) + (1 : Int32))) - (48 : Int32)) < (1 : Int32) → ((((p30_0 M 24 ((iV M 34 1) + (1 : Int32))) - (48 : Int32)) ≤ (9 : Int32) → ∀ M6, SH M6 → M6 = sm_wI M x1 11 ((p30_0 M 24 (iV M 34 1)) - (48 : Int32)) → ∀ M8, SH M8 → M8 = sm_wI M6 x1 12 ((p30_0 M 24 ((iV M 34 1) + (1 : Int32))) - (48 : Int32)) → K (1 : Int32) M8) ∧ (¬ ((p30_0 M 24 ((iV M 34 1) + (1 : Int32))) - (48 : Int32)) ≤ (9 : Int32) → K (0 : Int32) M))))))))) ∧ (¬ ((iV M 34 2) - (iV M 34 1)) = (2 : Int32) → K (0 : Int32) M))) : sm_w 62 (sm_in sP 62 [.ref 34, .ref x1]) M (rI K) := by
  show sm_w 62 (0, [some (.ref 34), some (.ref x1), none, none], []) M (rI K)
  refine sm_w.run t62 sr62 0 2 (M2 := M) (f2 := (4, [some (.ref 34), some (.ref x1), none, none], [va_rf (sm_rv M 34 0)])) rfl ⟨trivial, sm_K.g (k_34 hS) (sm_sh.rf _), trivial⟩ ?_
  refine sm_w.fld (r_34_0 hS) ?_
  obtain ⟨c1, h⟩ := h
  refine sm_w.run t62 sr62 2 2 (M2 := M) (f2 := (8, [some (.ref 34), some (.ref x1), none, none], [.int (iV M 34 1), .ref 24])) rfl ⟨trivial, sm_K.g (k_34 hS) (sm_sh.rf _), trivial⟩ ?_
  refine sm_w.cI t62 sr62 4 (i := 30) (as := [.ref 24, .int (iV M 34 1)]) (g := (8, [some (.ref 34), some (.ref x1), none, none], [])) rfl ⟨by decide, by decide, (Nat.le_of_ble_eq_true rfl), (sm_K.g (kB_0 hS fB_24) (sm_sh.rf _)).1, (sm_K.g (kB_0 hS fB_24) (sm_sh.rf _)).2, (Nat.le_of_ble_eq_true rfl)⟩ (Nat.le_of_ble_eq_true rfl) (by decide) (p30_c hS fB_24 c1) (fun vz M2 hz => ?_)
  obtain ⟨hz1, hz2⟩ := hz
  subst hz1
  have hz2 := hz2.symm
  subst hz2
  refine sm_w.run t62 sr62 5 5 (M2 := M) (f2 := (19, [some (.ref 34), some (.ref x1), some (.int ((p30_0 M 24 (iV M 34 1)) - (48 : Int32))), none], [va_rf (sm_rv M 34 0)])) rfl ⟨trivial, trivial, (Nat.le_of_ble_eq_true rfl), trivial, sm_K.g (k_34 hS) (sm_sh.rf _), trivial⟩ ?_
  refine sm_w.fld (r_34_0 hS) ?_
  obtain ⟨c2, h⟩ := h
  refine sm_w.run t62 sr62 10 4 (M2 := M) (f2 := (25, [some (.ref 34), some (.ref x1), some (.int ((p30_0 M 24 (iV M 34 1)) - (48 : Int32))), none], [.int ((iV M 34 1) + (1 : Int32)), .ref 24])) rfl ⟨trivial, sm_K.g (k_34 hS) (sm_sh.rf _), trivial, trivial, trivial⟩ ?_
  refine sm_w.cI t62 sr62 14 (i := 30) (as := [.ref 24, .int ((iV M 34 1) + (1 : Int32))]) (g := (25, [some (.ref 34), some (.ref x1), some (.int ((p30_0 M 24 (iV M 34 1)) - (48 : Int32))), none], [])) rfl ⟨by decide, by decide, (Nat.le_of_ble_eq_true rfl), (sm_K.g (kB_0 hS fB_24) (sm_sh.rf _)).1, (sm_K.g (kB_0 hS fB_24) (sm_sh.rf _)).2, (Nat.le_of_ble_eq_true rfl)⟩ (Nat.le_of_ble_eq_true rfl) (by decide) (p30_c hS fB_24 c2) (fun vz M2 hz => ?_)
  obtain ⟨hz1, hz2⟩ := hz
  subst hz1
  have hz2 := hz2.symm
  subst hz2
  refine sm_w.run t62 sr62 15 10 (M2 := M) (f2 := (if ((iV M 34 2) - (iV M 34 1)) = (2 : Int32) then 45 else 67, [some (.ref 34), some (.ref x1), some (.int ((p30_0 M 24 (iV M 34 1)) - (48 : Int32))), some (.int ((p30_0 M 24 ((iV M 34 1) + (1 : Int32))) - (48 : Int32)))], [])) rfl ⟨trivial, trivial, (Nat.le_of_ble_eq_true rfl), trivial, sm_K.g (k_34 hS) (sm_sh.rf _), trivial, sm_K.g (k_34 hS) (sm_sh.rf _), trivial, trivial, trivial, trivial⟩ ?_
  refine sm_w.ite (fun hc => ?_) (fun hc => ?_)
  · have h := h.1 hc
    refine sm_w.run t62 sr62 25 3 (M2 := M) (f2 := (if ((p30_0 M 24 (iV M 34 1)) - (48 : Int32)) < (1 : Int32) then 67 else 50, [some (.ref 34), some (.ref x1), some (.int ((p30_0 M 24 (iV M 34 1)) - (48 : Int32))), some (.int ((p30_0 M 24 ((iV M 34 1) + (1 : Int32))) - (48 : Int32)))], [])) rfl ⟨trivial, trivial, trivial, trivial⟩ ?_
    refine sm_w.ite (fun hc => ?_) (fun hc => ?_)
    · have h := h.1 hc
      refine sm_w.run t62 sr62 37 1 (M2 := M) (f2 := (68, [some (.ref 34), some (.ref x1), some (.int ((p30_0 M 24 (iV M 34 1)) - (48 : Int32))), some (.int ((p30_0 M 24 ((iV M 34 1) + (1 : Int32))) - (48 : Int32)))], [.int ((0 : Int32))])) rfl ⟨trivial, trivial⟩ ?_
      exact sm_w.end t62 sr62 38 (o := .returned (some (.int ((0 : Int32))))) (M2 := M) rfl rfl (by decide) (⟨_, rfl, h⟩)
    · have h := h.2 hc
      refine sm_w.run t62 sr62 28 3 (M2 := M) (f2 := (if (9 : Int32) < ((p30_0 M 24 (iV M 34 1)) - (48 : Int32)) then 67 else 56, [some (.ref 34), some (.ref x1), some (.int ((p30_0 M 24 (iV M 34 1)) - (48 : Int32))), some (.int ((p30_0 M 24 ((iV M 34 1) + (1 : Int32))) - (48 : Int32)))], [])) rfl ⟨trivial, trivial, trivial, trivial⟩ ?_
      refine sm_w.ite (fun hc => ?_) (fun hc => ?_)
      · have h := h.1 hc
        refine sm_w.run t62 sr62 37 1 (M2 := M) (f2 := (68, [some (.ref 34), some (.ref x1), some (.int ((p30_0 M 24 (iV M 34 1)) - (48 : Int32))), some (.int ((p30_0 M 24 ((iV M 34 1) + (1 : Int32))) - (48 : Int32)))], [.int ((0 : Int32))])) rfl ⟨trivial, trivial⟩ ?_
        exact sm_w.end t62 sr62 38 (o := .returned (some (.int ((0 : Int32))))) (M2 := M) rfl rfl (by decide) (⟨_, rfl, h⟩)
      · have h := h.2 hc
        refine sm_w.run t62 sr62 31 3 (M2 := M) (f2 := (if ((p30_0 M 24 ((iV M 34 1) + (1 : Int32))) - (48 : Int32)) < (1 : Int32) then 67 else 61, [some (.ref 34), some (.ref x1), some (.int ((p30_0 M 24 (iV M 34 1)) - (48 : Int32))), some (.int ((p30_0 M 24 ((iV M 34 1) + (1 : Int32))) - (48 : Int32)))], [])) rfl ⟨trivial, trivial, trivial, trivial⟩ ?_
        refine sm_w.ite (fun hc => ?_) (fun hc => ?_)
        · have h := h.1 hc
          refine sm_w.run t62 sr62 37 1 (M2 := M) (f2 := (68, [some (.ref 34), some (.ref x1), some (.int ((p30_0 M 24 (iV M 34 1)) - (48 : Int32))), some (.int ((p30_0 M 24 ((iV M 34 1) + (1 : Int32))) - (48 : Int32)))], [.int ((0 : Int32))])) rfl ⟨trivial, trivial⟩ ?_
          exact sm_w.end t62 sr62 38 (o := .returned (some (.int ((0 : Int32))))) (M2 := M) rfl rfl (by decide) (⟨_, rfl, h⟩)
        · have h := h.2 hc
          refine sm_w.run t62 sr62 34 3 (M2 := M) (f2 := (if ((p30_0 M 24 ((iV M 34 1) + (1 : Int32))) - (48 : Int32)) ≤ (9 : Int32) then 69 else 67, [some (.ref 34), some (.ref x1), some (.int ((p30_0 M 24 (iV M 34 1)) - (48 : Int32))), some (.int ((p30_0 M 24 ((iV M 34 1) + (1 : Int32))) - (48 : Int32)))], [])) rfl ⟨trivial, trivial, trivial, trivial⟩ ?_
          refine sm_w.ite (fun hc => ?_) (fun hc => ?_)
          · have h := h.1 hc
            refine sm_w.run t62 sr62 39 3 (M2 := M) (f2 := (72, [some (.ref 34), some (.ref x1), some (.int ((p30_0 M 24 (iV M 34 1)) - (48 : Int32))), some (.int ((p30_0 M 24 ((iV M 34 1) + (1 : Int32))) - (48 : Int32)))], [.int ((p30_0 M 24 ((iV M 34 1) + (1 : Int32))) - (48 : Int32)), .int ((p30_0 M 24 (iV M 34 1)) - (48 : Int32)), .ref x1])) rfl ⟨trivial, trivial, trivial, trivial⟩ ?_
            refine sm_w.cV t62 sr62 42 (i := 63) (as := [.ref x1, .int ((p30_0 M 24 (iV M 34 1)) - (48 : Int32)), .int ((p30_0 M 24 ((iV M 34 1) + (1 : Int32))) - (48 : Int32))]) (g := (72, [some (.ref 34), some (.ref x1), some (.int ((p30_0 M 24 (iV M 34 1)) - (48 : Int32))), some (.int ((p30_0 M 24 ((iV M 34 1) + (1 : Int32))) - (48 : Int32)))], [])) rfl ⟨by decide, by decide, (Nat.le_of_ble_eq_true rfl), (sm_K.g (kH_0 hS hx1) (sm_sh.rf _)).1, (sm_K.g (kH_0 hS hx1) (sm_sh.rf _)).2, (Nat.le_of_ble_eq_true rfl)⟩ (Nat.le_of_ble_eq_true rfl) (by decide) (sm_cV.s2 (by decide) hS (g63_0 (K := fun M3 => K (1 : Int32) M3) hS hx1 h)) (fun M3 h => ?_)
            obtain ⟨hS5, h⟩ := h
            refine sm_w.run t62 sr62 43 1 (M2 := M3) (f2 := (76, [some (.ref 34), some (.ref x1), some (.int ((p30_0 M 24 (iV M 34 1)) - (48 : Int32))), some (.int ((p30_0 M 24 ((iV M 34 1) + (1 : Int32))) - (48 : Int32)))], [.int ((1 : Int32))])) rfl ⟨trivial, trivial⟩ ?_
            exact sm_w.end t62 sr62 44 (o := .returned (some (.int ((1 : Int32))))) (M2 := M3) rfl rfl (by decide) (⟨_, rfl, h⟩)
          · have h := h.2 hc
            refine sm_w.run t62 sr62 37 1 (M2 := M) (f2 := (68, [some (.ref 34), some (.ref x1), some (.int ((p30_0 M 24 (iV M 34 1)) - (48 : Int32))), some (.int ((p30_0 M 24 ((iV M 34 1) + (1 : Int32))) - (48 : Int32)))], [.int ((0 : Int32))])) rfl ⟨trivial, trivial⟩ ?_
            exact sm_w.end t62 sr62 38 (o := .returned (some (.int ((0 : Int32))))) (M2 := M) rfl rfl (by decide) (⟨_, rfl, h⟩)
  · have h := h.2 hc
    refine sm_w.run t62 sr62 37 1 (M2 := M) (f2 := (68, [some (.ref 34), some (.ref x1), some (.int ((p30_0 M 24 (iV M 34 1)) - (48 : Int32))), some (.int ((p30_0 M 24 ((iV M 34 1) + (1 : Int32))) - (48 : Int32)))], [.int ((0 : Int32))])) rfl ⟨trivial, trivial⟩ ?_
    exact sm_w.end t62 sr62 38 (o := .returned (some (.int ((0 : Int32))))) (M2 := M) rfl rfl (by decide) (⟨_, rfl, h⟩)
-- 66 LineSetter$HyphenReader.addSign(I)Z
theorem t66 : sP 66 = (2, sp_66, sh_66) := rfl
theorem sr66 : sm_srt sp_66 = true := by decide +kernel
theorem g66_0 {M : sm_M} {x1 : Int32} {K : Int32 → sm_M → Prop} (hS : SH M)  (h : (((iV M 34 4) < 0 → K (0 : Int32) M) ∧ (¬ (iV M 34 4) < 0 → (((iV M 34 4) < (30 : Int32) → (vp_in (iV M 34 4) 30) ∧ ∀ M2, SH M2 → M2 = sm_wI M 35 (iV M 34 4).toNatClampNeg x1.toInt8.toInt32.toInt8.toInt32 → ∀ M4, SH M4 → M4 = sm_wI M2 34 4 ((iV M2 34 4) + (1 : Int32)) → K (1 : Int32) M4) ∧ (¬ (iV M 34 4) < (30 : Int32) → K (0 : Int32) M))))) : sm_w 66 (sm_in sP 66 [.ref 34, .int (x1)]) M (rI K) := by
  show sm_w 66 (0, [some (.ref 34), some (.int (x1))], []) M (rI K)
  refine sm_w.run t66 sr66 0 3 (M2 := M) (f2 := (if (iV M 34 4) < 0 then 19 else 7, [some (.ref 34), some (.int (x1))], [])) rfl ⟨trivial, sm_K.g (k_34 hS) (sm_sh.rf _), trivial, trivial⟩ ?_
  refine sm_w.ite (fun hc => ?_) (fun hc => ?_)
  · have h := h.1 hc
    refine sm_w.run t66 sr66 9 1 (M2 := M) (f2 := (20, [some (.ref 34), some (.int (x1))], [.int ((0 : Int32))])) rfl ⟨trivial, trivial⟩ ?_
    exact sm_w.end t66 sr66 10 (o := .returned (some (.int ((0 : Int32))))) (M2 := M) rfl rfl (by decide) (⟨_, rfl, h⟩)
  · have h := h.2 hc
    refine sm_w.run t66 sr66 3 4 (M2 := M) (f2 := (15, [some (.ref 34), some (.int (x1))], [va_rf (sm_rv M 34 3), .int (iV M 34 4)])) rfl ⟨trivial, sm_K.g (k_34 hS) (sm_sh.rf _), trivial, sm_K.g (k_34 hS) (sm_sh.rf _), trivial⟩ ?_
    refine sm_w.fld (r_34_3 hS) ?_
    refine sm_w.run t66 sr66 7 1 (M2 := M) (f2 := (16, [some (.ref 34), some (.int (x1))], [.int (Int32.ofNat (sm_ln M 35)), .int (iV M 34 4)])) rfl ⟨sm_K.l (k_35 hS) (sm_sh.rf _) (by decide), trivial⟩ ?_
    refine sm_w.aln (l_35 hS) ?_
    refine sm_w.run t66 sr66 8 1 (M2 := M) (f2 := (if (iV M 34 4) < (30 : Int32) then 21 else 19, [some (.ref 34), some (.int (x1))], [])) rfl ⟨trivial, trivial⟩ ?_
    refine sm_w.ite (fun hc => ?_) (fun hc => ?_)
    · have h := h.1 hc
      refine sm_w.run t66 sr66 11 2 (M2 := M) (f2 := (25, [some (.ref 34), some (.int (x1))], [va_rf (sm_rv M 34 3)])) rfl ⟨trivial, sm_K.g (k_34 hS) (sm_sh.rf _), trivial⟩ ?_
      refine sm_w.fld (r_34_3 hS) ?_
      obtain ⟨c1, h⟩ := h
      refine sm_w.run t66 sr66 13 5 (M2 := sm_wI M 35 (iV M 34 4).toNatClampNeg x1.toInt8.toInt32.toInt8.toInt32) (f2 := (32, [some (.ref 34), some (.int (x1))], [])) rfl ⟨trivial, sm_K.g (k_34 hS) (sm_sh.rf _), trivial, trivial, sm_K.s2 (k_35 hS) (l_35 hS) c1, trivial⟩ ?_
      have hS3 : SH (sm_wI M 35 (iV M 34 4).toNatClampNeg x1.toInt8.toInt32.toInt8.toInt32) := SH.wI hS _ _ _
      have h := h _ hS3 rfl
      generalize sm_wI M 35 (iV M 34 4).toNatClampNeg x1.toInt8.toInt32.toInt8.toInt32 = M2 at h hS3 ⊢
      refine sm_w.run t66 sr66 18 6 (M2 := sm_wI M2 34 4 ((iV M2 34 4) + (1 : Int32))) (f2 := (42, [some (.ref 34), some (.int (x1))], [])) rfl ⟨trivial, rfl, sm_K.g (k_34 hS3) (sm_sh.rf _), trivial, trivial, ⟨(sm_K.p (k_34 hS3) (sm_sh.rf _)).1, (sm_K.p (k_34 hS3) (sm_sh.rf _)).2.1, (sm_K.p (k_34 hS3) (sm_sh.rf _)).2.2, Or.inl rfl⟩, trivial⟩ ?_
      have hS5 : SH (sm_wI M2 34 4 ((iV M2 34 4) + (1 : Int32))) := SH.wI hS3 _ _ _
      have h := h _ hS5 rfl
      generalize sm_wI M2 34 4 ((iV M2 34 4) + (1 : Int32)) = M4 at h hS5 ⊢
      refine sm_w.run t66 sr66 24 1 (M2 := M4) (f2 := (43, [some (.ref 34), some (.int (x1))], [.int ((1 : Int32))])) rfl ⟨trivial, trivial⟩ ?_
      exact sm_w.end t66 sr66 25 (o := .returned (some (.int ((1 : Int32))))) (M2 := M4) rfl rfl (by decide) (⟨_, rfl, h⟩)
    · have h := h.2 hc
      refine sm_w.run t66 sr66 9 1 (M2 := M) (f2 := (20, [some (.ref 34), some (.int (x1))], [.int ((0 : Int32))])) rfl ⟨trivial, trivial⟩ ?_
      exact sm_w.end t66 sr66 10 (o := .returned (some (.int ((0 : Int32))))) (M2 := M) rfl rfl (by decide) (⟨_, rfl, h⟩)
-- 65 LineSetter$HyphenReader.addLetter(II)Z
theorem t65 : sP 65 = (3, sp_65, sh_65) := rfl
theorem sr65 : sm_srt sp_65 = true := by decide +kernel
theorem g65_0 {M : sm_M} {x1 : Int32} {x2 : Int32} {K : Int32 → sm_M → Prop} (hS : SH M)  (h : (((p41_0 M x1) = 0 → K (0 : Int32) M) ∧ (¬ (p41_0 M x1) = 0 → (((iV M 34 4) < x2 → sm_cI 66 [.ref 34, .int (x1)] M (fun v2 M1 => SH M1 → (v2 = 0 ∨ v2 = 1) ∧ K v2 M1)) ∧ (¬ (iV M 34 4) < x2 → K (0 : Int32) M))))) : sm_w 65 (sm_in sP 65 [.ref 34, .int (x1), .int (x2)]) M (rI K) := by
  show sm_w 65 (0, [some (.ref 34), some (.int (x1)), some (.int (x2))], []) M (rI K)
  refine sm_w.run t65 sr65 0 1 (M2 := M) (f2 := (1, [some (.ref 34), some (.int (x1)), some (.int (x2))], [.int (x1)])) rfl ⟨trivial, trivial⟩ ?_
  refine sm_w.cI t65 sr65 1 (i := 41) (as := [.int (x1)]) (g := (1, [some (.ref 34), some (.int (x1)), some (.int (x2))], [])) rfl ⟨(Nat.le_of_ble_eq_true rfl), (Nat.le_of_ble_eq_true rfl)⟩ (Nat.le_of_ble_eq_true rfl) (by decide) (p41_c hS) (fun vz M2 hz => ?_)
  obtain ⟨hz1, hz2⟩ := hz
  subst hz1
  have hz2 := hz2.symm
  subst hz2
  refine sm_w.run t65 sr65 2 1 (M2 := M) (f2 := (if (p41_0 M x1) = 0 then 15 else 7, [some (.ref 34), some (.int (x1)), some (.int (x2))], [])) rfl ⟨trivial, trivial⟩ ?_
  refine sm_w.ite (fun hc => ?_) (fun hc => ?_)
  · have h := h.1 hc
    refine sm_w.run t65 sr65 7 1 (M2 := M) (f2 := (16, [some (.ref 34), some (.int (x1)), some (.int (x2))], [.int ((0 : Int32))])) rfl ⟨trivial, trivial⟩ ?_
    exact sm_w.end t65 sr65 8 (o := .returned (some (.int ((0 : Int32))))) (M2 := M) rfl rfl (by decide) (⟨_, rfl, h⟩)
  · have h := h.2 hc
    refine sm_w.run t65 sr65 3 4 (M2 := M) (f2 := (if (iV M 34 4) < x2 then 17 else 15, [some (.ref 34), some (.int (x1)), some (.int (x2))], [])) rfl ⟨trivial, sm_K.g (k_34 hS) (sm_sh.rf _), trivial, trivial, trivial⟩ ?_
    refine sm_w.ite (fun hc => ?_) (fun hc => ?_)
    · have h := h.1 hc
      refine sm_w.run t65 sr65 9 2 (M2 := M) (f2 := (19, [some (.ref 34), some (.int (x1)), some (.int (x2))], [.int (x1), .ref 34])) rfl ⟨trivial, trivial, trivial⟩ ?_
      refine sm_w.cI t65 sr65 11 (i := 66) (as := [.ref 34, .int (x1)]) (g := (19, [some (.ref 34), some (.int (x1)), some (.int (x2))], [])) rfl ⟨by decide, by decide, (Nat.le_of_ble_eq_true rfl), (sm_K.g (k_34 hS) (sm_sh.rf _)).1, (sm_K.g (k_34 hS) (sm_sh.rf _)).2, (Nat.le_of_ble_eq_true rfl)⟩ (Nat.le_of_ble_eq_true rfl) (by decide) (sm_cI.s (by decide) hS h) (fun v2 M1 h => ?_)
      obtain ⟨hS3, h⟩ := h
      obtain ⟨c4, h⟩ := h
      exact sm_w.end t65 sr65 12 (o := .returned (some (.int (v2)))) (M2 := M1) rfl (nar3 c4) (by decide) (⟨_, rfl, h⟩)
    · have h := h.2 hc
      refine sm_w.run t65 sr65 7 1 (M2 := M) (f2 := (16, [some (.ref 34), some (.int (x1)), some (.int (x2))], [.int ((0 : Int32))])) rfl ⟨trivial, trivial⟩ ?_
      exact sm_w.end t65 sr65 8 (o := .returned (some (.int ((0 : Int32))))) (M2 := M) rfl rfl (by decide) (⟨_, rfl, h⟩)
-- 70 LineSetter.smallLetter(I)I
theorem t70 : sP 70 = (1, sp_70, sh_70) := rfl
theorem sr70 : sm_srt sp_70 = true := by decide +kernel
theorem g70_0 {M : sm_M} {x0 : Int32} {K : Int32 → sm_M → Prop} (hS : SH M)  (h : ((x0 < (65 : Int32) → K x0 M) ∧ (¬ x0 < (65 : Int32) → (((90 : Int32) < x0 → K x0 M) ∧ (¬ (90 : Int32) < x0 → K ((x0 - (65 : Int32)) + (97 : Int32)) M))))) : sm_w 70 (sm_in sP 70 [.int (x0)]) M (rI K) := by
  show sm_w 70 (0, [some (.int (x0))], []) M (rI K)
  refine sm_w.run t70 sr70 0 3 (M2 := M) (f2 := (if x0 < (65 : Int32) then 22 else 6, [some (.int (x0))], [])) rfl ⟨trivial, trivial, trivial, trivial⟩ ?_
  refine sm_w.ite (fun hc => ?_) (fun hc => ?_)
  · have h := h.1 hc
    refine sm_w.run t70 sr70 12 1 (M2 := M) (f2 := (23, [some (.int (x0))], [.int (x0)])) rfl ⟨trivial, trivial⟩ ?_
    exact sm_w.end t70 sr70 13 (o := .returned (some (.int (x0)))) (M2 := M) rfl rfl (by decide) (⟨_, rfl, h⟩)
  · have h := h.2 hc
    refine sm_w.run t70 sr70 3 3 (M2 := M) (f2 := (if (90 : Int32) < x0 then 22 else 12, [some (.int (x0))], [])) rfl ⟨trivial, trivial, trivial, trivial⟩ ?_
    refine sm_w.ite (fun hc => ?_) (fun hc => ?_)
    · have h := h.1 hc
      refine sm_w.run t70 sr70 12 1 (M2 := M) (f2 := (23, [some (.int (x0))], [.int (x0)])) rfl ⟨trivial, trivial⟩ ?_
      exact sm_w.end t70 sr70 13 (o := .returned (some (.int (x0)))) (M2 := M) rfl rfl (by decide) (⟨_, rfl, h⟩)
    · have h := h.2 hc
      refine sm_w.run t70 sr70 6 6 (M2 := M) (f2 := (23, [some (.int (x0))], [.int ((x0 - (65 : Int32)) + (97 : Int32))])) rfl ⟨trivial, trivial, trivial, trivial, trivial, trivial, trivial⟩ ?_
      exact sm_w.end t70 sr70 13 (o := .returned (some (.int ((x0 - (65 : Int32)) + (97 : Int32))))) (M2 := M) rfl rfl (by decide) (⟨_, rfl, h⟩)
def p70_0 (M : sm_M) (x0 : Int32) : Int32 := if x0 < (65 : Int32) then x0 else (if (90 : Int32) < x0 then x0 else ((x0 - (65 : Int32)) + (97 : Int32)))
theorem p70_c {M : sm_M} {x0 : Int32} (hS : SH M)  : sm_cI 70 [.int (x0)] M (fun v M2 => v = p70_0 M x0 ∧ M2 = M) := by
  refine g70_0 (K := (fun v M2 => v = p70_0 M x0 ∧ M2 = M)) hS ?_
  refine ⟨fun e1 => ?_, fun e1 => ?_⟩
  · refine ⟨?_, rfl⟩
    unfold p70_0
    rw [if_pos e1]
  · refine ⟨fun e2 => ?_, fun e2 => ?_⟩
    · refine ⟨?_, rfl⟩
      unfold p70_0
      rw [if_neg e1, if_pos e2]
    · refine ⟨?_, rfl⟩
      unfold p70_0
      rw [if_neg e1, if_neg e2]
