/-! METHODS by their segments. -/
-- 9 java/util/Arrays.fill([II)V
theorem t9 : sP 9 = (4, sp_9, sh_9) := rfl
theorem sr9 : sm_srt sp_9 = true := by decide +kernel
theorem g9_0 {M : sm_M} {x0 : Nat} {nx0 : Nat} {x1 : Int32} {K : sm_M → Prop} (hS : SH M) (hx0 : sA x0 0 nx0) (h : sm_w 9 (5, [some (.ref x0), some (.int (x1)), some (.int ((0 : Int32))), some (.int (Int32.ofNat nx0))], []) M (rV K)) : sm_w 9 (sm_in sP 9 [.ref x0, .int (x1)]) M (rV K) := by
  show sm_w 9 (0, [some (.ref x0), some (.int (x1)), none, none], []) M (rV K)
  refine sm_w.run t9 sr9 0 4 (M2 := M) (f2 := (4, [some (.ref x0), some (.int (x1)), some (.int ((0 : Int32))), none], [.int (Int32.ofNat (sm_ln M x0))])) rfl ⟨trivial, (Nat.le_of_ble_eq_true rfl), trivial, sm_K.l (hx0.K hS) (sm_sh.rf _) (by decide), trivial⟩ ?_
  refine sm_w.aln (hx0.L hS) ?_
  refine sm_w.run t9 sr9 4 1 (M2 := M) (f2 := (5, [some (.ref x0), some (.int (x1)), some (.int ((0 : Int32))), some (.int (Int32.ofNat nx0))], [])) rfl ⟨(Nat.le_of_ble_eq_true rfl), trivial⟩ ?_
  exact h
theorem g9_1 {M : sm_M} {x0 : Nat} {nx0 : Nat} {x1 : Int32} {x2 : Int32} {x3 : Int32} {K : sm_M → Prop} (hS : SH M) (hx0 : sA x0 0 nx0) (h : ((x3 ≤ x2 → K M) ∧ (¬ x3 ≤ x2 → (vp_in x2 nx0) ∧ ∀ M2, SH M2 → M2 = sm_wI M x0 x2.toNatClampNeg x1 → sm_w 9 (5, [some (.ref x0), some (.int (x1)), some (.int (x2 + (1 : Int32))), some (.int (x3))], []) M2 (rV K)))) : sm_w 9 (5, [some (.ref x0), some (.int (x1)), some (.int (x2)), some (.int (x3))], []) M (rV K) := by
  refine sm_w.run t9 sr9 5 3 (M2 := M) (f2 := (if x3 ≤ x2 then 20 else 10, [some (.ref x0), some (.int (x1)), some (.int (x2)), some (.int (x3))], [])) rfl ⟨trivial, trivial, trivial, trivial⟩ ?_
  refine sm_w.ite (fun hc => ?_) (fun hc => ?_)
  · have h := h.1 hc
    exact sm_w.end t9 sr9 14 (o := .returned none) (M2 := M) rfl trivial (by decide) (⟨rfl, h⟩)
  · have h := h.2 hc
    obtain ⟨c1, h⟩ := h
    refine sm_w.run t9 sr9 8 4 (M2 := sm_wI M x0 x2.toNatClampNeg x1) (f2 := (14, [some (.ref x0), some (.int (x1)), some (.int (x2)), some (.int (x3))], [])) rfl ⟨trivial, trivial, trivial, sm_K.s2 (hx0.K hS) (hx0.L hS) c1, trivial⟩ ?_
    have hS3 : SH (sm_wI M x0 x2.toNatClampNeg x1) := SH.wI hS _ _ _
    have h := h _ hS3 rfl
    generalize sm_wI M x0 x2.toNatClampNeg x1 = M2 at h hS3 ⊢
    refine sm_w.run t9 sr9 12 2 (M2 := M2) (f2 := (5, [some (.ref x0), some (.int (x1)), some (.int (x2 + (1 : Int32))), some (.int (x3))], [])) rfl ⟨(Nat.le_of_ble_eq_true rfl), trivial, trivial⟩ ?_
    exact h
-- 11 LineSetter$HyphenTable.forget()V
theorem t11 : sP 11 = (1, sp_11, sh_11) := rfl
theorem sr11 : sm_srt sp_11 = true := by decide +kernel
theorem g11_0 {M : sm_M} {x0 : Nat} {K : sm_M → Prop} (hS : SH M) (hx0 : fH x0) (h : (vp_in (0 : Int32) 4201) ∧ ∀ M2, SH M2 → M2 = sm_wI M (x0 + 1) (0 : Int32).toNatClampNeg (-1 : Int32) → (vp_in (0 : Int32) 4201) ∧ ∀ M5, SH M5 → M5 = sm_wI M2 (x0 + 2) (0 : Int32).toNatClampNeg (-1 : Int32) → (vp_in (0 : Int32) 4201) ∧ ∀ M8, SH M8 → M8 = sm_wI M5 (x0 + 4) (0 : Int32).toNatClampNeg (-1 : Int32) → ∀ M10, SH M10 → M10 = sm_wI M8 x0 4 (1 : Int32) → ∀ M12, SH M12 → M12 = sm_wI M10 x0 6 (0 : Int32) → ∀ M14, SH M14 → M14 = sm_wI M12 x0 10 (0 : Int32) → ∀ M16, SH M16 → M16 = sm_wI M14 x0 11 (2 : Int32) → ∀ M18, SH M18 → M18 = sm_wI M16 x0 12 (3 : Int32) → K M18) : sm_w 11 (sm_in sP 11 [.ref x0]) M (rV K) := by
  show sm_w 11 (0, [some (.ref x0)], []) M (rV K)
  refine sm_w.run t11 sr11 0 2 (M2 := M) (f2 := (4, [some (.ref x0)], [va_rf (sm_rv M x0 0)])) rfl ⟨trivial, sm_K.g (kH_0 hS hx0) (sm_sh.rf _), trivial⟩ ?_
  refine sm_w.fld (rH_0 hS hx0) ?_
  obtain ⟨c1, h⟩ := h
  refine sm_w.run t11 sr11 2 3 (M2 := sm_wI M (x0 + 1) (0 : Int32).toNatClampNeg (-1 : Int32)) (f2 := (7, [some (.ref x0)], [])) rfl ⟨trivial, trivial, sm_K.s2 (kH_1 hS hx0) (lH_1 hS hx0) c1, trivial⟩ ?_
  have hS3 : SH (sm_wI M (x0 + 1) (0 : Int32).toNatClampNeg (-1 : Int32)) := SH.wI hS _ _ _
  have h := h _ hS3 rfl
  generalize sm_wI M (x0 + 1) (0 : Int32).toNatClampNeg (-1 : Int32) = M2 at h hS3 ⊢
  refine sm_w.run t11 sr11 5 2 (M2 := M2) (f2 := (11, [some (.ref x0)], [va_rf (sm_rv M2 x0 1)])) rfl ⟨trivial, sm_K.g (kH_0 hS3 hx0) (sm_sh.rf _), trivial⟩ ?_
  refine sm_w.fld (rH_1 hS3 hx0) ?_
  obtain ⟨c4, h⟩ := h
  refine sm_w.run t11 sr11 7 3 (M2 := sm_wI M2 (x0 + 2) (0 : Int32).toNatClampNeg (-1 : Int32)) (f2 := (14, [some (.ref x0)], [])) rfl ⟨trivial, trivial, sm_K.s2 (kH_2 hS3 hx0) (lH_2 hS3 hx0) c4, trivial⟩ ?_
  have hS6 : SH (sm_wI M2 (x0 + 2) (0 : Int32).toNatClampNeg (-1 : Int32)) := SH.wI hS3 _ _ _
  have h := h _ hS6 rfl
  generalize sm_wI M2 (x0 + 2) (0 : Int32).toNatClampNeg (-1 : Int32) = M5 at h hS6 ⊢
  refine sm_w.run t11 sr11 10 2 (M2 := M5) (f2 := (18, [some (.ref x0)], [va_rf (sm_rv M5 x0 3)])) rfl ⟨trivial, sm_K.g (kH_0 hS6 hx0) (sm_sh.rf _), trivial⟩ ?_
  refine sm_w.fld (rH_3 hS6 hx0) ?_
  obtain ⟨c7, h⟩ := h
  refine sm_w.run t11 sr11 12 3 (M2 := sm_wI M5 (x0 + 4) (0 : Int32).toNatClampNeg (-1 : Int32)) (f2 := (21, [some (.ref x0)], [])) rfl ⟨trivial, trivial, sm_K.s2 (kH_4 hS6 hx0) (lH_4 hS6 hx0) c7, trivial⟩ ?_
  have hS9 : SH (sm_wI M5 (x0 + 4) (0 : Int32).toNatClampNeg (-1 : Int32)) := SH.wI hS6 _ _ _
  have h := h _ hS9 rfl
  generalize sm_wI M5 (x0 + 4) (0 : Int32).toNatClampNeg (-1 : Int32) = M8 at h hS9 ⊢
  refine sm_w.run t11 sr11 15 3 (M2 := sm_wI M8 x0 4 (1 : Int32)) (f2 := (26, [some (.ref x0)], [])) rfl ⟨trivial, trivial, ⟨(sm_K.p (kH_0 hS9 hx0) (sm_sh.rf _)).1, (sm_K.p (kH_0 hS9 hx0) (sm_sh.rf _)).2.1, (sm_K.p (kH_0 hS9 hx0) (sm_sh.rf _)).2.2, Or.inl rfl⟩, trivial⟩ ?_
  have hS11 : SH (sm_wI M8 x0 4 (1 : Int32)) := SH.wI hS9 _ _ _
  have h := h _ hS11 rfl
  generalize sm_wI M8 x0 4 (1 : Int32) = M10 at h hS11 ⊢
  refine sm_w.run t11 sr11 18 3 (M2 := sm_wI M10 x0 6 (0 : Int32)) (f2 := (31, [some (.ref x0)], [])) rfl ⟨trivial, trivial, ⟨(sm_K.p (kH_0 hS11 hx0) (sm_sh.rf _)).1, (sm_K.p (kH_0 hS11 hx0) (sm_sh.rf _)).2.1, (sm_K.p (kH_0 hS11 hx0) (sm_sh.rf _)).2.2, Or.inl rfl⟩, trivial⟩ ?_
  have hS13 : SH (sm_wI M10 x0 6 (0 : Int32)) := SH.wI hS11 _ _ _
  have h := h _ hS13 rfl
  generalize sm_wI M10 x0 6 (0 : Int32) = M12 at h hS13 ⊢
  refine sm_w.run t11 sr11 21 3 (M2 := sm_wI M12 x0 10 (0 : Int32)) (f2 := (36, [some (.ref x0)], [])) rfl ⟨trivial, trivial, ⟨(sm_K.p (kH_0 hS13 hx0) (sm_sh.rf _)).1, (sm_K.p (kH_0 hS13 hx0) (sm_sh.rf _)).2.1, (sm_K.p (kH_0 hS13 hx0) (sm_sh.rf _)).2.2, Or.inl rfl⟩, trivial⟩ ?_
  have hS15 : SH (sm_wI M12 x0 10 (0 : Int32)) := SH.wI hS13 _ _ _
  have h := h _ hS15 rfl
  generalize sm_wI M12 x0 10 (0 : Int32) = M14 at h hS15 ⊢
  refine sm_w.run t11 sr11 24 3 (M2 := sm_wI M14 x0 11 (2 : Int32)) (f2 := (41, [some (.ref x0)], [])) rfl ⟨trivial, trivial, ⟨(sm_K.p (kH_0 hS15 hx0) (sm_sh.rf _)).1, (sm_K.p (kH_0 hS15 hx0) (sm_sh.rf _)).2.1, (sm_K.p (kH_0 hS15 hx0) (sm_sh.rf _)).2.2, Or.inl rfl⟩, trivial⟩ ?_
  have hS17 : SH (sm_wI M14 x0 11 (2 : Int32)) := SH.wI hS15 _ _ _
  have h := h _ hS17 rfl
  generalize sm_wI M14 x0 11 (2 : Int32) = M16 at h hS17 ⊢
  refine sm_w.run t11 sr11 27 3 (M2 := sm_wI M16 x0 12 (3 : Int32)) (f2 := (46, [some (.ref x0)], [])) rfl ⟨trivial, trivial, ⟨(sm_K.p (kH_0 hS17 hx0) (sm_sh.rf _)).1, (sm_K.p (kH_0 hS17 hx0) (sm_sh.rf _)).2.1, (sm_K.p (kH_0 hS17 hx0) (sm_sh.rf _)).2.2, Or.inl rfl⟩, trivial⟩ ?_
  have hS19 : SH (sm_wI M16 x0 12 (3 : Int32)) := SH.wI hS17 _ _ _
  have h := h _ hS19 rfl
  generalize sm_wI M16 x0 12 (3 : Int32) = M18 at h hS19 ⊢
  exact sm_w.end t11 sr11 30 (o := .returned none) (M2 := M18) rfl trivial (by decide) (⟨rfl, h⟩)
-- 14 LineSetter.place()I
theorem t14 : sP 14 = (1, sp_14, sh_14) := rfl
theorem sr14 : sm_srt sp_14 = true := by decide +kernel
theorem g14_0 {M : sm_M}  {K : Int32 → sm_M → Prop} (hS : SH M)  (h : K (iV M 23 16) M) : sm_w 14 (sm_in sP 14 [.ref 23]) M (rI K) := by
  show sm_w 14 (0, [some (.ref 23)], []) M (rI K)
  refine sm_w.run t14 sr14 0 2 (M2 := M) (f2 := (4, [some (.ref 23)], [.int (iV M 23 16)])) rfl ⟨trivial, sm_K.g (k_23 hS) (sm_sh.rf _), trivial⟩ ?_
  exact sm_w.end t14 sr14 2 (o := .returned (some (.int (iV M 23 16)))) (M2 := M) rfl rfl (by decide) (⟨_, rfl, h⟩)
def p14_0 (M : sm_M) : Int32 := iV M 23 16
theorem p14_c {M : sm_M}  (hS : SH M)  : sm_cI 14 [.ref 23] M (fun v M2 => v = p14_0 M ∧ M2 = M) := by
  refine g14_0 (K := (fun v M2 => v = p14_0 M ∧ M2 = M)) hS ?_
  exact ⟨rfl, rfl⟩
-- 16 LineSetter$Paragraph.empty()I
theorem t16 : sP 16 = (2, sp_16, sh_16) := rfl
theorem sr16 : sm_srt sp_16 = true := by decide +kernel
theorem g16_0 {M : sm_M}  {K : Int32 → sm_M → Prop} (hS : SH M)  (h : ∀ M1, SH M1 → M1 = sm_wI M 30 2 (0 : Int32) → ∀ M3, SH M3 → M3 = sm_wI M1 30 3 (0 : Int32) → K (iV M 30 2) M3) : sm_w 16 (sm_in sP 16 [.ref 30]) M (rI K) := by
  show sm_w 16 (0, [some (.ref 30), none], []) M (rI K)
  refine sm_w.run t16 sr16 0 6 (M2 := sm_wI M 30 2 (0 : Int32)) (f2 := (10, [some (.ref 30), some (.int (iV M 30 2))], [])) rfl ⟨trivial, sm_K.g (k_30 hS) (sm_sh.rf _), (Nat.le_of_ble_eq_true rfl), trivial, trivial, ⟨(sm_K.p (k_30 hS) (sm_sh.rf _)).1, (sm_K.p (k_30 hS) (sm_sh.rf _)).2.1, (sm_K.p (k_30 hS) (sm_sh.rf _)).2.2, Or.inl rfl⟩, trivial⟩ ?_
  have hS2 : SH (sm_wI M 30 2 (0 : Int32)) := SH.wI hS _ _ _
  have h := h _ hS2 rfl
  generalize sm_wI M 30 2 (0 : Int32) = M1 at h hS2 ⊢
  refine sm_w.run t16 sr16 6 3 (M2 := sm_wI M1 30 3 (0 : Int32)) (f2 := (15, [some (.ref 30), some (.int (iV M 30 2))], [])) rfl ⟨trivial, trivial, ⟨(sm_K.p (k_30 hS2) (sm_sh.rf _)).1, (sm_K.p (k_30 hS2) (sm_sh.rf _)).2.1, (sm_K.p (k_30 hS2) (sm_sh.rf _)).2.2, Or.inl rfl⟩, trivial⟩ ?_
  have hS4 : SH (sm_wI M1 30 3 (0 : Int32)) := SH.wI hS2 _ _ _
  have h := h _ hS4 rfl
  generalize sm_wI M1 30 3 (0 : Int32) = M3 at h hS4 ⊢
  refine sm_w.run t16 sr16 9 1 (M2 := M3) (f2 := (16, [some (.ref 30), some (.int (iV M 30 2))], [.int (iV M 30 2)])) rfl ⟨trivial, trivial⟩ ?_
  exact sm_w.end t16 sr16 10 (o := .returned (some (.int (iV M 30 2)))) (M2 := M3) rfl rfl (by decide) (⟨_, rfl, h⟩)
-- 15 LineSetter.clear()I
theorem t15 : sP 15 = (1, sp_15, sh_15) := rfl
theorem sr15 : sm_srt sp_15 = true := by decide +kernel
theorem g15_0 {M : sm_M}  {K : Int32 → sm_M → Prop} (hS : SH M)  (h : ∀ M4, SH M4 → M4 = sm_wI M 30 2 (0 : Int32) → ∀ M6, SH M6 → M6 = sm_wI M4 30 3 (0 : Int32) → K (iV M 30 2) M6) : sm_w 15 (sm_in sP 15 [.ref 23]) M (rI K) := by
  show sm_w 15 (0, [some (.ref 23)], []) M (rI K)
  refine sm_w.run t15 sr15 0 2 (M2 := M) (f2 := (4, [some (.ref 23)], [va_rf (sm_rv M 23 4)])) rfl ⟨trivial, sm_K.g (k_23 hS) (sm_sh.rf _), trivial⟩ ?_
  refine sm_w.fld (r_23_4 hS) ?_
  refine sm_w.cI t15 sr15 2 (i := 16) (as := [.ref 30]) (g := (4, [some (.ref 23)], [])) rfl ⟨by decide, by decide, (Nat.le_of_ble_eq_true rfl), (sm_K.g (k_30 hS) (sm_sh.rf _)).1, (sm_K.g (k_30 hS) (sm_sh.rf _)).2, (Nat.le_of_ble_eq_true rfl)⟩ (Nat.le_of_ble_eq_true rfl) (by decide) (sm_cI.s2 (by decide) hS (g16_0 (K := fun v2 M1 => K v2 M1) hS h)) (fun v2 M1 h => ?_)
  obtain ⟨hS3, h⟩ := h
  exact sm_w.end t15 sr15 3 (o := .returned (some (.int (v2)))) (M2 := M1) rfl rfl (by decide) (⟨_, rfl, h⟩)
-- 20 LineSetter$Bytes.add(I)V
theorem t20 : sP 20 = (2, sp_20, sh_20) := rfl
theorem sr20 : sm_srt sp_20 = true := by decide +kernel
theorem g20_0 {M : sm_M} {x0 : Nat} {x1 : Int32} {K : sm_M → Prop} (hS : SH M) (hx0 : fB x0) (h : (((iV M x0 1) < 0 → K M) ∧ (¬ (iV M x0 1) < 0 → (((Int32.ofNat (cB x0)) ≤ (iV M x0 1) → K M) ∧ (¬ (Int32.ofNat (cB x0)) ≤ (iV M x0 1) → (vp_in (iV M x0 1) (cB x0)) ∧ ∀ M2, SH M2 → M2 = sm_wI M (x0 + 1) (iV M x0 1).toNatClampNeg x1.toInt8.toInt32.toInt8.toInt32 → ∀ M4, SH M4 → M4 = sm_wI M2 x0 1 ((iV M2 x0 1) + (1 : Int32)) → K M4))))) : sm_w 20 (sm_in sP 20 [.ref x0, .int (x1)]) M (rV K) := by
  show sm_w 20 (0, [some (.ref x0), some (.int (x1))], []) M (rV K)
  refine sm_w.run t20 sr20 0 3 (M2 := M) (f2 := (if (iV M x0 1) < 0 then 40 else 7, [some (.ref x0), some (.int (x1))], [])) rfl ⟨trivial, sm_K.g (kB_0 hS hx0) (sm_sh.rf _), trivial, trivial⟩ ?_
  refine sm_w.ite (fun hc => ?_) (fun hc => ?_)
  · have h := h.1 hc
    exact sm_w.end t20 sr20 22 (o := .returned none) (M2 := M) rfl trivial (by decide) (⟨rfl, h⟩)
  · have h := h.2 hc
    refine sm_w.run t20 sr20 3 4 (M2 := M) (f2 := (15, [some (.ref x0), some (.int (x1))], [va_rf (sm_rv M x0 0), .int (iV M x0 1)])) rfl ⟨trivial, sm_K.g (kB_0 hS hx0) (sm_sh.rf _), trivial, sm_K.g (kB_0 hS hx0) (sm_sh.rf _), trivial⟩ ?_
    refine sm_w.fld (rB_0 hS hx0) ?_
    refine sm_w.run t20 sr20 7 1 (M2 := M) (f2 := (16, [some (.ref x0), some (.int (x1))], [.int (Int32.ofNat (sm_ln M (x0 + 1))), .int (iV M x0 1)])) rfl ⟨sm_K.l (kB_1 hS hx0) (sm_sh.rf _) (by decide), trivial⟩ ?_
    refine sm_w.aln (lB_1 hS hx0) ?_
    refine sm_w.run t20 sr20 8 1 (M2 := M) (f2 := (if (Int32.ofNat (cB x0)) ≤ (iV M x0 1) then 40 else 19, [some (.ref x0), some (.int (x1))], [])) rfl ⟨trivial, trivial⟩ ?_
    refine sm_w.ite (fun hc => ?_) (fun hc => ?_)
    · have h := h.1 hc
      exact sm_w.end t20 sr20 22 (o := .returned none) (M2 := M) rfl trivial (by decide) (⟨rfl, h⟩)
    · have h := h.2 hc
      refine sm_w.run t20 sr20 9 2 (M2 := M) (f2 := (23, [some (.ref x0), some (.int (x1))], [va_rf (sm_rv M x0 0)])) rfl ⟨trivial, sm_K.g (kB_0 hS hx0) (sm_sh.rf _), trivial⟩ ?_
      refine sm_w.fld (rB_0 hS hx0) ?_
      obtain ⟨c1, h⟩ := h
      refine sm_w.run t20 sr20 11 5 (M2 := sm_wI M (x0 + 1) (iV M x0 1).toNatClampNeg x1.toInt8.toInt32.toInt8.toInt32) (f2 := (30, [some (.ref x0), some (.int (x1))], [])) rfl ⟨trivial, sm_K.g (kB_0 hS hx0) (sm_sh.rf _), trivial, trivial, sm_K.s2 (kB_1 hS hx0) (lB_1 hS hx0) c1, trivial⟩ ?_
      have hS3 : SH (sm_wI M (x0 + 1) (iV M x0 1).toNatClampNeg x1.toInt8.toInt32.toInt8.toInt32) := SH.wI hS _ _ _
      have h := h _ hS3 rfl
      generalize sm_wI M (x0 + 1) (iV M x0 1).toNatClampNeg x1.toInt8.toInt32.toInt8.toInt32 = M2 at h hS3 ⊢
      refine sm_w.run t20 sr20 16 6 (M2 := sm_wI M2 x0 1 ((iV M2 x0 1) + (1 : Int32))) (f2 := (40, [some (.ref x0), some (.int (x1))], [])) rfl ⟨trivial, rfl, sm_K.g (kB_0 hS3 hx0) (sm_sh.rf _), trivial, trivial, ⟨(sm_K.p (kB_0 hS3 hx0) (sm_sh.rf _)).1, (sm_K.p (kB_0 hS3 hx0) (sm_sh.rf _)).2.1, (sm_K.p (kB_0 hS3 hx0) (sm_sh.rf _)).2.2, Or.inl rfl⟩, trivial⟩ ?_
      have hS5 : SH (sm_wI M2 x0 1 ((iV M2 x0 1) + (1 : Int32))) := SH.wI hS3 _ _ _
      have h := h _ hS5 rfl
      generalize sm_wI M2 x0 1 ((iV M2 x0 1) + (1 : Int32)) = M4 at h hS5 ⊢
      exact sm_w.end t20 sr20 22 (o := .returned none) (M2 := M4) rfl trivial (by decide) (⟨rfl, h⟩)
-- 19 LineSetter$Bytes.addInt(I)V
theorem t19 : sP 19 = (2, sp_19, sh_19) := rfl
theorem sr19 : sm_srt sp_19 = true := by decide +kernel
theorem g19_0 {M : sm_M} {x0 : Nat} {x1 : Int32} {K : sm_M → Prop} (hS : SH M) (hx0 : fB x0) (h : sm_cV 20 [.ref x0, .int (x1 >>> ((24 : Int32) &&& 31))] M (fun M1 => SH M1 → sm_cV 20 [.ref x0, .int (x1 >>> ((16 : Int32) &&& 31))] M1 (fun M4 => SH M4 → sm_cV 20 [.ref x0, .int (x1 >>> ((8 : Int32) &&& 31))] M4 (fun M7 => SH M7 → sm_cV 20 [.ref x0, .int (x1)] M7 (fun M10 => SH M10 → K M10))))) : sm_w 19 (sm_in sP 19 [.ref x0, .int (x1)]) M (rV K) := by
  show sm_w 19 (0, [some (.ref x0), some (.int (x1))], []) M (rV K)
  refine sm_w.run t19 sr19 0 4 (M2 := M) (f2 := (5, [some (.ref x0), some (.int (x1))], [.int (x1 >>> ((24 : Int32) &&& 31)), .ref x0])) rfl ⟨trivial, trivial, trivial, trivial, trivial⟩ ?_
  refine sm_w.cV t19 sr19 4 (i := 20) (as := [.ref x0, .int (x1 >>> ((24 : Int32) &&& 31))]) (g := (5, [some (.ref x0), some (.int (x1))], [])) rfl ⟨by decide, by decide, (Nat.le_of_ble_eq_true rfl), (sm_K.g (kB_0 hS hx0) (sm_sh.rf _)).1, (sm_K.g (kB_0 hS hx0) (sm_sh.rf _)).2, (Nat.le_of_ble_eq_true rfl)⟩ (Nat.le_of_ble_eq_true rfl) (by decide) (sm_cV.s (by decide) hS h) (fun M1 h => ?_)
  obtain ⟨hS3, h⟩ := h
  refine sm_w.run t19 sr19 5 4 (M2 := M1) (f2 := (13, [some (.ref x0), some (.int (x1))], [.int (x1 >>> ((16 : Int32) &&& 31)), .ref x0])) rfl ⟨trivial, trivial, trivial, trivial, trivial⟩ ?_
  refine sm_w.cV t19 sr19 9 (i := 20) (as := [.ref x0, .int (x1 >>> ((16 : Int32) &&& 31))]) (g := (13, [some (.ref x0), some (.int (x1))], [])) rfl ⟨by decide, by decide, (Nat.le_of_ble_eq_true rfl), (sm_K.g (kB_0 hS3 hx0) (sm_sh.rf _)).1, (sm_K.g (kB_0 hS3 hx0) (sm_sh.rf _)).2, (Nat.le_of_ble_eq_true rfl)⟩ (Nat.le_of_ble_eq_true rfl) (by decide) (sm_cV.s (by decide) hS3 h) (fun M4 h => ?_)
  obtain ⟨hS6, h⟩ := h
  refine sm_w.run t19 sr19 10 4 (M2 := M4) (f2 := (21, [some (.ref x0), some (.int (x1))], [.int (x1 >>> ((8 : Int32) &&& 31)), .ref x0])) rfl ⟨trivial, trivial, trivial, trivial, trivial⟩ ?_
  refine sm_w.cV t19 sr19 14 (i := 20) (as := [.ref x0, .int (x1 >>> ((8 : Int32) &&& 31))]) (g := (21, [some (.ref x0), some (.int (x1))], [])) rfl ⟨by decide, by decide, (Nat.le_of_ble_eq_true rfl), (sm_K.g (kB_0 hS6 hx0) (sm_sh.rf _)).1, (sm_K.g (kB_0 hS6 hx0) (sm_sh.rf _)).2, (Nat.le_of_ble_eq_true rfl)⟩ (Nat.le_of_ble_eq_true rfl) (by decide) (sm_cV.s (by decide) hS6 h) (fun M7 h => ?_)
  obtain ⟨hS9, h⟩ := h
  refine sm_w.run t19 sr19 15 2 (M2 := M7) (f2 := (26, [some (.ref x0), some (.int (x1))], [.int (x1), .ref x0])) rfl ⟨trivial, trivial, trivial⟩ ?_
  refine sm_w.cV t19 sr19 17 (i := 20) (as := [.ref x0, .int (x1)]) (g := (26, [some (.ref x0), some (.int (x1))], [])) rfl ⟨by decide, by decide, (Nat.le_of_ble_eq_true rfl), (sm_K.g (kB_0 hS9 hx0) (sm_sh.rf _)).1, (sm_K.g (kB_0 hS9 hx0) (sm_sh.rf _)).2, (Nat.le_of_ble_eq_true rfl)⟩ (Nat.le_of_ble_eq_true rfl) (by decide) (sm_cV.s (by decide) hS9 h) (fun M10 h => ?_)
  obtain ⟨hS12, h⟩ := h
  exact sm_w.end t19 sr19 18 (o := .returned none) (M2 := M10) rfl trivial (by decide) (⟨rfl, h⟩)
-- 18 LineSetter.feed(IIIII)I
theorem t18 : sP 18 = (6, sp_18, sh_18) := rfl
theorem sr18 : sm_srt sp_18 = true := by decide +kernel
theorem g18_0 {M : sm_M} {x1 : Int32} {x2 : Int32} {x3 : Int32} {x4 : Int32} {x5 : Int32} {K : Int32 → sm_M → Prop} {X : Nat → sm_M → Prop} (hS : SH M)  (h : ((((iV M 24 1) + (20 : Int32)) ≤ (8192 : Int32) → sm_cV 19 [.ref 24, .int (x1)] M (fun M1 => SH M1 → sm_cV 19 [.ref 24, .int (x2)] M1 (fun M4 => SH M4 → sm_cV 19 [.ref 24, .int (x3)] M4 (fun M7 => SH M7 → sm_cV 19 [.ref 24, .int (x4)] M7 (fun M10 => SH M10 → sm_cV 19 [.ref 24, .int (x5)] M10 (fun M13 => SH M13 → K (iV M13 24 1) M13)))))) ∧ (¬ ((iV M 24 1) + (20 : Int32)) ≤ (8192 : Int32) → X M.1 (sm_new M 51 6)))) : sm_w 18 (sm_in sP 18 [.ref 23, .int (x1), .int (x2), .int (x3), .int (x4), .int (x5)]) M (yI X K) := by
  show sm_w 18 (0, [some (.ref 23), some (.int (x1)), some (.int (x2)), some (.int (x3)), some (.int (x4)), some (.int (x5))], []) M (yI X K)
  refine sm_w.run t18 sr18 0 2 (M2 := M) (f2 := (4, [some (.ref 23), some (.int (x1)), some (.int (x2)), some (.int (x3)), some (.int (x4)), some (.int (x5))], [va_rf (sm_rv M 23 0)])) rfl ⟨trivial, sm_K.g (k_23 hS) (sm_sh.rf _), trivial⟩ ?_
  refine sm_w.fld (r_23_0 hS) ?_
  refine sm_w.run t18 sr18 2 5 (M2 := M) (f2 := (if ((iV M 24 1) + (20 : Int32)) ≤ (8192 : Int32) then 26 else 16, [some (.ref 23), some (.int (x1)), some (.int (x2)), some (.int (x3)), some (.int (x4)), some (.int (x5))], [])) rfl ⟨sm_K.g (kB_0 hS fB_24) (sm_sh.rf _), trivial, trivial, trivial, trivial, trivial⟩ ?_
  refine sm_w.ite (fun hc => ?_) (fun hc => ?_)
  · have h := h.1 hc
    refine sm_w.run t18 sr18 8 2 (M2 := M) (f2 := (30, [some (.ref 23), some (.int (x1)), some (.int (x2)), some (.int (x3)), some (.int (x4)), some (.int (x5))], [va_rf (sm_rv M 23 0)])) rfl ⟨trivial, sm_K.g (k_23 hS) (sm_sh.rf _), trivial⟩ ?_
    refine sm_w.fld (r_23_0 hS) ?_
    refine sm_w.run t18 sr18 10 1 (M2 := M) (f2 := (31, [some (.ref 23), some (.int (x1)), some (.int (x2)), some (.int (x3)), some (.int (x4)), some (.int (x5))], [.int (x1), .ref 24])) rfl ⟨trivial, trivial⟩ ?_
    refine sm_w.cV t18 sr18 11 (i := 19) (as := [.ref 24, .int (x1)]) (g := (31, [some (.ref 23), some (.int (x1)), some (.int (x2)), some (.int (x3)), some (.int (x4)), some (.int (x5))], [])) rfl ⟨by decide, by decide, (Nat.le_of_ble_eq_true rfl), (sm_K.g (kB_0 hS fB_24) (sm_sh.rf _)).1, (sm_K.g (kB_0 hS fB_24) (sm_sh.rf _)).2, (Nat.le_of_ble_eq_true rfl)⟩ (Nat.le_of_ble_eq_true rfl) (by decide) (sm_cV.s (by decide) hS h) (fun M1 h => ?_)
    obtain ⟨hS3, h⟩ := h
    refine sm_w.run t18 sr18 12 2 (M2 := M1) (f2 := (38, [some (.ref 23), some (.int (x1)), some (.int (x2)), some (.int (x3)), some (.int (x4)), some (.int (x5))], [va_rf (sm_rv M1 23 0)])) rfl ⟨trivial, sm_K.g (k_23 hS3) (sm_sh.rf _), trivial⟩ ?_
    refine sm_w.fld (r_23_0 hS3) ?_
    refine sm_w.run t18 sr18 14 1 (M2 := M1) (f2 := (39, [some (.ref 23), some (.int (x1)), some (.int (x2)), some (.int (x3)), some (.int (x4)), some (.int (x5))], [.int (x2), .ref 24])) rfl ⟨trivial, trivial⟩ ?_
    refine sm_w.cV t18 sr18 15 (i := 19) (as := [.ref 24, .int (x2)]) (g := (39, [some (.ref 23), some (.int (x1)), some (.int (x2)), some (.int (x3)), some (.int (x4)), some (.int (x5))], [])) rfl ⟨by decide, by decide, (Nat.le_of_ble_eq_true rfl), (sm_K.g (kB_0 hS3 fB_24) (sm_sh.rf _)).1, (sm_K.g (kB_0 hS3 fB_24) (sm_sh.rf _)).2, (Nat.le_of_ble_eq_true rfl)⟩ (Nat.le_of_ble_eq_true rfl) (by decide) (sm_cV.s (by decide) hS3 h) (fun M4 h => ?_)
    obtain ⟨hS6, h⟩ := h
    refine sm_w.run t18 sr18 16 2 (M2 := M4) (f2 := (46, [some (.ref 23), some (.int (x1)), some (.int (x2)), some (.int (x3)), some (.int (x4)), some (.int (x5))], [va_rf (sm_rv M4 23 0)])) rfl ⟨trivial, sm_K.g (k_23 hS6) (sm_sh.rf _), trivial⟩ ?_
    refine sm_w.fld (r_23_0 hS6) ?_
    refine sm_w.run t18 sr18 18 1 (M2 := M4) (f2 := (47, [some (.ref 23), some (.int (x1)), some (.int (x2)), some (.int (x3)), some (.int (x4)), some (.int (x5))], [.int (x3), .ref 24])) rfl ⟨trivial, trivial⟩ ?_
    refine sm_w.cV t18 sr18 19 (i := 19) (as := [.ref 24, .int (x3)]) (g := (47, [some (.ref 23), some (.int (x1)), some (.int (x2)), some (.int (x3)), some (.int (x4)), some (.int (x5))], [])) rfl ⟨by decide, by decide, (Nat.le_of_ble_eq_true rfl), (sm_K.g (kB_0 hS6 fB_24) (sm_sh.rf _)).1, (sm_K.g (kB_0 hS6 fB_24) (sm_sh.rf _)).2, (Nat.le_of_ble_eq_true rfl)⟩ (Nat.le_of_ble_eq_true rfl) (by decide) (sm_cV.s (by decide) hS6 h) (fun M7 h => ?_)
    obtain ⟨hS9, h⟩ := h
    refine sm_w.run t18 sr18 20 2 (M2 := M7) (f2 := (54, [some (.ref 23), some (.int (x1)), some (.int (x2)), some (.int (x3)), some (.int (x4)), some (.int (x5))], [va_rf (sm_rv M7 23 0)])) rfl ⟨trivial, sm_K.g (k_23 hS9) (sm_sh.rf _), trivial⟩ ?_
    refine sm_w.fld (r_23_0 hS9) ?_
    refine sm_w.run t18 sr18 22 1 (M2 := M7) (f2 := (56, [some (.ref 23), some (.int (x1)), some (.int (x2)), some (.int (x3)), some (.int (x4)), some (.int (x5))], [.int (x4), .ref 24])) rfl ⟨trivial, trivial⟩ ?_
    refine sm_w.cV t18 sr18 23 (i := 19) (as := [.ref 24, .int (x4)]) (g := (56, [some (.ref 23), some (.int (x1)), some (.int (x2)), some (.int (x3)), some (.int (x4)), some (.int (x5))], [])) rfl ⟨by decide, by decide, (Nat.le_of_ble_eq_true rfl), (sm_K.g (kB_0 hS9 fB_24) (sm_sh.rf _)).1, (sm_K.g (kB_0 hS9 fB_24) (sm_sh.rf _)).2, (Nat.le_of_ble_eq_true rfl)⟩ (Nat.le_of_ble_eq_true rfl) (by decide) (sm_cV.s (by decide) hS9 h) (fun M10 h => ?_)
    obtain ⟨hS12, h⟩ := h
    refine sm_w.run t18 sr18 24 2 (M2 := M10) (f2 := (63, [some (.ref 23), some (.int (x1)), some (.int (x2)), some (.int (x3)), some (.int (x4)), some (.int (x5))], [va_rf (sm_rv M10 23 0)])) rfl ⟨trivial, sm_K.g (k_23 hS12) (sm_sh.rf _), trivial⟩ ?_
    refine sm_w.fld (r_23_0 hS12) ?_
    refine sm_w.run t18 sr18 26 1 (M2 := M10) (f2 := (65, [some (.ref 23), some (.int (x1)), some (.int (x2)), some (.int (x3)), some (.int (x4)), some (.int (x5))], [.int (x5), .ref 24])) rfl ⟨trivial, trivial⟩ ?_
    refine sm_w.cV t18 sr18 27 (i := 19) (as := [.ref 24, .int (x5)]) (g := (65, [some (.ref 23), some (.int (x1)), some (.int (x2)), some (.int (x3)), some (.int (x4)), some (.int (x5))], [])) rfl ⟨by decide, by decide, (Nat.le_of_ble_eq_true rfl), (sm_K.g (kB_0 hS12 fB_24) (sm_sh.rf _)).1, (sm_K.g (kB_0 hS12 fB_24) (sm_sh.rf _)).2, (Nat.le_of_ble_eq_true rfl)⟩ (Nat.le_of_ble_eq_true rfl) (by decide) (sm_cV.s (by decide) hS12 h) (fun M13 h => ?_)
    obtain ⟨hS15, h⟩ := h
    refine sm_w.run t18 sr18 28 2 (M2 := M13) (f2 := (72, [some (.ref 23), some (.int (x1)), some (.int (x2)), some (.int (x3)), some (.int (x4)), some (.int (x5))], [va_rf (sm_rv M13 23 0)])) rfl ⟨trivial, sm_K.g (k_23 hS15) (sm_sh.rf _), trivial⟩ ?_
    refine sm_w.fld (r_23_0 hS15) ?_
    refine sm_w.run t18 sr18 30 1 (M2 := M13) (f2 := (75, [some (.ref 23), some (.int (x1)), some (.int (x2)), some (.int (x3)), some (.int (x4)), some (.int (x5))], [.int (iV M13 24 1)])) rfl ⟨sm_K.g (kB_0 hS15 fB_24) (sm_sh.rf _), trivial⟩ ?_
    exact sm_w.end t18 sr18 31 (o := .returned (some (.int (iV M13 24 1)))) (M2 := M13) rfl rfl (by decide) (Or.inr ⟨_, rfl, h⟩)
  · have h := h.2 hc
    exact sm_w.end t18 sr18 7 (o := .threw M.1) (M2 := sm_new M 51 6) rfl (Nat.le_of_ble_eq_true rfl) (by decide) (Or.inl ⟨_, rfl, h⟩)
-- 17 LineSetterLaw.feed(LLineSetter;IIIII[J)I
theorem t17 : sP 17 = (8, sp_17, sh_17) := rfl
theorem sr17 : sm_srt sp_17 = true := by decide +kernel
theorem g17_0 {M : sm_M} {x1 : Int32} {x2 : Int32} {x3 : Int32} {x4 : Int32} {x5 : Int32} {K : Int32 → sm_M → Prop} (hS : SH M)  (h : sm_xI 18 [.ref 23, .int (x1), .int (x2), .int (x3), .int (x4), .int (x5)] M (fun r0 M0 => (sm_kd M0 r0 = 51 ∧ SH M0 ∧ K (1 : Int32) M0)) (fun v2 M1 => SH M1 → (vp_in (0 : Int32) 1) ∧ ∀ M5, SH M5 → M5 = sm_wJ M1 164 (0 : Int32).toNatClampNeg v2.toInt64 → K (0 : Int32) M5)) : sm_w 17 (sm_in sP 17 [.ref 23, .int (x1), .int (x2), .int (x3), .int (x4), .int (x5), .ref 164]) M (rI K) := by
  show sm_w 17 (0, [some (.ref 23), some (.int (x1)), some (.int (x2)), some (.int (x3)), some (.int (x4)), some (.int (x5)), some (.ref 164), none], []) M (rI K)
  refine sm_w.run t17 sr17 0 8 (M2 := M) (f2 := (11, [some (.ref 23), some (.int (x1)), some (.int (x2)), some (.int (x3)), some (.int (x4)), some (.int (x5)), some (.ref 164), none], [.int (x5), .int (x4), .int (x3), .int (x2), .int (x1), .ref 23, .int ((0 : Int32)), .ref 164])) rfl ⟨trivial, trivial, trivial, trivial, trivial, trivial, trivial, trivial, trivial⟩ ?_
  refine sm_w.yI t17 sr17 8 (i := 18) (as := [.ref 23, .int (x1), .int (x2), .int (x3), .int (x4), .int (x5)]) (g := (11, [some (.ref 23), some (.int (x1)), some (.int (x2)), some (.int (x3)), some (.int (x4)), some (.int (x5)), some (.ref 164), none], [.int ((0 : Int32)), .ref 164])) rfl ⟨by decide, by decide, (Nat.le_of_ble_eq_true rfl), (sm_K.g (k_23 hS) (sm_sh.rf _)).1, (sm_K.g (k_23 hS) (sm_sh.rf _)).2, (Nat.le_of_ble_eq_true rfl)⟩ (Nat.le_of_ble_eq_true rfl) (by decide) (sm_xI.s (by decide) hS h) (fun r0 M0 h => ?_) (fun v2 M1 h => ?_)
  · rcases h with ⟨hk, hS0, h⟩
    · refine ⟨19, by rw [hk]; rfl, ?_⟩
      refine sm_w.run t17 sr17 12 2 (M2 := M0) (f2 := (22, [some (.ref 23), some (.int (x1)), some (.int (x2)), some (.int (x3)), some (.int (x4)), some (.int (x5)), some (.ref 164), some (.ref r0)], [.int ((1 : Int32))])) rfl ⟨(Nat.le_of_ble_eq_true rfl), trivial, trivial⟩ ?_
      exact sm_w.end t17 sr17 14 (o := .returned (some (.int ((1 : Int32))))) (M2 := M0) rfl rfl (by decide) (⟨_, rfl, h⟩)
  · obtain ⟨hS3, h⟩ := h
    obtain ⟨c4, h⟩ := h
    refine sm_w.run t17 sr17 9 2 (M2 := sm_wJ M1 164 (0 : Int32).toNatClampNeg v2.toInt64) (f2 := (16, [some (.ref 23), some (.int (x1)), some (.int (x2)), some (.int (x3)), some (.int (x4)), some (.int (x5)), some (.ref 164), none], [])) rfl ⟨trivial, sm_K.s2 (k_164 hS3) (l_164 hS3) c4, trivial⟩ ?_
    have hS6 : SH (sm_wJ M1 164 (0 : Int32).toNatClampNeg v2.toInt64) := SH.wJ hS3 _ _ _
    have h := h _ hS6 rfl
    generalize sm_wJ M1 164 (0 : Int32).toNatClampNeg v2.toInt64 = M5 at h hS6 ⊢
    refine sm_w.run t17 sr17 11 1 (M2 := M5) (f2 := (23, [some (.ref 23), some (.int (x1)), some (.int (x2)), some (.int (x3)), some (.int (x4)), some (.int (x5)), some (.ref 164), none], [])) rfl ⟨trivial, trivial⟩ ?_
    refine sm_w.run t17 sr17 15 1 (M2 := M5) (f2 := (24, [some (.ref 23), some (.int (x1)), some (.int (x2)), some (.int (x3)), some (.int (x4)), some (.int (x5)), some (.ref 164), none], [.int ((0 : Int32))])) rfl ⟨trivial, trivial⟩ ?_
    exact sm_w.end t17 sr17 16 (o := .returned (some (.int ((0 : Int32))))) (M2 := M5) rfl rfl (by decide) (⟨_, rfl, h⟩)
-- 22 LineSetter.end(I)I
theorem t22 : sP 22 = (2, sp_22, sh_22) := rfl
theorem sr22 : sm_srt sp_22 = true := by decide +kernel
theorem g22_0 {M : sm_M} {x1 : Int32} {K : Int32 → sm_M → Prop} {X : Nat → sm_M → Prop} (hS : SH M)  (h : ((x1 < 0 → X M.1 (sm_new M 48 6)) ∧ (¬ x1 < 0 → ((x1 ≤ (iV M 24 1) → ∀ M1, SH M1 → M1 = sm_wI M 24 1 x1 → K x1 M1) ∧ (¬ x1 ≤ (iV M 24 1) → X M.1 (sm_new M 48 6)))))) : sm_w 22 (sm_in sP 22 [.ref 23, .int (x1)]) M (yI X K) := by
  show sm_w 22 (0, [some (.ref 23), some (.int (x1))], []) M (yI X K)
  refine sm_w.run t22 sr22 0 2 (M2 := M) (f2 := (if x1 < 0 then 15 else 4, [some (.ref 23), some (.int (x1))], [])) rfl ⟨trivial, trivial, trivial⟩ ?_
  refine sm_w.ite (fun hc => ?_) (fun hc => ?_)
  · have h := h.1 hc
    exact sm_w.end t22 sr22 7 (o := .threw M.1) (M2 := sm_new M 48 6) rfl (Nat.le_of_ble_eq_true rfl) (by decide) (Or.inl ⟨_, rfl, h⟩)
  · have h := h.2 hc
    refine sm_w.run t22 sr22 2 3 (M2 := M) (f2 := (9, [some (.ref 23), some (.int (x1))], [va_rf (sm_rv M 23 0), .int (x1)])) rfl ⟨trivial, trivial, sm_K.g (k_23 hS) (sm_sh.rf _), trivial⟩ ?_
    refine sm_w.fld (r_23_0 hS) ?_
    refine sm_w.run t22 sr22 5 2 (M2 := M) (f2 := (if x1 ≤ (iV M 24 1) then 25 else 15, [some (.ref 23), some (.int (x1))], [])) rfl ⟨sm_K.g (kB_0 hS fB_24) (sm_sh.rf _), trivial, trivial⟩ ?_
    refine sm_w.ite (fun hc => ?_) (fun hc => ?_)
    · have h := h.1 hc
      refine sm_w.run t22 sr22 8 2 (M2 := M) (f2 := (29, [some (.ref 23), some (.int (x1))], [va_rf (sm_rv M 23 0)])) rfl ⟨trivial, sm_K.g (k_23 hS) (sm_sh.rf _), trivial⟩ ?_
      refine sm_w.fld (r_23_0 hS) ?_
      refine sm_w.run t22 sr22 10 2 (M2 := sm_wI M 24 1 x1) (f2 := (33, [some (.ref 23), some (.int (x1))], [])) rfl ⟨trivial, ⟨(sm_K.p (kB_0 hS fB_24) (sm_sh.rf _)).1, (sm_K.p (kB_0 hS fB_24) (sm_sh.rf _)).2.1, (sm_K.p (kB_0 hS fB_24) (sm_sh.rf _)).2.2, Or.inl rfl⟩, trivial⟩ ?_
      have hS2 : SH (sm_wI M 24 1 x1) := SH.wI hS _ _ _
      have h := h _ hS2 rfl
      generalize sm_wI M 24 1 x1 = M1 at h hS2 ⊢
      refine sm_w.run t22 sr22 12 1 (M2 := M1) (f2 := (34, [some (.ref 23), some (.int (x1))], [.int (x1)])) rfl ⟨trivial, trivial⟩ ?_
      exact sm_w.end t22 sr22 13 (o := .returned (some (.int (x1)))) (M2 := M1) rfl rfl (by decide) (Or.inr ⟨_, rfl, h⟩)
    · have h := h.2 hc
      exact sm_w.end t22 sr22 7 (o := .threw M.1) (M2 := sm_new M 48 6) rfl (Nat.le_of_ble_eq_true rfl) (by decide) (Or.inl ⟨_, rfl, h⟩)
-- 21 LineSetterLaw.end(LLineSetter;I[J)I
theorem t21 : sP 21 = (4, sp_21, sh_21) := rfl
theorem sr21 : sm_srt sp_21 = true := by decide +kernel
theorem g21_0 {M : sm_M} {x1 : Int32} {K : Int32 → sm_M → Prop} (hS : SH M)  (h : sm_xI 22 [.ref 23, .int (x1)] M (fun r0 M0 => (sm_kd M0 r0 = 48 ∧ SH M0 ∧ K (1 : Int32) M0)) (fun v2 M1 => SH M1 → (vp_in (0 : Int32) 1) ∧ ∀ M5, SH M5 → M5 = sm_wJ M1 164 (0 : Int32).toNatClampNeg v2.toInt64 → K (0 : Int32) M5)) : sm_w 21 (sm_in sP 21 [.ref 23, .int (x1), .ref 164]) M (rI K) := by
  show sm_w 21 (0, [some (.ref 23), some (.int (x1)), some (.ref 164), none], []) M (rI K)
  refine sm_w.run t21 sr21 0 4 (M2 := M) (f2 := (4, [some (.ref 23), some (.int (x1)), some (.ref 164), none], [.int (x1), .ref 23, .int ((0 : Int32)), .ref 164])) rfl ⟨trivial, trivial, trivial, trivial, trivial⟩ ?_
  refine sm_w.yI t21 sr21 4 (i := 22) (as := [.ref 23, .int (x1)]) (g := (4, [some (.ref 23), some (.int (x1)), some (.ref 164), none], [.int ((0 : Int32)), .ref 164])) rfl ⟨by decide, by decide, (Nat.le_of_ble_eq_true rfl), (sm_K.g (k_23 hS) (sm_sh.rf _)).1, (sm_K.g (k_23 hS) (sm_sh.rf _)).2, (Nat.le_of_ble_eq_true rfl)⟩ (Nat.le_of_ble_eq_true rfl) (by decide) (sm_xI.s (by decide) hS h) (fun r0 M0 h => ?_) (fun v2 M1 h => ?_)
  · rcases h with ⟨hk, hS0, h⟩
    · refine ⟨12, by rw [hk]; rfl, ?_⟩
      refine sm_w.run t21 sr21 8 2 (M2 := M0) (f2 := (14, [some (.ref 23), some (.int (x1)), some (.ref 164), some (.ref r0)], [.int ((1 : Int32))])) rfl ⟨(Nat.le_of_ble_eq_true rfl), trivial, trivial⟩ ?_
      exact sm_w.end t21 sr21 10 (o := .returned (some (.int ((1 : Int32))))) (M2 := M0) rfl rfl (by decide) (⟨_, rfl, h⟩)
  · obtain ⟨hS3, h⟩ := h
    obtain ⟨c4, h⟩ := h
    refine sm_w.run t21 sr21 5 2 (M2 := sm_wJ M1 164 (0 : Int32).toNatClampNeg v2.toInt64) (f2 := (9, [some (.ref 23), some (.int (x1)), some (.ref 164), none], [])) rfl ⟨trivial, sm_K.s2 (k_164 hS3) (l_164 hS3) c4, trivial⟩ ?_
    have hS6 : SH (sm_wJ M1 164 (0 : Int32).toNatClampNeg v2.toInt64) := SH.wJ hS3 _ _ _
    have h := h _ hS6 rfl
    generalize sm_wJ M1 164 (0 : Int32).toNatClampNeg v2.toInt64 = M5 at h hS6 ⊢
    refine sm_w.run t21 sr21 7 1 (M2 := M5) (f2 := (15, [some (.ref 23), some (.int (x1)), some (.ref 164), none], [])) rfl ⟨trivial, trivial⟩ ?_
    refine sm_w.run t21 sr21 11 1 (M2 := M5) (f2 := (16, [some (.ref 23), some (.int (x1)), some (.ref 164), none], [.int ((0 : Int32))])) rfl ⟨trivial, trivial⟩ ?_
    exact sm_w.end t21 sr21 12 (o := .returned (some (.int ((0 : Int32))))) (M2 := M5) rfl rfl (by decide) (⟨_, rfl, h⟩)
-- 27 LineSetter$PairTable.forget()V
theorem t27 : sP 27 = (1, sp_27, sh_27) := rfl
theorem sr27 : sm_srt sp_27 = true := by decide +kernel
theorem g27_0 {M : sm_M} {x0 : Nat} {K : sm_M → Prop} (hS : SH M) (hx0 : fQ x0) (h : ∀ M1, SH M1 → M1 = sm_wI M x0 4 (0 : Int32) → sm_cV 9 [.ref (x0 + 1), .int ((-1 : Int32))] M1 (fun M3 => SH M3 → K M3)) : sm_w 27 (sm_in sP 27 [.ref x0]) M (rV K) := by
  show sm_w 27 (0, [some (.ref x0)], []) M (rV K)
  refine sm_w.run t27 sr27 0 3 (M2 := sm_wI M x0 4 (0 : Int32)) (f2 := (5, [some (.ref x0)], [])) rfl ⟨trivial, trivial, ⟨(sm_K.p (kQ_0 hS hx0) (sm_sh.rf _)).1, (sm_K.p (kQ_0 hS hx0) (sm_sh.rf _)).2.1, (sm_K.p (kQ_0 hS hx0) (sm_sh.rf _)).2.2, Or.inl rfl⟩, trivial⟩ ?_
  have hS2 : SH (sm_wI M x0 4 (0 : Int32)) := SH.wI hS _ _ _
  have h := h _ hS2 rfl
  generalize sm_wI M x0 4 (0 : Int32) = M1 at h hS2 ⊢
  refine sm_w.run t27 sr27 3 2 (M2 := M1) (f2 := (9, [some (.ref x0)], [va_rf (sm_rv M1 x0 0)])) rfl ⟨trivial, sm_K.g (kQ_0 hS2 hx0) (sm_sh.rf _), trivial⟩ ?_
  refine sm_w.fld (rQ_0 hS2 hx0) ?_
  refine sm_w.run t27 sr27 5 1 (M2 := M1) (f2 := (10, [some (.ref x0)], [.int ((-1 : Int32)), .ref (x0 + 1)])) rfl ⟨trivial, trivial⟩ ?_
  refine sm_w.cV t27 sr27 6 (i := 9) (as := [.ref (x0 + 1), .int ((-1 : Int32))]) (g := (10, [some (.ref x0)], [])) rfl ⟨(Nat.le_of_ble_eq_true rfl), (Nat.le_of_ble_eq_true rfl)⟩ (Nat.le_of_ble_eq_true rfl) (by decide) (sm_cV.s (by decide) hS2 h) (fun M3 h => ?_)
  obtain ⟨hS5, h⟩ := h
  exact sm_w.end t27 sr27 7 (o := .returned none) (M2 := M3) rfl trivial (by decide) (⟨rfl, h⟩)
-- 26 LineSetter$Font.forget()V
theorem t26 : sP 26 = (1, sp_26, sh_26) := rfl
theorem sr26 : sm_srt sp_26 = true := by decide +kernel
theorem g26_0 {M : sm_M} {x0 : Nat} {K : sm_M → Prop} (hS : SH M) (hx0 : fF x0) (h : sm_cV 9 [.ref (x0 + 1), .int ((500 : Int32))] M (fun M1 => SH M1 → sm_cV 9 [.ref (x0 + 2), .int ((0 : Int32))] M1 (fun M4 => SH M4 → ∀ M7, SH M7 → M7 = sm_wI M4 x0 2 (0 : Int32) → sm_cV 27 [.ref (x0 + 3)] M7 (fun M9 => SH M9 → sm_cV 27 [.ref (x0 + 8)] M9 (fun M12 => SH M12 → K M12))))) : sm_w 26 (sm_in sP 26 [.ref x0]) M (rV K) := by
  show sm_w 26 (0, [some (.ref x0)], []) M (rV K)
  refine sm_w.run t26 sr26 0 2 (M2 := M) (f2 := (4, [some (.ref x0)], [va_rf (sm_rv M x0 0)])) rfl ⟨trivial, sm_K.g (kF_0 hS hx0) (sm_sh.rf _), trivial⟩ ?_
  refine sm_w.fld (rF_0 hS hx0) ?_
  refine sm_w.run t26 sr26 2 1 (M2 := M) (f2 := (7, [some (.ref x0)], [.int ((500 : Int32)), .ref (x0 + 1)])) rfl ⟨trivial, trivial⟩ ?_
  refine sm_w.cV t26 sr26 3 (i := 9) (as := [.ref (x0 + 1), .int ((500 : Int32))]) (g := (7, [some (.ref x0)], [])) rfl ⟨(Nat.le_of_ble_eq_true rfl), (Nat.le_of_ble_eq_true rfl)⟩ (Nat.le_of_ble_eq_true rfl) (by decide) (sm_cV.s (by decide) hS h) (fun M1 h => ?_)
  obtain ⟨hS3, h⟩ := h
  refine sm_w.run t26 sr26 4 2 (M2 := M1) (f2 := (14, [some (.ref x0)], [va_rf (sm_rv M1 x0 1)])) rfl ⟨trivial, sm_K.g (kF_0 hS3 hx0) (sm_sh.rf _), trivial⟩ ?_
  refine sm_w.fld (rF_1 hS3 hx0) ?_
  refine sm_w.run t26 sr26 6 1 (M2 := M1) (f2 := (15, [some (.ref x0)], [.int ((0 : Int32)), .ref (x0 + 2)])) rfl ⟨trivial, trivial⟩ ?_
  refine sm_w.cV t26 sr26 7 (i := 9) (as := [.ref (x0 + 2), .int ((0 : Int32))]) (g := (15, [some (.ref x0)], [])) rfl ⟨(Nat.le_of_ble_eq_true rfl), (Nat.le_of_ble_eq_true rfl)⟩ (Nat.le_of_ble_eq_true rfl) (by decide) (sm_cV.s (by decide) hS3 h) (fun M4 h => ?_)
  obtain ⟨hS6, h⟩ := h
  refine sm_w.run t26 sr26 8 3 (M2 := sm_wI M4 x0 2 (0 : Int32)) (f2 := (23, [some (.ref x0)], [])) rfl ⟨trivial, trivial, ⟨(sm_K.p (kF_0 hS6 hx0) (sm_sh.rf _)).1, (sm_K.p (kF_0 hS6 hx0) (sm_sh.rf _)).2.1, (sm_K.p (kF_0 hS6 hx0) (sm_sh.rf _)).2.2, Or.inl rfl⟩, trivial⟩ ?_
  have hS8 : SH (sm_wI M4 x0 2 (0 : Int32)) := SH.wI hS6 _ _ _
  have h := h _ hS8 rfl
  generalize sm_wI M4 x0 2 (0 : Int32) = M7 at h hS8 ⊢
  refine sm_w.run t26 sr26 11 2 (M2 := M7) (f2 := (27, [some (.ref x0)], [va_rf (sm_rv M7 x0 3)])) rfl ⟨trivial, sm_K.g (kF_0 hS8 hx0) (sm_sh.rf _), trivial⟩ ?_
  refine sm_w.fld (rF_3 hS8 hx0) ?_
  refine sm_w.cV t26 sr26 13 (i := 27) (as := [.ref (x0 + 3)]) (g := (27, [some (.ref x0)], [])) rfl ⟨by decide, by decide, (Nat.le_of_ble_eq_true rfl), (sm_K.g (kQ_0 hS8 (fF_3 hx0)) (sm_sh.rf _)).1, (sm_K.g (kQ_0 hS8 (fF_3 hx0)) (sm_sh.rf _)).2, (Nat.le_of_ble_eq_true rfl)⟩ (Nat.le_of_ble_eq_true rfl) (by decide) (sm_cV.s (by decide) hS8 h) (fun M9 h => ?_)
  obtain ⟨hS11, h⟩ := h
  refine sm_w.run t26 sr26 14 2 (M2 := M9) (f2 := (34, [some (.ref x0)], [va_rf (sm_rv M9 x0 4)])) rfl ⟨trivial, sm_K.g (kF_0 hS11 hx0) (sm_sh.rf _), trivial⟩ ?_
  refine sm_w.fld (rF_4 hS11 hx0) ?_
  refine sm_w.cV t26 sr26 16 (i := 27) (as := [.ref (x0 + 8)]) (g := (34, [some (.ref x0)], [])) rfl ⟨by decide, by decide, (Nat.le_of_ble_eq_true rfl), (sm_K.g (kQ_0 hS11 (fF_8 hx0)) (sm_sh.rf _)).1, (sm_K.g (kQ_0 hS11 (fF_8 hx0)) (sm_sh.rf _)).2, (Nat.le_of_ble_eq_true rfl)⟩ (Nat.le_of_ble_eq_true rfl) (by decide) (sm_cV.s (by decide) hS11 h) (fun M12 h => ?_)
  obtain ⟨hS14, h⟩ := h
  exact sm_w.end t26 sr26 17 (o := .returned none) (M2 := M12) rfl trivial (by decide) (⟨rfl, h⟩)
-- 30 LineSetter$Bytes.byteAt(I)I
theorem t30 : sP 30 = (2, sp_30, sh_30) := rfl
theorem sr30 : sm_srt sp_30 = true := by decide +kernel
theorem g30_0 {M : sm_M} {x0 : Nat} {x1 : Int32} {K : Int32 → sm_M → Prop} (hS : SH M) (hx0 : fB x0) (h : ((x1 < 0 → K (-1 : Int32) M) ∧ (¬ x1 < 0 → (((iV M x0 1) ≤ x1 → K (-1 : Int32) M) ∧ (¬ (iV M x0 1) ≤ x1 → (((Int32.ofNat (cB x0)) ≤ x1 → K (-1 : Int32) M) ∧ (¬ (Int32.ofNat (cB x0)) ≤ x1 → (vp_in x1 (cB x0)) ∧ K ((iV M (x0 + 1) x1.toNatClampNeg) &&& (255 : Int32)) M))))))) : sm_w 30 (sm_in sP 30 [.ref x0, .int (x1)]) M (rI K) := by
  show sm_w 30 (0, [some (.ref x0), some (.int (x1))], []) M (rI K)
  refine sm_w.run t30 sr30 0 2 (M2 := M) (f2 := (if x1 < 0 then 34 else 4, [some (.ref x0), some (.int (x1))], [])) rfl ⟨trivial, trivial, trivial⟩ ?_
  refine sm_w.ite (fun hc => ?_) (fun hc => ?_)
  · have h := h.1 hc
    refine sm_w.run t30 sr30 18 1 (M2 := M) (f2 := (35, [some (.ref x0), some (.int (x1))], [.int ((-1 : Int32))])) rfl ⟨trivial, trivial⟩ ?_
    exact sm_w.end t30 sr30 19 (o := .returned (some (.int ((-1 : Int32))))) (M2 := M) rfl rfl (by decide) (⟨_, rfl, h⟩)
  · have h := h.2 hc
    refine sm_w.run t30 sr30 2 4 (M2 := M) (f2 := (if (iV M x0 1) ≤ x1 then 34 else 12, [some (.ref x0), some (.int (x1))], [])) rfl ⟨trivial, trivial, sm_K.g (kB_0 hS hx0) (sm_sh.rf _), trivial, trivial⟩ ?_
    refine sm_w.ite (fun hc => ?_) (fun hc => ?_)
    · have h := h.1 hc
      refine sm_w.run t30 sr30 18 1 (M2 := M) (f2 := (35, [some (.ref x0), some (.int (x1))], [.int ((-1 : Int32))])) rfl ⟨trivial, trivial⟩ ?_
      exact sm_w.end t30 sr30 19 (o := .returned (some (.int ((-1 : Int32))))) (M2 := M) rfl rfl (by decide) (⟨_, rfl, h⟩)
    · have h := h.2 hc
      refine sm_w.run t30 sr30 6 3 (M2 := M) (f2 := (17, [some (.ref x0), some (.int (x1))], [va_rf (sm_rv M x0 0), .int (x1)])) rfl ⟨trivial, trivial, sm_K.g (kB_0 hS hx0) (sm_sh.rf _), trivial⟩ ?_
      refine sm_w.fld (rB_0 hS hx0) ?_
      refine sm_w.run t30 sr30 9 1 (M2 := M) (f2 := (18, [some (.ref x0), some (.int (x1))], [.int (Int32.ofNat (sm_ln M (x0 + 1))), .int (x1)])) rfl ⟨sm_K.l (kB_1 hS hx0) (sm_sh.rf _) (by decide), trivial⟩ ?_
      refine sm_w.aln (lB_1 hS hx0) ?_
      refine sm_w.run t30 sr30 10 1 (M2 := M) (f2 := (if (Int32.ofNat (cB x0)) ≤ x1 then 34 else 21, [some (.ref x0), some (.int (x1))], [])) rfl ⟨trivial, trivial⟩ ?_
      refine sm_w.ite (fun hc => ?_) (fun hc => ?_)
      · have h := h.1 hc
        refine sm_w.run t30 sr30 18 1 (M2 := M) (f2 := (35, [some (.ref x0), some (.int (x1))], [.int ((-1 : Int32))])) rfl ⟨trivial, trivial⟩ ?_
        exact sm_w.end t30 sr30 19 (o := .returned (some (.int ((-1 : Int32))))) (M2 := M) rfl rfl (by decide) (⟨_, rfl, h⟩)
      · have h := h.2 hc
        refine sm_w.run t30 sr30 11 2 (M2 := M) (f2 := (25, [some (.ref x0), some (.int (x1))], [va_rf (sm_rv M x0 0)])) rfl ⟨trivial, sm_K.g (kB_0 hS hx0) (sm_sh.rf _), trivial⟩ ?_
        refine sm_w.fld (rB_0 hS hx0) ?_
        obtain ⟨c1, h⟩ := h
        refine sm_w.run t30 sr30 13 5 (M2 := M) (f2 := (35, [some (.ref x0), some (.int (x1))], [.int ((iV M (x0 + 1) x1.toNatClampNeg) &&& (255 : Int32))])) rfl ⟨trivial, sm_K.a2 (kB_1 hS hx0) (lB_1 hS hx0) c1, trivial, trivial, trivial, trivial⟩ ?_
        exact sm_w.end t30 sr30 19 (o := .returned (some (.int ((iV M (x0 + 1) x1.toNatClampNeg) &&& (255 : Int32))))) (M2 := M) rfl rfl (by decide) (⟨_, rfl, h⟩)
def p30_0 (M : sm_M) (x0 : Nat) (x1 : Int32) : Int32 := if x1 < 0 then (-1 : Int32) else (if (iV M x0 1) ≤ x1 then (-1 : Int32) else (if (Int32.ofNat (cB x0)) ≤ x1 then (-1 : Int32) else ((iV M (x0 + 1) x1.toNatClampNeg) &&& (255 : Int32))))
def q30_0 (M : sm_M) (x0 : Nat) (x1 : Int32) : Prop := ((x1 < 0 → True) ∧ (¬ x1 < 0 → (((iV M x0 1) ≤ x1 → True) ∧ (¬ (iV M x0 1) ≤ x1 → (((Int32.ofNat (cB x0)) ≤ x1 → True) ∧ (¬ (Int32.ofNat (cB x0)) ≤ x1 → (vp_in x1 (cB x0))))))))
theorem p30_c {M : sm_M} {x0 : Nat} {x1 : Int32} (hS : SH M) (hx0 : fB x0) (hq : q30_0 M x0 x1) : sm_cI 30 [.ref x0, .int (x1)] M (fun v M2 => v = p30_0 M x0 x1 ∧ M2 = M) := by
  refine g30_0 (K := (fun v M2 => v = p30_0 M x0 x1 ∧ M2 = M)) hS hx0 ?_
  unfold q30_0 at hq
  refine ⟨fun e1 => ?_, fun e1 => ?_⟩
  · refine ⟨?_, rfl⟩
    unfold p30_0
    rw [if_pos e1]
  · have hq := hq.2 e1
    refine ⟨fun e2 => ?_, fun e2 => ?_⟩
    · refine ⟨?_, rfl⟩
      unfold p30_0
      rw [if_neg e1, if_pos e2]
    · have hq := hq.2 e2
      refine ⟨fun e3 => ?_, fun e3 => ?_⟩
      · refine ⟨?_, rfl⟩
        unfold p30_0
        rw [if_neg e1, if_neg e2, if_pos e3]
      · have hq := hq.2 e3
        have d4 := hq
        refine ⟨d4, ?_⟩
        refine ⟨?_, rfl⟩
        unfold p30_0
        rw [if_neg e1, if_neg e2, if_neg e3]
-- 31 LineSetter.isBlank(I)Z
theorem t31 : sP 31 = (1, sp_31, sh_31) := rfl
theorem sr31 : sm_srt sp_31 = true := by decide +kernel
theorem g31_0 {M : sm_M} {x0 : Int32} {K : Int32 → sm_M → Prop} (hS : SH M)  (h : ((x0 = (10 : Int32) → K (1 : Int32) M) ∧ (¬ x0 = (10 : Int32) → ((x0 = (32 : Int32) → K (1 : Int32) M) ∧ (¬ x0 = (32 : Int32) → K (0 : Int32) M))))) : sm_w 31 (sm_in sP 31 [.int (x0)]) M (rI K) := by
  show sm_w 31 (0, [some (.int (x0))], []) M (rI K)
  refine sm_w.run t31 sr31 0 3 (M2 := M) (f2 := (if x0 = (10 : Int32) then 12 else 6, [some (.int (x0))], [])) rfl ⟨trivial, trivial, trivial, trivial⟩ ?_
  refine sm_w.ite (fun hc => ?_) (fun hc => ?_)
  · have h := h.1 hc
    refine sm_w.run t31 sr31 6 2 (M2 := M) (f2 := (17, [some (.int (x0))], [.int ((1 : Int32))])) rfl ⟨trivial, trivial, trivial⟩ ?_
    exact sm_w.end t31 sr31 9 (o := .returned (some (.int ((1 : Int32))))) (M2 := M) rfl rfl (by decide) (⟨_, rfl, h⟩)
  · have h := h.2 hc
    refine sm_w.run t31 sr31 3 3 (M2 := M) (f2 := (if x0 = (32 : Int32) then 12 else 16, [some (.int (x0))], [])) rfl ⟨trivial, trivial, trivial, trivial⟩ ?_
    refine sm_w.ite (fun hc => ?_) (fun hc => ?_)
    · have h := h.1 hc
      refine sm_w.run t31 sr31 6 2 (M2 := M) (f2 := (17, [some (.int (x0))], [.int ((1 : Int32))])) rfl ⟨trivial, trivial, trivial⟩ ?_
      exact sm_w.end t31 sr31 9 (o := .returned (some (.int ((1 : Int32))))) (M2 := M) rfl rfl (by decide) (⟨_, rfl, h⟩)
    · have h := h.2 hc
      refine sm_w.run t31 sr31 8 1 (M2 := M) (f2 := (17, [some (.int (x0))], [.int ((0 : Int32))])) rfl ⟨trivial, trivial⟩ ?_
      exact sm_w.end t31 sr31 9 (o := .returned (some (.int ((0 : Int32))))) (M2 := M) rfl rfl (by decide) (⟨_, rfl, h⟩)
def p31_0 (M : sm_M) (x0 : Int32) : Int32 := if x0 = (10 : Int32) then (1 : Int32) else (if x0 = (32 : Int32) then (1 : Int32) else (0 : Int32))
theorem p31_c {M : sm_M} {x0 : Int32} (hS : SH M)  : sm_cI 31 [.int (x0)] M (fun v M2 => v = p31_0 M x0 ∧ M2 = M) := by
  refine g31_0 (K := (fun v M2 => v = p31_0 M x0 ∧ M2 = M)) hS ?_
  refine ⟨fun e1 => ?_, fun e1 => ?_⟩
  · refine ⟨?_, rfl⟩
    unfold p31_0
    rw [if_pos e1]
  · refine ⟨fun e2 => ?_, fun e2 => ?_⟩
    · refine ⟨?_, rfl⟩
      unfold p31_0
      rw [if_neg e1, if_pos e2]
    · refine ⟨?_, rfl⟩
      unfold p31_0
      rw [if_neg e1, if_neg e2]
-- 29 LineSetter$Bytes.behindBlanks(I)I
theorem t29 : sP 29 = (3, sp_29, sh_29) := rfl
theorem sr29 : sm_srt sp_29 = true := by decide +kernel
theorem g29_0 {M : sm_M} {x0 : Nat} {x1 : Int32} {K : Int32 → sm_M → Prop} (hS : SH M) (hx0 : fB x0) (h : sm_w 29 (2, [some (.ref x0), none, some (.int (x1))], []) M (rI K)) : sm_w 29 (sm_in sP 29 [.ref x0, .int (x1)]) M (rI K) := by
  show sm_w 29 (0, [some (.ref x0), some (.int (x1)), none], []) M (rI K)
  refine sm_w.run t29 sr29 0 2 (M2 := M) (f2 := (2, [some (.ref x0), some (.int (x1)), some (.int (x1))], [])) rfl ⟨trivial, (Nat.le_of_ble_eq_true rfl), trivial⟩ ?_
  refine sm_w.weak (ls := [some (.ref x0), none, some (.int (x1))]) (sm_leI [true, false, true] rfl) ?_
  exact h
theorem g29_1 {M : sm_M} {x0 : Nat} {x2 : Int32} {K : Int32 → sm_M → Prop} (hS : SH M) (hx0 : fB x0) (h : (((iV M x0 1) ≤ x2 → K x2 M) ∧ (¬ (iV M x0 1) ≤ x2 → (q30_0 M x0 x2) ∧ (((p31_0 M (p30_0 M x0 x2)) = 0 → K x2 M) ∧ (¬ (p31_0 M (p30_0 M x0 x2)) = 0 → sm_w 29 (2, [some (.ref x0), none, some (.int (x2 + (1 : Int32)))], []) M (rI K)))))) : sm_w 29 (2, [some (.ref x0), none, some (.int (x2))], []) M (rI K) := by
  refine sm_w.run t29 sr29 2 4 (M2 := M) (f2 := (if (iV M x0 1) ≤ x2 then 27 else 10, [some (.ref x0), none, some (.int (x2))], [])) rfl ⟨trivial, trivial, sm_K.g (kB_0 hS hx0) (sm_sh.rf _), trivial, trivial⟩ ?_
  refine sm_w.ite (fun hc => ?_) (fun hc => ?_)
  · have h := h.1 hc
    refine sm_w.run t29 sr29 13 1 (M2 := M) (f2 := (28, [some (.ref x0), none, some (.int (x2))], [.int (x2)])) rfl ⟨trivial, trivial⟩ ?_
    exact sm_w.end t29 sr29 14 (o := .returned (some (.int (x2)))) (M2 := M) rfl rfl (by decide) (⟨_, rfl, h⟩)
  · have h := h.2 hc
    obtain ⟨c1, h⟩ := h
    refine sm_w.run t29 sr29 6 2 (M2 := M) (f2 := (12, [some (.ref x0), none, some (.int (x2))], [.int (x2), .ref x0])) rfl ⟨trivial, trivial, trivial⟩ ?_
    refine sm_w.cI t29 sr29 8 (i := 30) (as := [.ref x0, .int (x2)]) (g := (12, [some (.ref x0), none, some (.int (x2))], [])) rfl ⟨by decide, by decide, (Nat.le_of_ble_eq_true rfl), (sm_K.g (kB_0 hS hx0) (sm_sh.rf _)).1, (sm_K.g (kB_0 hS hx0) (sm_sh.rf _)).2, (Nat.le_of_ble_eq_true rfl)⟩ (Nat.le_of_ble_eq_true rfl) (by decide) (p30_c hS hx0 c1) (fun vz M2 hz => ?_)
    obtain ⟨hz1, hz2⟩ := hz
    subst hz1
    have hz2 := hz2.symm
    subst hz2
    refine sm_w.cI t29 sr29 9 (i := 31) (as := [.int (p30_0 M x0 x2)]) (g := (15, [some (.ref x0), none, some (.int (x2))], [])) rfl ⟨(Nat.le_of_ble_eq_true rfl), (Nat.le_of_ble_eq_true rfl)⟩ (Nat.le_of_ble_eq_true rfl) (by decide) (p31_c hS) (fun vz M2 hz => ?_)
    obtain ⟨hz1, hz2⟩ := hz
    subst hz1
    have hz2 := hz2.symm
    subst hz2
    refine sm_w.run t29 sr29 10 1 (M2 := M) (f2 := (if (p31_0 M (p30_0 M x0 x2)) = 0 then 27 else 21, [some (.ref x0), none, some (.int (x2))], [])) rfl ⟨trivial, trivial⟩ ?_
    refine sm_w.ite (fun hc => ?_) (fun hc => ?_)
    · have h := h.1 hc
      refine sm_w.run t29 sr29 13 1 (M2 := M) (f2 := (28, [some (.ref x0), none, some (.int (x2))], [.int (x2)])) rfl ⟨trivial, trivial⟩ ?_
      exact sm_w.end t29 sr29 14 (o := .returned (some (.int (x2)))) (M2 := M) rfl rfl (by decide) (⟨_, rfl, h⟩)
    · have h := h.2 hc
      refine sm_w.run t29 sr29 11 2 (M2 := M) (f2 := (2, [some (.ref x0), none, some (.int (x2 + (1 : Int32)))], [])) rfl ⟨(Nat.le_of_ble_eq_true rfl), trivial, trivial⟩ ?_
      exact h
