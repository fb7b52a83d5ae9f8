/-! METHODS by their segments. -/
-- 88 LineSetter$Breaks.markHyphens(LLineSetter$HyphenTable;)V
theorem t88 : sP 88 = (4, sp_88, sh_88) := rfl
theorem sr88 : sm_srt sp_88 = true := by decide +kernel
theorem g88_0 {M : sm_M} {x0 : Nat} {x1 : Nat} {K : sm_M → Prop} (hS : SH M) (hx0 : fK x0) (hx1 : fH x1) (h : sm_w 88 (4, [some (.ref x0), some (.ref x1), some (.int ((0 : Int32))), some (.int ((0 : Int32)))], []) M (rV K)) : sm_w 88 (sm_in sP 88 [.ref x0, .ref x1]) M (rV K) := by
  show sm_w 88 (0, [some (.ref x0), some (.ref x1), none, none], []) M (rV K)
  refine sm_w.run t88 sr88 0 4 (M2 := M) (f2 := (4, [some (.ref x0), some (.ref x1), some (.int ((0 : Int32))), some (.int ((0 : Int32)))], [])) rfl ⟨trivial, (Nat.le_of_ble_eq_true rfl), trivial, (Nat.le_of_ble_eq_true rfl), trivial⟩ ?_
  exact h
theorem g88_1 {M : sm_M} {x0 : Nat} {x1 : Nat} {x2 : Int32} {x3 : Int32} {K : sm_M → Prop} (hS : SH M) (hx0 : fK x0) (hx1 : fH x1) (h : (((iV M x0 1) < x3 → K M) ∧ (¬ (iV M x0 1) < x3 → ((x3 = (iV M x0 1) → sm_cV 90 [.ref x1, .ref (x0 + 1), .int (x2), .int (x3), .ref (x0 + 2)] M (fun M1 => SH M1 → sm_w 88 (4, [some (.ref x0), some (.ref x1), some (.int (x3 + (1 : Int32))), some (.int (x3 + (1 : Int32)))], []) M1 (rV K))) ∧ (¬ x3 = (iV M x0 1) → (vp_in x3 4000) ∧ (((p89_0 M (iV M (x0 + 1) x3.toNatClampNeg)) = 0 → sm_cV 90 [.ref x1, .ref (x0 + 1), .int (x2), .int (x3), .ref (x0 + 2)] M (fun M5 => SH M5 → sm_w 88 (4, [some (.ref x0), some (.ref x1), some (.int (x3 + (1 : Int32))), some (.int (x3 + (1 : Int32)))], []) M5 (rV K))) ∧ (¬ (p89_0 M (iV M (x0 + 1) x3.toNatClampNeg)) = 0 → sm_w 88 (4, [some (.ref x0), some (.ref x1), some (.int (x2)), some (.int (x3 + (1 : Int32)))], []) M (rV K)))))))) : sm_w 88 (4, [some (.ref x0), some (.ref x1), some (.int (x2)), some (.int (x3))], []) M (rV K) := by
  refine sm_w.run t88 sr88 4 4 (M2 := M) (f2 := (if (iV M x0 1) < x3 then 56 else 12, [some (.ref x0), some (.ref x1), some (.int (x2)), some (.int (x3))], [])) rfl ⟨trivial, trivial, sm_K.g (kK_0 hS hx0) (sm_sh.rf _), trivial, trivial⟩ ?_
  refine sm_w.ite (fun hc => ?_) (fun hc => ?_)
  · have h := h.1 hc
    exact sm_w.end t88 sr88 32 (o := .returned none) (M2 := M) rfl trivial (by decide) (⟨rfl, h⟩)
  · have h := h.2 hc
    refine sm_w.run t88 sr88 8 4 (M2 := M) (f2 := (if x3 = (iV M x0 1) then 32 else 20, [some (.ref x0), some (.ref x1), some (.int (x2)), some (.int (x3))], [])) rfl ⟨trivial, trivial, sm_K.g (kK_0 hS hx0) (sm_sh.rf _), trivial, trivial⟩ ?_
    refine sm_w.ite (fun hc => ?_) (fun hc => ?_)
    · have h := h.1 hc
      refine sm_w.run t88 sr88 18 3 (M2 := M) (f2 := (37, [some (.ref x0), some (.ref x1), some (.int (x2)), some (.int (x3))], [va_rf (sm_rv M x0 0), .ref x1])) rfl ⟨trivial, trivial, sm_K.g (kK_0 hS hx0) (sm_sh.rf _), trivial⟩ ?_
      refine sm_w.fld (rK_0 hS hx0) ?_
      refine sm_w.run t88 sr88 21 4 (M2 := M) (f2 := (43, [some (.ref x0), some (.ref x1), some (.int (x2)), some (.int (x3))], [va_rf (sm_rv M x0 2), .int (x3), .int (x2), .ref (x0 + 1), .ref x1])) rfl ⟨trivial, trivial, trivial, sm_K.g (kK_0 hS hx0) (sm_sh.rf _), trivial⟩ ?_
      refine sm_w.fld (rK_2 hS hx0) ?_
      refine sm_w.cV t88 sr88 25 (i := 90) (as := [.ref x1, .ref (x0 + 1), .int (x2), .int (x3), .ref (x0 + 2)]) (g := (43, [some (.ref x0), some (.ref x1), some (.int (x2)), some (.int (x3))], [])) rfl ⟨by decide, by decide, (Nat.le_of_ble_eq_true rfl), (sm_K.g (kH_0 hS hx1) (sm_sh.rf _)).1, (sm_K.g (kH_0 hS hx1) (sm_sh.rf _)).2, (Nat.le_of_ble_eq_true rfl)⟩ (Nat.le_of_ble_eq_true rfl) (by decide) (sm_cV.s (by decide) hS h) (fun M1 h => ?_)
      obtain ⟨hS3, h⟩ := h
      refine sm_w.run t88 sr88 26 6 (M2 := M1) (f2 := (4, [some (.ref x0), some (.ref x1), some (.int (x3 + (1 : Int32))), some (.int (x3 + (1 : Int32)))], [])) rfl ⟨trivial, trivial, trivial, (Nat.le_of_ble_eq_true rfl), (Nat.le_of_ble_eq_true rfl), trivial, trivial⟩ ?_
      exact h
    · have h := h.2 hc
      refine sm_w.run t88 sr88 12 2 (M2 := M) (f2 := (24, [some (.ref x0), some (.ref x1), some (.int (x2)), some (.int (x3))], [va_rf (sm_rv M x0 0)])) rfl ⟨trivial, sm_K.g (kK_0 hS hx0) (sm_sh.rf _), trivial⟩ ?_
      refine sm_w.fld (rK_0 hS hx0) ?_
      obtain ⟨c4, h⟩ := h
      refine sm_w.run t88 sr88 14 2 (M2 := M) (f2 := (26, [some (.ref x0), some (.ref x1), some (.int (x2)), some (.int (x3))], [.int (iV M (x0 + 1) x3.toNatClampNeg)])) rfl ⟨trivial, sm_K.a2 (kK_1 hS hx0) (lK_1 hS hx0) c4, trivial⟩ ?_
      refine sm_w.cI t88 sr88 16 (i := 89) (as := [.int (iV M (x0 + 1) x3.toNatClampNeg)]) (g := (26, [some (.ref x0), some (.ref x1), some (.int (x2)), some (.int (x3))], [])) rfl ⟨(Nat.le_of_ble_eq_true rfl), (Nat.le_of_ble_eq_true rfl)⟩ (Nat.le_of_ble_eq_true rfl) (by decide) (p89_c hS) (fun vz M2 hz => ?_)
      obtain ⟨hz1, hz2⟩ := hz
      subst hz1
      have hz2 := hz2.symm
      subst hz2
      refine sm_w.run t88 sr88 17 1 (M2 := M) (f2 := (if (p89_0 M (iV M (x0 + 1) x3.toNatClampNeg)) = 0 then 32 else 50, [some (.ref x0), some (.ref x1), some (.int (x2)), some (.int (x3))], [])) rfl ⟨trivial, trivial⟩ ?_
      refine sm_w.ite (fun hc => ?_) (fun hc => ?_)
      · have h := h.1 hc
        refine sm_w.run t88 sr88 18 3 (M2 := M) (f2 := (37, [some (.ref x0), some (.ref x1), some (.int (x2)), some (.int (x3))], [va_rf (sm_rv M x0 0), .ref x1])) rfl ⟨trivial, trivial, sm_K.g (kK_0 hS hx0) (sm_sh.rf _), trivial⟩ ?_
        refine sm_w.fld (rK_0 hS hx0) ?_
        refine sm_w.run t88 sr88 21 4 (M2 := M) (f2 := (43, [some (.ref x0), some (.ref x1), some (.int (x2)), some (.int (x3))], [va_rf (sm_rv M x0 2), .int (x3), .int (x2), .ref (x0 + 1), .ref x1])) rfl ⟨trivial, trivial, trivial, sm_K.g (kK_0 hS hx0) (sm_sh.rf _), trivial⟩ ?_
        refine sm_w.fld (rK_2 hS hx0) ?_
        refine sm_w.cV t88 sr88 25 (i := 90) (as := [.ref x1, .ref (x0 + 1), .int (x2), .int (x3), .ref (x0 + 2)]) (g := (43, [some (.ref x0), some (.ref x1), some (.int (x2)), some (.int (x3))], [])) rfl ⟨by decide, by decide, (Nat.le_of_ble_eq_true rfl), (sm_K.g (kH_0 hS hx1) (sm_sh.rf _)).1, (sm_K.g (kH_0 hS hx1) (sm_sh.rf _)).2, (Nat.le_of_ble_eq_true rfl)⟩ (Nat.le_of_ble_eq_true rfl) (by decide) (sm_cV.s (by decide) hS h) (fun M5 h => ?_)
        obtain ⟨hS7, h⟩ := h
        refine sm_w.run t88 sr88 26 6 (M2 := M5) (f2 := (4, [some (.ref x0), some (.ref x1), some (.int (x3 + (1 : Int32))), some (.int (x3 + (1 : Int32)))], [])) rfl ⟨trivial, trivial, trivial, (Nat.le_of_ble_eq_true rfl), (Nat.le_of_ble_eq_true rfl), trivial, trivial⟩ ?_
        exact h
      · have h := h.2 hc
        refine sm_w.run t88 sr88 30 2 (M2 := M) (f2 := (4, [some (.ref x0), some (.ref x1), some (.int (x2)), some (.int (x3 + (1 : Int32)))], [])) rfl ⟨(Nat.le_of_ble_eq_true rfl), trivial, trivial⟩ ?_
        exact h
-- 87 LineSetter$Breaks.mark(LLineSetter$Paragraph;LLineSetter$HyphenTable;)V
theorem t87 : sP 87 = (4, sp_87, sh_87) := rfl
theorem sr87 : sm_srt sp_87 = true := by decide +kernel
theorem g87_0 {M : sm_M} {x0 : Nat} {x2 : Nat} {K : sm_M → Prop} (hS : SH M) (hx0 : fK x0) (hx2 : fH x2) (h : ∀ M1, SH M1 → M1 = sm_wI M x0 1 (iV M 30 2) → (31 ≠ (x0 + 1) ∧ ¬ (0 : Int32) < 0 ∧ ¬ (0 : Int32) < 0 ∧ ¬ (iV M1 x0 1) < 0 ∧ (0 : Int32).toNatClampNeg + (iV M1 x0 1).toNatClampNeg ≤ 4000 ∧ (0 : Int32).toNatClampNeg + (iV M1 x0 1).toNatClampNeg ≤ 4000 ∧ ∀ i, i < (iV M1 x0 1).toNatClampNeg → fits .byte (.int (iV M1 31 ((0 : Int32).toNatClampNeg + i))) = true) ∧ ∀ M4, SH M4 → M4 = sm_cp M1 31 (x0 + 1) (0 : Int32).toNatClampNeg (0 : Int32).toNatClampNeg (iV M1 x0 1).toNatClampNeg → sm_cV 9 [.ref (x0 + 2), .int ((-1 : Int32))] M4 (fun M6 => SH M6 → sm_w 87 (35, [some (.ref x0), none, some (.ref x2), some (.int ((0 : Int32)))], []) M6 (rV K))) : sm_w 87 (sm_in sP 87 [.ref x0, .ref 30, .ref x2]) M (rV K) := by
  show sm_w 87 (0, [some (.ref x0), some (.ref 30), some (.ref x2), none], []) M (rV K)
  refine sm_w.run t87 sr87 0 4 (M2 := sm_wI M x0 1 (iV M 30 2)) (f2 := (8, [some (.ref x0), some (.ref 30), some (.ref x2), none], [])) rfl ⟨trivial, trivial, sm_K.g (k_30 hS) (sm_sh.rf _), ⟨(sm_K.p (kK_0 hS hx0) (sm_sh.rf _)).1, (sm_K.p (kK_0 hS hx0) (sm_sh.rf _)).2.1, (sm_K.p (kK_0 hS hx0) (sm_sh.rf _)).2.2, Or.inl rfl⟩, trivial⟩ ?_
  have hS2 : SH (sm_wI M x0 1 (iV M 30 2)) := SH.wI hS _ _ _
  have h := h _ hS2 rfl
  generalize sm_wI M x0 1 (iV M 30 2) = M1 at h hS2 ⊢
  refine sm_w.run t87 sr87 4 2 (M2 := M1) (f2 := (12, [some (.ref x0), some (.ref 30), some (.ref x2), none], [va_rf (sm_rv M1 30 0)])) rfl ⟨trivial, sm_K.g (k_30 hS2) (sm_sh.rf _), trivial⟩ ?_
  refine sm_w.fld (r_30_0 hS2) ?_
  refine sm_w.run t87 sr87 6 3 (M2 := M1) (f2 := (17, [some (.ref x0), some (.ref 30), some (.ref x2), none], [va_rf (sm_rv M1 x0 0), .int ((0 : Int32)), .ref 31])) rfl ⟨trivial, trivial, sm_K.g (kK_0 hS2 hx0) (sm_sh.rf _), trivial⟩ ?_
  refine sm_w.fld (rK_0 hS2 hx0) ?_
  obtain ⟨c3, h⟩ := h
  refine sm_w.run t87 sr87 9 4 (M2 := sm_cp M1 31 (x0 + 1) (0 : Int32).toNatClampNeg (0 : Int32).toNatClampNeg (iV M1 x0 1).toNatClampNeg) (f2 := (25, [some (.ref x0), some (.ref 30), some (.ref x2), none], [])) rfl ⟨trivial, trivial, sm_K.g (kK_0 hS2 hx0) (sm_sh.rf _), ⟨sm_cpK2 (kK_1 hS2 hx0) (k_31 hS2) (lK_1 hS2 hx0) (l_31 hS2) c3, (Nat.le_of_ble_eq_true rfl)⟩, trivial⟩ ?_
  have hS5 : SH (sm_cp M1 31 (x0 + 1) (0 : Int32).toNatClampNeg (0 : Int32).toNatClampNeg (iV M1 x0 1).toNatClampNeg) := SH.cp hS2 _ _ _ _ _
  have h := h _ hS5 rfl
  generalize sm_cp M1 31 (x0 + 1) (0 : Int32).toNatClampNeg (0 : Int32).toNatClampNeg (iV M1 x0 1).toNatClampNeg = M4 at h hS5 ⊢
  refine sm_w.run t87 sr87 13 2 (M2 := M4) (f2 := (29, [some (.ref x0), some (.ref 30), some (.ref x2), none], [va_rf (sm_rv M4 x0 2)])) rfl ⟨trivial, sm_K.g (kK_0 hS5 hx0) (sm_sh.rf _), trivial⟩ ?_
  refine sm_w.fld (rK_2 hS5 hx0) ?_
  refine sm_w.run t87 sr87 15 1 (M2 := M4) (f2 := (30, [some (.ref x0), some (.ref 30), some (.ref x2), none], [.int ((-1 : Int32)), .ref (x0 + 2)])) rfl ⟨trivial, trivial⟩ ?_
  refine sm_w.cV t87 sr87 16 (i := 9) (as := [.ref (x0 + 2), .int ((-1 : Int32))]) (g := (30, [some (.ref x0), some (.ref 30), some (.ref x2), none], [])) rfl ⟨(Nat.le_of_ble_eq_true rfl), (Nat.le_of_ble_eq_true rfl)⟩ (Nat.le_of_ble_eq_true rfl) (by decide) (sm_cV.s (by decide) hS5 h) (fun M6 h => ?_)
  obtain ⟨hS8, h⟩ := h
  refine sm_w.run t87 sr87 17 2 (M2 := M6) (f2 := (35, [some (.ref x0), some (.ref 30), some (.ref x2), some (.int ((0 : Int32)))], [])) rfl ⟨trivial, (Nat.le_of_ble_eq_true rfl), trivial⟩ ?_
  refine sm_w.weak (ls := [some (.ref x0), none, some (.ref x2), some (.int ((0 : Int32)))]) (sm_leI [true, false, true, true] rfl) ?_
  exact h
theorem g87_1 {M : sm_M} {x0 : Nat} {x2 : Nat} {x3 : Int32} {K : sm_M → Prop} (hS : SH M) (hx0 : fK x0) (hx2 : fH x2) (h : (((iV M x0 1) ≤ x3 → sm_cV 88 [.ref x0, .ref x2] M (fun M1 => SH M1 → (vp_in (iV M1 x0 1) 4001) ∧ ∀ M5, SH M5 → M5 = sm_wI M1 (x0 + 2) (iV M1 x0 1).toNatClampNeg (3 : Int32) → K M5)) ∧ (¬ (iV M x0 1) ≤ x3 → (vp_in x3 4000) ∧ (((iV M (x0 + 1) x3.toNatClampNeg) = (32 : Int32) → (vp_in x3 4001) ∧ ∀ M9, SH M9 → M9 = sm_wI M (x0 + 2) x3.toNatClampNeg (0 : Int32) → sm_w 87 (35, [some (.ref x0), none, some (.ref x2), some (.int (x3 + (1 : Int32)))], []) M9 (rV K)) ∧ (¬ (iV M (x0 + 1) x3.toNatClampNeg) = (32 : Int32) → (vp_in x3 4000) ∧ (((iV M (x0 + 1) x3.toNatClampNeg) = (45 : Int32) → (((iV M x0 1) ≤ (x3 + (1 : Int32)) → sm_w 87 (35, [some (.ref x0), none, some (.ref x2), some (.int (x3 + (1 : Int32)))], []) M (rV K)) ∧ (¬ (iV M x0 1) ≤ (x3 + (1 : Int32)) → (vp_in (x3 + (1 : Int32)) 4000) ∧ (((iV M (x0 + 1) (x3 + (1 : Int32)).toNatClampNeg) = (32 : Int32) → sm_w 87 (35, [some (.ref x0), none, some (.ref x2), some (.int (x3 + (1 : Int32)))], []) M (rV K)) ∧ (¬ (iV M (x0 + 1) (x3 + (1 : Int32)).toNatClampNeg) = (32 : Int32) → (vp_in (x3 + (1 : Int32)) 4001) ∧ ∀ M14, SH M14 → M14 = sm_wI M (x0 + 2) (x3 + (1 : Int32)).toNatClampNeg (2 : Int32) → sm_w 87 (35, [some (.ref x0), none, some (.ref x2), some (.int (x3 + (1 : Int32)))], []) M14 (rV K)))))) ∧ (¬ (iV M (x0 + 1) x3.toNatClampNeg) = (45 : Int32) → sm_w 87 (35, [some (.ref x0), none, some (.ref x2), some (.int (x3 + (1 : Int32)))], []) M (rV K)))))))) : sm_w 87 (35, [some (.ref x0), none, some (.ref x2), some (.int (x3))], []) M (rV K) := by
  refine sm_w.run t87 sr87 19 4 (M2 := M) (f2 := (if (iV M x0 1) ≤ x3 then 113 else 43, [some (.ref x0), none, some (.ref x2), some (.int (x3))], [])) rfl ⟨trivial, trivial, sm_K.g (kK_0 hS hx0) (sm_sh.rf _), trivial, trivial⟩ ?_
  refine sm_w.ite (fun hc => ?_) (fun hc => ?_)
  · have h := h.1 hc
    refine sm_w.run t87 sr87 64 2 (M2 := M) (f2 := (117, [some (.ref x0), none, some (.ref x2), some (.int (x3))], [])) rfl ⟨trivial, trivial, trivial⟩ ?_
    refine sm_w.run t87 sr87 66 2 (M2 := M) (f2 := (119, [some (.ref x0), none, some (.ref x2), some (.int (x3))], [.ref x2, .ref x0])) rfl ⟨trivial, trivial, trivial⟩ ?_
    refine sm_w.cV t87 sr87 68 (i := 88) (as := [.ref x0, .ref x2]) (g := (119, [some (.ref x0), none, some (.ref x2), some (.int (x3))], [])) rfl ⟨by decide, by decide, (Nat.le_of_ble_eq_true rfl), (sm_K.g (kK_0 hS hx0) (sm_sh.rf _)).1, (sm_K.g (kK_0 hS hx0) (sm_sh.rf _)).2, (Nat.le_of_ble_eq_true rfl)⟩ (Nat.le_of_ble_eq_true rfl) (by decide) (sm_cV.s (by decide) hS h) (fun M1 h => ?_)
    obtain ⟨hS3, h⟩ := h
    refine sm_w.run t87 sr87 69 2 (M2 := M1) (f2 := (126, [some (.ref x0), none, some (.ref x2), some (.int (x3))], [va_rf (sm_rv M1 x0 2)])) rfl ⟨trivial, sm_K.g (kK_0 hS3 hx0) (sm_sh.rf _), trivial⟩ ?_
    refine sm_w.fld (rK_2 hS3 hx0) ?_
    obtain ⟨c4, h⟩ := h
    refine sm_w.run t87 sr87 71 4 (M2 := sm_wI M1 (x0 + 2) (iV M1 x0 1).toNatClampNeg (3 : Int32)) (f2 := (132, [some (.ref x0), none, some (.ref x2), some (.int (x3))], [])) rfl ⟨trivial, sm_K.g (kK_0 hS3 hx0) (sm_sh.rf _), trivial, sm_K.s2 (kK_2 hS3 hx0) (lK_2 hS3 hx0) c4, trivial⟩ ?_
    have hS6 : SH (sm_wI M1 (x0 + 2) (iV M1 x0 1).toNatClampNeg (3 : Int32)) := SH.wI hS3 _ _ _
    have h := h _ hS6 rfl
    generalize sm_wI M1 (x0 + 2) (iV M1 x0 1).toNatClampNeg (3 : Int32) = M5 at h hS6 ⊢
    exact sm_w.end t87 sr87 75 (o := .returned none) (M2 := M5) rfl trivial (by decide) (⟨rfl, h⟩)
  · have h := h.2 hc
    refine sm_w.run t87 sr87 23 2 (M2 := M) (f2 := (47, [some (.ref x0), none, some (.ref x2), some (.int (x3))], [va_rf (sm_rv M x0 0)])) rfl ⟨trivial, sm_K.g (kK_0 hS hx0) (sm_sh.rf _), trivial⟩ ?_
    refine sm_w.fld (rK_0 hS hx0) ?_
    obtain ⟨c7, h⟩ := h
    refine sm_w.run t87 sr87 25 4 (M2 := M) (f2 := (if (iV M (x0 + 1) x3.toNatClampNeg) = (32 : Int32) then 54 else 64, [some (.ref x0), none, some (.ref x2), some (.int (x3))], [])) rfl ⟨trivial, sm_K.a2 (kK_1 hS hx0) (lK_1 hS hx0) c7, trivial, trivial, trivial⟩ ?_
    refine sm_w.ite (fun hc => ?_) (fun hc => ?_)
    · have h := h.1 hc
      refine sm_w.run t87 sr87 29 2 (M2 := M) (f2 := (58, [some (.ref x0), none, some (.ref x2), some (.int (x3))], [va_rf (sm_rv M x0 2)])) rfl ⟨trivial, sm_K.g (kK_0 hS hx0) (sm_sh.rf _), trivial⟩ ?_
      refine sm_w.fld (rK_2 hS hx0) ?_
      obtain ⟨c8, h⟩ := h
      refine sm_w.run t87 sr87 31 3 (M2 := sm_wI M (x0 + 2) x3.toNatClampNeg (0 : Int32)) (f2 := (61, [some (.ref x0), none, some (.ref x2), some (.int (x3))], [])) rfl ⟨trivial, trivial, sm_K.s2 (kK_2 hS hx0) (lK_2 hS hx0) c8, trivial⟩ ?_
      have hS10 : SH (sm_wI M (x0 + 2) x3.toNatClampNeg (0 : Int32)) := SH.wI hS _ _ _
      have h := h _ hS10 rfl
      generalize sm_wI M (x0 + 2) x3.toNatClampNeg (0 : Int32) = M9 at h hS10 ⊢
      refine sm_w.run t87 sr87 34 1 (M2 := M9) (f2 := (107, [some (.ref x0), none, some (.ref x2), some (.int (x3))], [])) rfl ⟨trivial, trivial⟩ ?_
      refine sm_w.run t87 sr87 62 2 (M2 := M9) (f2 := (35, [some (.ref x0), none, some (.ref x2), some (.int (x3 + (1 : Int32)))], [])) rfl ⟨(Nat.le_of_ble_eq_true rfl), trivial, trivial⟩ ?_
      exact h
    · have h := h.2 hc
      refine sm_w.run t87 sr87 35 2 (M2 := M) (f2 := (68, [some (.ref x0), none, some (.ref x2), some (.int (x3))], [va_rf (sm_rv M x0 0)])) rfl ⟨trivial, sm_K.g (kK_0 hS hx0) (sm_sh.rf _), trivial⟩ ?_
      refine sm_w.fld (rK_0 hS hx0) ?_
      obtain ⟨c11, h⟩ := h
      refine sm_w.run t87 sr87 37 4 (M2 := M) (f2 := (if (iV M (x0 + 1) x3.toNatClampNeg) = (45 : Int32) then 75 else 107, [some (.ref x0), none, some (.ref x2), some (.int (x3))], [])) rfl ⟨trivial, sm_K.a2 (kK_1 hS hx0) (lK_1 hS hx0) c11, trivial, trivial, trivial⟩ ?_
      refine sm_w.ite (fun hc => ?_) (fun hc => ?_)
      · have h := h.1 hc
        refine sm_w.run t87 sr87 41 6 (M2 := M) (f2 := (if (iV M x0 1) ≤ (x3 + (1 : Int32)) then 107 else 85, [some (.ref x0), none, some (.ref x2), some (.int (x3))], [])) rfl ⟨trivial, trivial, trivial, trivial, sm_K.g (kK_0 hS hx0) (sm_sh.rf _), trivial, trivial⟩ ?_
        refine sm_w.ite (fun hc => ?_) (fun hc => ?_)
        · have h := h.1 hc
          refine sm_w.run t87 sr87 62 2 (M2 := M) (f2 := (35, [some (.ref x0), none, some (.ref x2), some (.int (x3 + (1 : Int32)))], [])) rfl ⟨(Nat.le_of_ble_eq_true rfl), trivial, trivial⟩ ?_
          exact h
        · have h := h.2 hc
          refine sm_w.run t87 sr87 47 2 (M2 := M) (f2 := (89, [some (.ref x0), none, some (.ref x2), some (.int (x3))], [va_rf (sm_rv M x0 0)])) rfl ⟨trivial, sm_K.g (kK_0 hS hx0) (sm_sh.rf _), trivial⟩ ?_
          refine sm_w.fld (rK_0 hS hx0) ?_
          obtain ⟨c12, h⟩ := h
          refine sm_w.run t87 sr87 49 6 (M2 := M) (f2 := (if (iV M (x0 + 1) (x3 + (1 : Int32)).toNatClampNeg) = (32 : Int32) then 107 else 98, [some (.ref x0), none, some (.ref x2), some (.int (x3))], [])) rfl ⟨trivial, trivial, trivial, sm_K.a2 (kK_1 hS hx0) (lK_1 hS hx0) c12, trivial, trivial, trivial⟩ ?_
          refine sm_w.ite (fun hc => ?_) (fun hc => ?_)
          · have h := h.1 hc
            refine sm_w.run t87 sr87 62 2 (M2 := M) (f2 := (35, [some (.ref x0), none, some (.ref x2), some (.int (x3 + (1 : Int32)))], [])) rfl ⟨(Nat.le_of_ble_eq_true rfl), trivial, trivial⟩ ?_
            exact h
          · have h := h.2 hc
            refine sm_w.run t87 sr87 55 2 (M2 := M) (f2 := (102, [some (.ref x0), none, some (.ref x2), some (.int (x3))], [va_rf (sm_rv M x0 2)])) rfl ⟨trivial, sm_K.g (kK_0 hS hx0) (sm_sh.rf _), trivial⟩ ?_
            refine sm_w.fld (rK_2 hS hx0) ?_
            obtain ⟨c13, h⟩ := h
            refine sm_w.run t87 sr87 57 5 (M2 := sm_wI M (x0 + 2) (x3 + (1 : Int32)).toNatClampNeg (2 : Int32)) (f2 := (107, [some (.ref x0), none, some (.ref x2), some (.int (x3))], [])) rfl ⟨trivial, trivial, trivial, trivial, sm_K.s2 (kK_2 hS hx0) (lK_2 hS hx0) c13, trivial⟩ ?_
            have hS15 : SH (sm_wI M (x0 + 2) (x3 + (1 : Int32)).toNatClampNeg (2 : Int32)) := SH.wI hS _ _ _
            have h := h _ hS15 rfl
            generalize sm_wI M (x0 + 2) (x3 + (1 : Int32)).toNatClampNeg (2 : Int32) = M14 at h hS15 ⊢
            refine sm_w.run t87 sr87 62 2 (M2 := M14) (f2 := (35, [some (.ref x0), none, some (.ref x2), some (.int (x3 + (1 : Int32)))], [])) rfl ⟨(Nat.le_of_ble_eq_true rfl), trivial, trivial⟩ ?_
            exact h
      · have h := h.2 hc
        refine sm_w.run t87 sr87 62 2 (M2 := M) (f2 := (35, [some (.ref x0), none, some (.ref x2), some (.int (x3 + (1 : Int32)))], [])) rfl ⟨(Nat.le_of_ble_eq_true rfl), trivial, trivial⟩ ?_
        exact h
theorem g87_0n {M : sm_M} {x0 : Nat} {K : sm_M → Prop} (hS : SH M) (hx0 : fK x0) (h : ∀ M1, SH M1 → M1 = sm_wI M x0 1 (iV M 30 2) → (31 ≠ (x0 + 1) ∧ ¬ (0 : Int32) < 0 ∧ ¬ (0 : Int32) < 0 ∧ ¬ (iV M1 x0 1) < 0 ∧ (0 : Int32).toNatClampNeg + (iV M1 x0 1).toNatClampNeg ≤ 4000 ∧ (0 : Int32).toNatClampNeg + (iV M1 x0 1).toNatClampNeg ≤ 4000 ∧ ∀ i, i < (iV M1 x0 1).toNatClampNeg → fits .byte (.int (iV M1 31 ((0 : Int32).toNatClampNeg + i))) = true) ∧ ∀ M4, SH M4 → M4 = sm_cp M1 31 (x0 + 1) (0 : Int32).toNatClampNeg (0 : Int32).toNatClampNeg (iV M1 x0 1).toNatClampNeg → sm_cV 9 [.ref (x0 + 2), .int ((-1 : Int32))] M4 (fun M6 => SH M6 → sm_w 87 (35, [some (.ref x0), none, some (.null), some (.int ((0 : Int32)))], []) M6 (rV K))) : sm_w 87 (sm_in sP 87 [.ref x0, .ref 30, .null]) M (rV K) := by
  show sm_w 87 (0, [some (.ref x0), some (.ref 30), some (.null), none], []) M (rV K)
  refine sm_w.run t87 sr87 0 4 (M2 := sm_wI M x0 1 (iV M 30 2)) (f2 := (8, [some (.ref x0), some (.ref 30), some (.null), none], [])) rfl ⟨trivial, trivial, sm_K.g (k_30 hS) (sm_sh.rf _), ⟨(sm_K.p (kK_0 hS hx0) (sm_sh.rf _)).1, (sm_K.p (kK_0 hS hx0) (sm_sh.rf _)).2.1, (sm_K.p (kK_0 hS hx0) (sm_sh.rf _)).2.2, Or.inl rfl⟩, trivial⟩ ?_
  have hS2 : SH (sm_wI M x0 1 (iV M 30 2)) := SH.wI hS _ _ _
  have h := h _ hS2 rfl
  generalize sm_wI M x0 1 (iV M 30 2) = M1 at h hS2 ⊢
  refine sm_w.run t87 sr87 4 2 (M2 := M1) (f2 := (12, [some (.ref x0), some (.ref 30), some (.null), none], [va_rf (sm_rv M1 30 0)])) rfl ⟨trivial, sm_K.g (k_30 hS2) (sm_sh.rf _), trivial⟩ ?_
  refine sm_w.fld (r_30_0 hS2) ?_
  refine sm_w.run t87 sr87 6 3 (M2 := M1) (f2 := (17, [some (.ref x0), some (.ref 30), some (.null), none], [va_rf (sm_rv M1 x0 0), .int ((0 : Int32)), .ref 31])) rfl ⟨trivial, trivial, sm_K.g (kK_0 hS2 hx0) (sm_sh.rf _), trivial⟩ ?_
  refine sm_w.fld (rK_0 hS2 hx0) ?_
  obtain ⟨c3, h⟩ := h
  refine sm_w.run t87 sr87 9 4 (M2 := sm_cp M1 31 (x0 + 1) (0 : Int32).toNatClampNeg (0 : Int32).toNatClampNeg (iV M1 x0 1).toNatClampNeg) (f2 := (25, [some (.ref x0), some (.ref 30), some (.null), none], [])) rfl ⟨trivial, trivial, sm_K.g (kK_0 hS2 hx0) (sm_sh.rf _), ⟨sm_cpK2 (kK_1 hS2 hx0) (k_31 hS2) (lK_1 hS2 hx0) (l_31 hS2) c3, (Nat.le_of_ble_eq_true rfl)⟩, trivial⟩ ?_
  have hS5 : SH (sm_cp M1 31 (x0 + 1) (0 : Int32).toNatClampNeg (0 : Int32).toNatClampNeg (iV M1 x0 1).toNatClampNeg) := SH.cp hS2 _ _ _ _ _
  have h := h _ hS5 rfl
  generalize sm_cp M1 31 (x0 + 1) (0 : Int32).toNatClampNeg (0 : Int32).toNatClampNeg (iV M1 x0 1).toNatClampNeg = M4 at h hS5 ⊢
  refine sm_w.run t87 sr87 13 2 (M2 := M4) (f2 := (29, [some (.ref x0), some (.ref 30), some (.null), none], [va_rf (sm_rv M4 x0 2)])) rfl ⟨trivial, sm_K.g (kK_0 hS5 hx0) (sm_sh.rf _), trivial⟩ ?_
  refine sm_w.fld (rK_2 hS5 hx0) ?_
  refine sm_w.run t87 sr87 15 1 (M2 := M4) (f2 := (30, [some (.ref x0), some (.ref 30), some (.null), none], [.int ((-1 : Int32)), .ref (x0 + 2)])) rfl ⟨trivial, trivial⟩ ?_
  refine sm_w.cV t87 sr87 16 (i := 9) (as := [.ref (x0 + 2), .int ((-1 : Int32))]) (g := (30, [some (.ref x0), some (.ref 30), some (.null), none], [])) rfl ⟨(Nat.le_of_ble_eq_true rfl), (Nat.le_of_ble_eq_true rfl)⟩ (Nat.le_of_ble_eq_true rfl) (by decide) (sm_cV.s (by decide) hS5 h) (fun M6 h => ?_)
  obtain ⟨hS8, h⟩ := h
  refine sm_w.run t87 sr87 17 2 (M2 := M6) (f2 := (35, [some (.ref x0), some (.ref 30), some (.null), some (.int ((0 : Int32)))], [])) rfl ⟨trivial, (Nat.le_of_ble_eq_true rfl), trivial⟩ ?_
  refine sm_w.weak (ls := [some (.ref x0), none, some (.null), some (.int ((0 : Int32)))]) (sm_leI [true, false, true, true] rfl) ?_
  exact h
theorem g87_1n {M : sm_M} {x0 : Nat} {x3 : Int32} {K : sm_M → Prop} (hS : SH M) (hx0 : fK x0) (h : (((iV M x0 1) ≤ x3 → (vp_in (iV M x0 1) 4001) ∧ ∀ M2, SH M2 → M2 = sm_wI M (x0 + 2) (iV M x0 1).toNatClampNeg (3 : Int32) → K M2) ∧ (¬ (iV M x0 1) ≤ x3 → (vp_in x3 4000) ∧ (((iV M (x0 + 1) x3.toNatClampNeg) = (32 : Int32) → (vp_in x3 4001) ∧ ∀ M6, SH M6 → M6 = sm_wI M (x0 + 2) x3.toNatClampNeg (0 : Int32) → sm_w 87 (35, [some (.ref x0), none, some (.null), some (.int (x3 + (1 : Int32)))], []) M6 (rV K)) ∧ (¬ (iV M (x0 + 1) x3.toNatClampNeg) = (32 : Int32) → (vp_in x3 4000) ∧ (((iV M (x0 + 1) x3.toNatClampNeg) = (45 : Int32) → (((iV M x0 1) ≤ (x3 + (1 : Int32)) → sm_w 87 (35, [some (.ref x0), none, some (.null), some (.int (x3 + (1 : Int32)))], []) M (rV K)) ∧ (¬ (iV M x0 1) ≤ (x3 + (1 : Int32)) → (vp_in (x3 + (1 : Int32)) 4000) ∧ (((iV M (x0 + 1) (x3 + (1 : Int32)).toNatClampNeg) = (32 : Int32) → sm_w 87 (35, [some (.ref x0), none, some (.null), some (.int (x3 + (1 : Int32)))], []) M (rV K)) ∧ (¬ (iV M (x0 + 1) (x3 + (1 : Int32)).toNatClampNeg) = (32 : Int32) → (vp_in (x3 + (1 : Int32)) 4001) ∧ ∀ M11, SH M11 → M11 = sm_wI M (x0 + 2) (x3 + (1 : Int32)).toNatClampNeg (2 : Int32) → sm_w 87 (35, [some (.ref x0), none, some (.null), some (.int (x3 + (1 : Int32)))], []) M11 (rV K)))))) ∧ (¬ (iV M (x0 + 1) x3.toNatClampNeg) = (45 : Int32) → sm_w 87 (35, [some (.ref x0), none, some (.null), some (.int (x3 + (1 : Int32)))], []) M (rV K)))))))) : sm_w 87 (35, [some (.ref x0), none, some (.null), some (.int (x3))], []) M (rV K) := by
  refine sm_w.run t87 sr87 19 4 (M2 := M) (f2 := (if (iV M x0 1) ≤ x3 then 113 else 43, [some (.ref x0), none, some (.null), some (.int (x3))], [])) rfl ⟨trivial, trivial, sm_K.g (kK_0 hS hx0) (sm_sh.rf _), trivial, trivial⟩ ?_
  refine sm_w.ite (fun hc => ?_) (fun hc => ?_)
  · have h := h.1 hc
    refine sm_w.run t87 sr87 64 2 (M2 := M) (f2 := (122, [some (.ref x0), none, some (.null), some (.int (x3))], [])) rfl ⟨trivial, trivial, trivial⟩ ?_
    refine sm_w.run t87 sr87 69 2 (M2 := M) (f2 := (126, [some (.ref x0), none, some (.null), some (.int (x3))], [va_rf (sm_rv M x0 2)])) rfl ⟨trivial, sm_K.g (kK_0 hS hx0) (sm_sh.rf _), trivial⟩ ?_
    refine sm_w.fld (rK_2 hS hx0) ?_
    obtain ⟨c1, h⟩ := h
    refine sm_w.run t87 sr87 71 4 (M2 := sm_wI M (x0 + 2) (iV M x0 1).toNatClampNeg (3 : Int32)) (f2 := (132, [some (.ref x0), none, some (.null), some (.int (x3))], [])) rfl ⟨trivial, sm_K.g (kK_0 hS hx0) (sm_sh.rf _), trivial, sm_K.s2 (kK_2 hS hx0) (lK_2 hS hx0) c1, trivial⟩ ?_
    have hS3 : SH (sm_wI M (x0 + 2) (iV M x0 1).toNatClampNeg (3 : Int32)) := SH.wI hS _ _ _
    have h := h _ hS3 rfl
    generalize sm_wI M (x0 + 2) (iV M x0 1).toNatClampNeg (3 : Int32) = M2 at h hS3 ⊢
    exact sm_w.end t87 sr87 75 (o := .returned none) (M2 := M2) rfl trivial (by decide) (⟨rfl, h⟩)
  · have h := h.2 hc
    refine sm_w.run t87 sr87 23 2 (M2 := M) (f2 := (47, [some (.ref x0), none, some (.null), some (.int (x3))], [va_rf (sm_rv M x0 0)])) rfl ⟨trivial, sm_K.g (kK_0 hS hx0) (sm_sh.rf _), trivial⟩ ?_
    refine sm_w.fld (rK_0 hS hx0) ?_
    obtain ⟨c4, h⟩ := h
    refine sm_w.run t87 sr87 25 4 (M2 := M) (f2 := (if (iV M (x0 + 1) x3.toNatClampNeg) = (32 : Int32) then 54 else 64, [some (.ref x0), none, some (.null), some (.int (x3))], [])) rfl ⟨trivial, sm_K.a2 (kK_1 hS hx0) (lK_1 hS hx0) c4, trivial, trivial, trivial⟩ ?_
    refine sm_w.ite (fun hc => ?_) (fun hc => ?_)
    · have h := h.1 hc
      refine sm_w.run t87 sr87 29 2 (M2 := M) (f2 := (58, [some (.ref x0), none, some (.null), some (.int (x3))], [va_rf (sm_rv M x0 2)])) rfl ⟨trivial, sm_K.g (kK_0 hS hx0) (sm_sh.rf _), trivial⟩ ?_
      refine sm_w.fld (rK_2 hS hx0) ?_
      obtain ⟨c5, h⟩ := h
      refine sm_w.run t87 sr87 31 3 (M2 := sm_wI M (x0 + 2) x3.toNatClampNeg (0 : Int32)) (f2 := (61, [some (.ref x0), none, some (.null), some (.int (x3))], [])) rfl ⟨trivial, trivial, sm_K.s2 (kK_2 hS hx0) (lK_2 hS hx0) c5, trivial⟩ ?_
      have hS7 : SH (sm_wI M (x0 + 2) x3.toNatClampNeg (0 : Int32)) := SH.wI hS _ _ _
      have h := h _ hS7 rfl
      generalize sm_wI M (x0 + 2) x3.toNatClampNeg (0 : Int32) = M6 at h hS7 ⊢
      refine sm_w.run t87 sr87 34 1 (M2 := M6) (f2 := (107, [some (.ref x0), none, some (.null), some (.int (x3))], [])) rfl ⟨trivial, trivial⟩ ?_
      refine sm_w.run t87 sr87 62 2 (M2 := M6) (f2 := (35, [some (.ref x0), none, some (.null), some (.int (x3 + (1 : Int32)))], [])) rfl ⟨(Nat.le_of_ble_eq_true rfl), trivial, trivial⟩ ?_
      exact h
    · have h := h.2 hc
      refine sm_w.run t87 sr87 35 2 (M2 := M) (f2 := (68, [some (.ref x0), none, some (.null), some (.int (x3))], [va_rf (sm_rv M x0 0)])) rfl ⟨trivial, sm_K.g (kK_0 hS hx0) (sm_sh.rf _), trivial⟩ ?_
      refine sm_w.fld (rK_0 hS hx0) ?_
      obtain ⟨c8, h⟩ := h
      refine sm_w.run t87 sr87 37 4 (M2 := M) (f2 := (if (iV M (x0 + 1) x3.toNatClampNeg) = (45 : Int32) then 75 else 107, [some (.ref x0), none, some (.null), some (.int (x3))], [])) rfl ⟨trivial, sm_K.a2 (kK_1 hS hx0) (lK_1 hS hx0) c8, trivial, trivial, trivial⟩ ?_
      refine sm_w.ite (fun hc => ?_) (fun hc => ?_)
      · have h := h.1 hc
        refine sm_w.run t87 sr87 41 6 (M2 := M) (f2 := (if (iV M x0 1) ≤ (x3 + (1 : Int32)) then 107 else 85, [some (.ref x0), none, some (.null), some (.int (x3))], [])) rfl ⟨trivial, trivial, trivial, trivial, sm_K.g (kK_0 hS hx0) (sm_sh.rf _), trivial, trivial⟩ ?_
        refine sm_w.ite (fun hc => ?_) (fun hc => ?_)
        · have h := h.1 hc
          refine sm_w.run t87 sr87 62 2 (M2 := M) (f2 := (35, [some (.ref x0), none, some (.null), some (.int (x3 + (1 : Int32)))], [])) rfl ⟨(Nat.le_of_ble_eq_true rfl), trivial, trivial⟩ ?_
          exact h
        · have h := h.2 hc
          refine sm_w.run t87 sr87 47 2 (M2 := M) (f2 := (89, [some (.ref x0), none, some (.null), some (.int (x3))], [va_rf (sm_rv M x0 0)])) rfl ⟨trivial, sm_K.g (kK_0 hS hx0) (sm_sh.rf _), trivial⟩ ?_
          refine sm_w.fld (rK_0 hS hx0) ?_
          obtain ⟨c9, h⟩ := h
          refine sm_w.run t87 sr87 49 6 (M2 := M) (f2 := (if (iV M (x0 + 1) (x3 + (1 : Int32)).toNatClampNeg) = (32 : Int32) then 107 else 98, [some (.ref x0), none, some (.null), some (.int (x3))], [])) rfl ⟨trivial, trivial, trivial, sm_K.a2 (kK_1 hS hx0) (lK_1 hS hx0) c9, trivial, trivial, trivial⟩ ?_
          refine sm_w.ite (fun hc => ?_) (fun hc => ?_)
          · have h := h.1 hc
            refine sm_w.run t87 sr87 62 2 (M2 := M) (f2 := (35, [some (.ref x0), none, some (.null), some (.int (x3 + (1 : Int32)))], [])) rfl ⟨(Nat.le_of_ble_eq_true rfl), trivial, trivial⟩ ?_
            exact h
          · have h := h.2 hc
            refine sm_w.run t87 sr87 55 2 (M2 := M) (f2 := (102, [some (.ref x0), none, some (.null), some (.int (x3))], [va_rf (sm_rv M x0 2)])) rfl ⟨trivial, sm_K.g (kK_0 hS hx0) (sm_sh.rf _), trivial⟩ ?_
            refine sm_w.fld (rK_2 hS hx0) ?_
            obtain ⟨c10, h⟩ := h
            refine sm_w.run t87 sr87 57 5 (M2 := sm_wI M (x0 + 2) (x3 + (1 : Int32)).toNatClampNeg (2 : Int32)) (f2 := (107, [some (.ref x0), none, some (.null), some (.int (x3))], [])) rfl ⟨trivial, trivial, trivial, trivial, sm_K.s2 (kK_2 hS hx0) (lK_2 hS hx0) c10, trivial⟩ ?_
            have hS12 : SH (sm_wI M (x0 + 2) (x3 + (1 : Int32)).toNatClampNeg (2 : Int32)) := SH.wI hS _ _ _
            have h := h _ hS12 rfl
            generalize sm_wI M (x0 + 2) (x3 + (1 : Int32)).toNatClampNeg (2 : Int32) = M11 at h hS12 ⊢
            refine sm_w.run t87 sr87 62 2 (M2 := M11) (f2 := (35, [some (.ref x0), none, some (.null), some (.int (x3 + (1 : Int32)))], [])) rfl ⟨(Nat.le_of_ble_eq_true rfl), trivial, trivial⟩ ?_
            exact h
      · have h := h.2 hc
        refine sm_w.run t87 sr87 62 2 (M2 := M) (f2 := (35, [some (.ref x0), none, some (.null), some (.int (x3 + (1 : Int32)))], [])) rfl ⟨(Nat.le_of_ble_eq_true rfl), trivial, trivial⟩ ?_
        exact h
-- 96 LineSetter$Breaks.marked()I
theorem t96 : sP 96 = (3, sp_96, sh_96) := rfl
theorem sr96 : sm_srt sp_96 = true := by decide +kernel
theorem g96_0 {M : sm_M} {x0 : Nat} {K : Int32 → sm_M → Prop} (hS : SH M) (hx0 : fK x0) (h : sm_w 96 (4, [some (.ref x0), some (.int ((0 : Int32))), some (.int ((0 : Int32)))], []) M (rI K)) : sm_w 96 (sm_in sP 96 [.ref x0]) M (rI K) := by
  show sm_w 96 (0, [some (.ref x0), none, none], []) M (rI K)
  refine sm_w.run t96 sr96 0 4 (M2 := M) (f2 := (4, [some (.ref x0), some (.int ((0 : Int32))), some (.int ((0 : Int32)))], [])) rfl ⟨trivial, (Nat.le_of_ble_eq_true rfl), trivial, (Nat.le_of_ble_eq_true rfl), trivial⟩ ?_
  exact h
theorem g96_1 {M : sm_M} {x0 : Nat} {x1 : Int32} {x2 : Int32} {K : Int32 → sm_M → Prop} (hS : SH M) (hx0 : fK x0) (h : (((iV M x0 1) < x2 → K x1 M) ∧ (¬ (iV M x0 1) < x2 → (vp_in x2 4001) ∧ (((iV M (x0 + 2) x2.toNatClampNeg) = (-1 : Int32) → sm_w 96 (4, [some (.ref x0), some (.int (x1)), some (.int (x2 + (1 : Int32)))], []) M (rI K)) ∧ (¬ (iV M (x0 + 2) x2.toNatClampNeg) = (-1 : Int32) → sm_w 96 (4, [some (.ref x0), some (.int (x1 + (1 : Int32))), some (.int (x2 + (1 : Int32)))], []) M (rI K)))))) : sm_w 96 (4, [some (.ref x0), some (.int (x1)), some (.int (x2))], []) M (rI K) := by
  refine sm_w.run t96 sr96 4 4 (M2 := M) (f2 := (if (iV M x0 1) < x2 then 31 else 12, [some (.ref x0), some (.int (x1)), some (.int (x2))], [])) rfl ⟨trivial, trivial, sm_K.g (kK_0 hS hx0) (sm_sh.rf _), trivial, trivial⟩ ?_
  refine sm_w.ite (fun hc => ?_) (fun hc => ?_)
  · have h := h.1 hc
    refine sm_w.run t96 sr96 17 1 (M2 := M) (f2 := (32, [some (.ref x0), some (.int (x1)), some (.int (x2))], [.int (x1)])) rfl ⟨trivial, trivial⟩ ?_
    exact sm_w.end t96 sr96 18 (o := .returned (some (.int (x1)))) (M2 := M) rfl rfl (by decide) (⟨_, rfl, h⟩)
  · have h := h.2 hc
    refine sm_w.run t96 sr96 8 2 (M2 := M) (f2 := (16, [some (.ref x0), some (.int (x1)), some (.int (x2))], [va_rf (sm_rv M x0 2)])) rfl ⟨trivial, sm_K.g (kK_0 hS hx0) (sm_sh.rf _), trivial⟩ ?_
    refine sm_w.fld (rK_2 hS hx0) ?_
    obtain ⟨c1, h⟩ := h
    refine sm_w.run t96 sr96 10 4 (M2 := M) (f2 := (if (iV M (x0 + 2) x2.toNatClampNeg) = (-1 : Int32) then 25 else 22, [some (.ref x0), some (.int (x1)), some (.int (x2))], [])) rfl ⟨trivial, sm_K.a2 (kK_2 hS hx0) (lK_2 hS hx0) c1, trivial, trivial, trivial⟩ ?_
    refine sm_w.ite (fun hc => ?_) (fun hc => ?_)
    · have h := h.1 hc
      refine sm_w.run t96 sr96 15 2 (M2 := M) (f2 := (4, [some (.ref x0), some (.int (x1)), some (.int (x2 + (1 : Int32)))], [])) rfl ⟨(Nat.le_of_ble_eq_true rfl), trivial, trivial⟩ ?_
      exact h
    · have h := h.2 hc
      refine sm_w.run t96 sr96 14 3 (M2 := M) (f2 := (4, [some (.ref x0), some (.int (x1 + (1 : Int32))), some (.int (x2 + (1 : Int32)))], [])) rfl ⟨(Nat.le_of_ble_eq_true rfl), (Nat.le_of_ble_eq_true rfl), trivial, trivial⟩ ?_
      exact h
-- 99 LineSetter$Font.scaled(II)I
theorem t99 : sP 99 = (2, sp_99, sh_99) := rfl
theorem sr99 : sm_srt sp_99 = true := by decide +kernel
theorem g99_0 {M : sm_M} {x0 : Int32} {x1 : Int32} {K : Int32 → sm_M → Prop} (hS : SH M)  (h : K ((x1 * x0) / (1000 : Int32)) M) : sm_w 99 (sm_in sP 99 [.int (x0), .int (x1)]) M (rI K) := by
  show sm_w 99 (0, [some (.int (x0)), some (.int (x1))], []) M (rI K)
  refine sm_w.run t99 sr99 0 5 (M2 := M) (f2 := (7, [some (.int (x0)), some (.int (x1))], [.int ((x1 * x0) / (1000 : Int32))])) rfl ⟨trivial, trivial, trivial, trivial, by decide, trivial⟩ ?_
  exact sm_w.end t99 sr99 5 (o := .returned (some (.int ((x1 * x0) / (1000 : Int32))))) (M2 := M) rfl rfl (by decide) (⟨_, rfl, h⟩)
def p99_0 (M : sm_M) (x0 : Int32) (x1 : Int32) : Int32 := (x1 * x0) / (1000 : Int32)
theorem p99_c {M : sm_M} {x0 : Int32} {x1 : Int32} (hS : SH M)  : sm_cI 99 [.int (x0), .int (x1)] M (fun v M2 => v = p99_0 M x0 x1 ∧ M2 = M) := by
  refine g99_0 (K := (fun v M2 => v = p99_0 M x0 x1 ∧ M2 = M)) hS ?_
  exact ⟨rfl, rfl⟩
-- 98 LineSetter$Font.byteWidth(II)I
theorem t98 : sP 98 = (3, sp_98, sh_98) := rfl
theorem sr98 : sm_srt sp_98 = true := by decide +kernel
theorem g98_0 {M : sm_M} {x0 : Nat} {x1 : Int32} {x2 : Int32} {K : Int32 → sm_M → Prop} (hS : SH M) (hx0 : fF x0) (h : ((x1 < 0 → K (0 : Int32) M) ∧ (¬ x1 < 0 → (((128 : Int32) ≤ x1 → K (0 : Int32) M) ∧ (¬ (128 : Int32) ≤ x1 → (vp_in x1 128) ∧ K (p99_0 M (iV M (x0 + 1) x1.toNatClampNeg) x2) M))))) : sm_w 98 (sm_in sP 98 [.ref x0, .int (x1), .int (x2)]) M (rI K) := by
  show sm_w 98 (0, [some (.ref x0), some (.int (x1)), some (.int (x2))], []) M (rI K)
  refine sm_w.run t98 sr98 0 2 (M2 := M) (f2 := (if x1 < 0 then 26 else 4, [some (.ref x0), some (.int (x1)), some (.int (x2))], [])) rfl ⟨trivial, trivial, trivial⟩ ?_
  refine sm_w.ite (fun hc => ?_) (fun hc => ?_)
  · have h := h.1 hc
    refine sm_w.run t98 sr98 14 1 (M2 := M) (f2 := (27, [some (.ref x0), some (.int (x1)), some (.int (x2))], [.int ((0 : Int32))])) rfl ⟨trivial, trivial⟩ ?_
    exact sm_w.end t98 sr98 15 (o := .returned (some (.int ((0 : Int32))))) (M2 := M) rfl rfl (by decide) (⟨_, rfl, h⟩)
  · have h := h.2 hc
    refine sm_w.run t98 sr98 2 3 (M2 := M) (f2 := (9, [some (.ref x0), some (.int (x1)), some (.int (x2))], [va_rf (sm_rv M x0 0), .int (x1)])) rfl ⟨trivial, trivial, sm_K.g (kF_0 hS hx0) (sm_sh.rf _), trivial⟩ ?_
    refine sm_w.fld (rF_0 hS hx0) ?_
    refine sm_w.run t98 sr98 5 1 (M2 := M) (f2 := (10, [some (.ref x0), some (.int (x1)), some (.int (x2))], [.int (Int32.ofNat (sm_ln M (x0 + 1))), .int (x1)])) rfl ⟨sm_K.l (kF_1 hS hx0) (sm_sh.rf _) (by decide), trivial⟩ ?_
    refine sm_w.aln (lF_1 hS hx0) ?_
    refine sm_w.run t98 sr98 6 1 (M2 := M) (f2 := (if (128 : Int32) ≤ x1 then 26 else 13, [some (.ref x0), some (.int (x1)), some (.int (x2))], [])) rfl ⟨trivial, trivial⟩ ?_
    refine sm_w.ite (fun hc => ?_) (fun hc => ?_)
    · have h := h.1 hc
      refine sm_w.run t98 sr98 14 1 (M2 := M) (f2 := (27, [some (.ref x0), some (.int (x1)), some (.int (x2))], [.int ((0 : Int32))])) rfl ⟨trivial, trivial⟩ ?_
      exact sm_w.end t98 sr98 15 (o := .returned (some (.int ((0 : Int32))))) (M2 := M) rfl rfl (by decide) (⟨_, rfl, h⟩)
    · have h := h.2 hc
      refine sm_w.run t98 sr98 7 2 (M2 := M) (f2 := (17, [some (.ref x0), some (.int (x1)), some (.int (x2))], [va_rf (sm_rv M x0 0)])) rfl ⟨trivial, sm_K.g (kF_0 hS hx0) (sm_sh.rf _), trivial⟩ ?_
      refine sm_w.fld (rF_0 hS hx0) ?_
      obtain ⟨c1, h⟩ := h
      refine sm_w.run t98 sr98 9 3 (M2 := M) (f2 := (20, [some (.ref x0), some (.int (x1)), some (.int (x2))], [.int (x2), .int (iV M (x0 + 1) x1.toNatClampNeg)])) rfl ⟨trivial, sm_K.a2 (kF_1 hS hx0) (lF_1 hS hx0) c1, trivial, trivial⟩ ?_
      refine sm_w.cI t98 sr98 12 (i := 99) (as := [.int (iV M (x0 + 1) x1.toNatClampNeg), .int (x2)]) (g := (20, [some (.ref x0), some (.int (x1)), some (.int (x2))], [])) rfl ⟨(Nat.le_of_ble_eq_true rfl), (Nat.le_of_ble_eq_true rfl)⟩ (Nat.le_of_ble_eq_true rfl) (by decide) (p99_c hS) (fun vz M2 hz => ?_)
      obtain ⟨hz1, hz2⟩ := hz
      subst hz1
      have hz2 := hz2.symm
      subst hz2
      refine sm_w.run t98 sr98 13 1 (M2 := M) (f2 := (27, [some (.ref x0), some (.int (x1)), some (.int (x2))], [.int (p99_0 M (iV M (x0 + 1) x1.toNatClampNeg) x2)])) rfl ⟨trivial, trivial⟩ ?_
      exact sm_w.end t98 sr98 15 (o := .returned (some (.int (p99_0 M (iV M (x0 + 1) x1.toNatClampNeg) x2)))) (M2 := M) rfl rfl (by decide) (⟨_, rfl, h⟩)
def p98_0 (M : sm_M) (x0 : Nat) (x1 : Int32) (x2 : Int32) : Int32 := if x1 < 0 then (0 : Int32) else (if (128 : Int32) ≤ x1 then (0 : Int32) else (p99_0 M (iV M (x0 + 1) x1.toNatClampNeg) x2))
def q98_0 (M : sm_M) (x0 : Nat) (x1 : Int32) (x2 : Int32) : Prop := ((x1 < 0 → True) ∧ (¬ x1 < 0 → (((128 : Int32) ≤ x1 → True) ∧ (¬ (128 : Int32) ≤ x1 → (vp_in x1 128)))))
theorem p98_c {M : sm_M} {x0 : Nat} {x1 : Int32} {x2 : Int32} (hS : SH M) (hx0 : fF x0) (hq : q98_0 M x0 x1 x2) : sm_cI 98 [.ref x0, .int (x1), .int (x2)] M (fun v M2 => v = p98_0 M x0 x1 x2 ∧ M2 = M) := by
  refine g98_0 (K := (fun v M2 => v = p98_0 M x0 x1 x2 ∧ M2 = M)) hS hx0 ?_
  unfold q98_0 at hq
  refine ⟨fun e1 => ?_, fun e1 => ?_⟩
  · refine ⟨?_, rfl⟩
    unfold p98_0
    rw [if_pos e1]
  · have hq := hq.2 e1
    refine ⟨fun e2 => ?_, fun e2 => ?_⟩
    · refine ⟨?_, rfl⟩
      unfold p98_0
      rw [if_neg e1, if_pos e2]
    · have hq := hq.2 e2
      have d3 := hq
      refine ⟨d3, ?_⟩
      refine ⟨?_, rfl⟩
      unfold p98_0
      rw [if_neg e1, if_neg e2]
-- 101 LineSetter$PairTable.numberOf(III)I
theorem t101 : sP 101 = (5, sp_101, sh_101) := rfl
theorem sr101 : sm_srt sp_101 = true := by decide +kernel
theorem g101_0 {M : sm_M} {x0 : Nat} {x1 : Int32} {x2 : Int32} {x3 : Int32} {K : Int32 → sm_M → Prop} (hS : SH M) (hx0 : fQ x0) (h : sm_cI 52 [.ref x0, .int (x1), .int (x2)] M (fun v2 M1 => SH M1 → ((v2 < 0 → K x3 M1) ∧ (¬ v2 < 0 → (vp_in v2 (cQ x0)) ∧ K (iV M1 (x0 + 4) v2.toNatClampNeg) M1)))) : sm_w 101 (sm_in sP 101 [.ref x0, .int (x1), .int (x2), .int (x3)]) M (rI K) := by
  show sm_w 101 (0, [some (.ref x0), some (.int (x1)), some (.int (x2)), some (.int (x3)), none], []) M (rI K)
  refine sm_w.run t101 sr101 0 3 (M2 := M) (f2 := (3, [some (.ref x0), some (.int (x1)), some (.int (x2)), some (.int (x3)), none], [.int (x2), .int (x1), .ref x0])) rfl ⟨trivial, trivial, trivial, trivial⟩ ?_
  refine sm_w.cI t101 sr101 3 (i := 52) (as := [.ref x0, .int (x1), .int (x2)]) (g := (3, [some (.ref x0), some (.int (x1)), some (.int (x2)), some (.int (x3)), none], [])) rfl ⟨by decide, by decide, (Nat.le_of_ble_eq_true rfl), (sm_K.g (kQ_0 hS hx0) (sm_sh.rf _)).1, (sm_K.g (kQ_0 hS hx0) (sm_sh.rf _)).2, (Nat.le_of_ble_eq_true rfl)⟩ (Nat.le_of_ble_eq_true rfl) (by decide) (sm_cI.s (by decide) hS h) (fun v2 M1 h => ?_)
  obtain ⟨hS3, h⟩ := h
  refine sm_w.run t101 sr101 4 3 (M2 := M1) (f2 := (if v2 < 0 then 23 else 13, [some (.ref x0), some (.int (x1)), some (.int (x2)), some (.int (x3)), some (.int (v2))], [])) rfl ⟨(Nat.le_of_ble_eq_true rfl), trivial, trivial, trivial⟩ ?_
  refine sm_w.ite (fun hc => ?_) (fun hc => ?_)
  · have h := h.1 hc
    refine sm_w.run t101 sr101 12 1 (M2 := M1) (f2 := (24, [some (.ref x0), some (.int (x1)), some (.int (x2)), some (.int (x3)), some (.int (v2))], [.int (x3)])) rfl ⟨trivial, trivial⟩ ?_
    exact sm_w.end t101 sr101 13 (o := .returned (some (.int (x3)))) (M2 := M1) rfl rfl (by decide) (⟨_, rfl, h⟩)
  · have h := h.2 hc
    refine sm_w.run t101 sr101 7 2 (M2 := M1) (f2 := (17, [some (.ref x0), some (.int (x1)), some (.int (x2)), some (.int (x3)), some (.int (v2))], [va_rf (sm_rv M1 x0 3)])) rfl ⟨trivial, sm_K.g (kQ_0 hS3 hx0) (sm_sh.rf _), trivial⟩ ?_
    refine sm_w.fld (rQ_3 hS3 hx0) ?_
    obtain ⟨c4, h⟩ := h
    refine sm_w.run t101 sr101 9 3 (M2 := M1) (f2 := (24, [some (.ref x0), some (.int (x1)), some (.int (x2)), some (.int (x3)), some (.int (v2))], [.int (iV M1 (x0 + 4) v2.toNatClampNeg)])) rfl ⟨trivial, sm_K.a2 (kQ_4 hS3 hx0) (lQ_4 hS3 hx0) c4, trivial, trivial⟩ ?_
    exact sm_w.end t101 sr101 13 (o := .returned (some (.int (iV M1 (x0 + 4) v2.toNatClampNeg)))) (M2 := M1) rfl rfl (by decide) (⟨_, rfl, h⟩)
