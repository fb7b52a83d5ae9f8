/-! METHODS by their segments. -/
-- 69 LineSetter$HyphenTable.isException(I[BI)Z
theorem t69 : sP 69 = (6, sp_69, sh_69) := rfl
theorem sr69 : sm_srt sp_69 = true := by decide +kernel
theorem g69_0 {M : sm_M} {x0 : Nat} {x1 : Int32} {x2 : Nat} {nx2 : Nat} {x3 : Int32} {K : Int32 → sm_M → Prop} (hS : SH M) (hx0 : fH x0) (hx2 : sA x2 1 nx2) (h : sm_w 69 (9, [some (.ref x0), some (.int (x1)), some (.ref x2), some (.int (x3)), some (.int (x1 * (30 : Int32))), some (.int ((0 : Int32)))], []) M (rI K)) : sm_w 69 (sm_in sP 69 [.ref x0, .int (x1), .ref x2, .int (x3)]) M (rI K) := by
  show sm_w 69 (0, [some (.ref x0), some (.int (x1)), some (.ref x2), some (.int (x3)), none, none], []) M (rI K)
  refine sm_w.run t69 sr69 0 6 (M2 := M) (f2 := (9, [some (.ref x0), some (.int (x1)), some (.ref x2), some (.int (x3)), some (.int (x1 * (30 : Int32))), some (.int ((0 : Int32)))], [])) rfl ⟨trivial, trivial, trivial, (Nat.le_of_ble_eq_true rfl), trivial, (Nat.le_of_ble_eq_true rfl), trivial⟩ ?_
  exact h
theorem g69_1 {M : sm_M} {x0 : Nat} {x1 : Int32} {x2 : Nat} {nx2 : Nat} {x3 : Int32} {x4 : Int32} {x5 : Int32} {K : Int32 → sm_M → Prop} (hS : SH M) (hx0 : fH x0) (hx2 : sA x2 1 nx2) (h : (vp_in x1 60) ∧ (((iV M (x0 + 7) x1.toNatClampNeg) ≤ x5 → K (1 : Int32) M) ∧ (¬ (iV M (x0 + 7) x1.toNatClampNeg) ≤ x5 → (vp_in (x4 + x5) 1800) ∧ (vp_in (x3 + x5) nx2) ∧ (((iV M (x0 + 6) (x4 + x5).toNatClampNeg) = (p70_0 M (iV M x2 (x3 + x5).toNatClampNeg)) → sm_w 69 (9, [some (.ref x0), some (.int (x1)), some (.ref x2), some (.int (x3)), some (.int (x4)), some (.int (x5 + (1 : Int32)))], []) M (rI K)) ∧ (¬ (iV M (x0 + 6) (x4 + x5).toNatClampNeg) = (p70_0 M (iV M x2 (x3 + x5).toNatClampNeg)) → K (0 : Int32) M))))) : sm_w 69 (9, [some (.ref x0), some (.int (x1)), some (.ref x2), some (.int (x3)), some (.int (x4)), some (.int (x5))], []) M (rI K) := by
  refine sm_w.run t69 sr69 6 3 (M2 := M) (f2 := (15, [some (.ref x0), some (.int (x1)), some (.ref x2), some (.int (x3)), some (.int (x4)), some (.int (x5))], [va_rf (sm_rv M x0 8), .int (x5)])) rfl ⟨trivial, trivial, sm_K.g (kH_0 hS hx0) (sm_sh.rf _), trivial⟩ ?_
  refine sm_w.fld (rH_8 hS hx0) ?_
  obtain ⟨c1, h⟩ := h
  refine sm_w.run t69 sr69 9 3 (M2 := M) (f2 := (if (iV M (x0 + 7) x1.toNatClampNeg) ≤ x5 then 50 else 20, [some (.ref x0), some (.int (x1)), some (.ref x2), some (.int (x3)), some (.int (x4)), some (.int (x5))], [])) rfl ⟨trivial, sm_K.a2 (kH_7 hS hx0) (lH_7 hS hx0) c1, trivial, trivial⟩ ?_
  refine sm_w.ite (fun hc => ?_) (fun hc => ?_)
  · have h := h.1 hc
    refine sm_w.run t69 sr69 29 1 (M2 := M) (f2 := (51, [some (.ref x0), some (.int (x1)), some (.ref x2), some (.int (x3)), some (.int (x4)), some (.int (x5))], [.int ((1 : Int32))])) rfl ⟨trivial, trivial⟩ ?_
    exact sm_w.end t69 sr69 30 (o := .returned (some (.int ((1 : Int32))))) (M2 := M) rfl rfl (by decide) (⟨_, rfl, h⟩)
  · have h := h.2 hc
    refine sm_w.run t69 sr69 12 2 (M2 := M) (f2 := (24, [some (.ref x0), some (.int (x1)), some (.ref x2), some (.int (x3)), some (.int (x4)), some (.int (x5))], [va_rf (sm_rv M x0 7)])) rfl ⟨trivial, sm_K.g (kH_0 hS hx0) (sm_sh.rf _), trivial⟩ ?_
    refine sm_w.fld (rH_7 hS hx0) ?_
    obtain ⟨c2, c3, h⟩ := h
    refine sm_w.run t69 sr69 14 9 (M2 := M) (f2 := (36, [some (.ref x0), some (.int (x1)), some (.ref x2), some (.int (x3)), some (.int (x4)), some (.int (x5))], [.int (iV M x2 (x3 + x5).toNatClampNeg), .int (iV M (x0 + 6) (x4 + x5).toNatClampNeg)])) rfl ⟨trivial, trivial, trivial, sm_K.a2 (kH_6 hS hx0) (lH_6 hS hx0) c2, trivial, trivial, trivial, trivial, sm_K.a2 (hx2.K hS) (hx2.L hS) c3, trivial⟩ ?_
    refine sm_w.cI t69 sr69 23 (i := 70) (as := [.int (iV M x2 (x3 + x5).toNatClampNeg)]) (g := (36, [some (.ref x0), some (.int (x1)), some (.ref x2), some (.int (x3)), some (.int (x4)), some (.int (x5))], [.int (iV M (x0 + 6) (x4 + x5).toNatClampNeg)])) rfl ⟨(Nat.le_of_ble_eq_true rfl), (Nat.le_of_ble_eq_true rfl)⟩ (Nat.le_of_ble_eq_true rfl) (by decide) (p70_c hS) (fun vz M2 hz => ?_)
    obtain ⟨hz1, hz2⟩ := hz
    subst hz1
    have hz2 := hz2.symm
    subst hz2
    refine sm_w.run t69 sr69 24 1 (M2 := M) (f2 := (if (iV M (x0 + 6) (x4 + x5).toNatClampNeg) = (p70_0 M (iV M x2 (x3 + x5).toNatClampNeg)) then 44 else 42, [some (.ref x0), some (.int (x1)), some (.ref x2), some (.int (x3)), some (.int (x4)), some (.int (x5))], [])) rfl ⟨trivial, trivial⟩ ?_
    refine sm_w.ite (fun hc => ?_) (fun hc => ?_)
    · have h := h.1 hc
      refine sm_w.run t69 sr69 27 2 (M2 := M) (f2 := (9, [some (.ref x0), some (.int (x1)), some (.ref x2), some (.int (x3)), some (.int (x4)), some (.int (x5 + (1 : Int32)))], [])) rfl ⟨(Nat.le_of_ble_eq_true rfl), trivial, trivial⟩ ?_
      exact h
    · have h := h.2 hc
      refine sm_w.run t69 sr69 25 1 (M2 := M) (f2 := (43, [some (.ref x0), some (.int (x1)), some (.ref x2), some (.int (x3)), some (.int (x4)), some (.int (x5))], [.int ((0 : Int32))])) rfl ⟨trivial, trivial⟩ ?_
      exact sm_w.end t69 sr69 26 (o := .returned (some (.int ((0 : Int32))))) (M2 := M) rfl rfl (by decide) (⟨_, rfl, h⟩)
-- 68 LineSetter$HyphenTable.exceptionOf([BII)I
theorem t68 : sP 68 = (5, sp_68, sh_68) := rfl
theorem sr68 : sm_srt sp_68 = true := by decide +kernel
theorem g68_0 {M : sm_M} {x0 : Nat} {x1 : Nat} {nx1 : Nat} {x2 : Int32} {x3 : Int32} {K : Int32 → sm_M → Prop} (hS : SH M) (hx0 : fH x0) (hx1 : sA x1 1 nx1) (h : sm_w 68 (3, [some (.ref x0), some (.ref x1), some (.int (x2)), some (.int (x3)), some (.int ((0 : Int32)))], []) M (rI K)) : sm_w 68 (sm_in sP 68 [.ref x0, .ref x1, .int (x2), .int (x3)]) M (rI K) := by
  show sm_w 68 (0, [some (.ref x0), some (.ref x1), some (.int (x2)), some (.int (x3)), none], []) M (rI K)
  refine sm_w.run t68 sr68 0 2 (M2 := M) (f2 := (3, [some (.ref x0), some (.ref x1), some (.int (x2)), some (.int (x3)), some (.int ((0 : Int32)))], [])) rfl ⟨trivial, (Nat.le_of_ble_eq_true rfl), trivial⟩ ?_
  exact h
theorem g68_1 {M : sm_M} {x0 : Nat} {x1 : Nat} {nx1 : Nat} {x2 : Int32} {x3 : Int32} {x4 : Int32} {K : Int32 → sm_M → Prop} (hS : SH M) (hx0 : fH x0) (hx1 : sA x1 1 nx1) (h : (((iV M x0 10) ≤ x4 → K (-1 : Int32) M) ∧ (¬ (iV M x0 10) ≤ x4 → (vp_in x4 60) ∧ (((iV M (x0 + 7) x4.toNatClampNeg) = x3 → sm_cI 69 [.ref x0, .int (x4), .ref x1, .int (x2)] M (fun v3 M2 => SH M2 → ((v3 = 0 → sm_w 68 (3, [some (.ref x0), some (.ref x1), some (.int (x2)), some (.int (x3)), some (.int (x4 + (1 : Int32)))], []) M2 (rI K)) ∧ (¬ v3 = 0 → K x4 M2)))) ∧ (¬ (iV M (x0 + 7) x4.toNatClampNeg) = x3 → sm_w 68 (3, [some (.ref x0), some (.ref x1), some (.int (x2)), some (.int (x3)), some (.int (x4 + (1 : Int32)))], []) M (rI K)))))) : sm_w 68 (3, [some (.ref x0), some (.ref x1), some (.int (x2)), some (.int (x3)), some (.int (x4))], []) M (rI K) := by
  refine sm_w.run t68 sr68 2 4 (M2 := M) (f2 := (if (iV M x0 10) ≤ x4 then 43 else 12, [some (.ref x0), some (.ref x1), some (.int (x2)), some (.int (x3)), some (.int (x4))], [])) rfl ⟨trivial, trivial, sm_K.g (kH_0 hS hx0) (sm_sh.rf _), trivial, trivial⟩ ?_
  refine sm_w.ite (fun hc => ?_) (fun hc => ?_)
  · have h := h.1 hc
    refine sm_w.run t68 sr68 22 1 (M2 := M) (f2 := (44, [some (.ref x0), some (.ref x1), some (.int (x2)), some (.int (x3)), some (.int (x4))], [.int ((-1 : Int32))])) rfl ⟨trivial, trivial⟩ ?_
    exact sm_w.end t68 sr68 23 (o := .returned (some (.int ((-1 : Int32))))) (M2 := M) rfl rfl (by decide) (⟨_, rfl, h⟩)
  · have h := h.2 hc
    refine sm_w.run t68 sr68 6 2 (M2 := M) (f2 := (16, [some (.ref x0), some (.ref x1), some (.int (x2)), some (.int (x3)), some (.int (x4))], [va_rf (sm_rv M x0 8)])) rfl ⟨trivial, sm_K.g (kH_0 hS hx0) (sm_sh.rf _), trivial⟩ ?_
    refine sm_w.fld (rH_8 hS hx0) ?_
    obtain ⟨c1, h⟩ := h
    refine sm_w.run t68 sr68 8 4 (M2 := M) (f2 := (if (iV M (x0 + 7) x4.toNatClampNeg) = x3 then 23 else 37, [some (.ref x0), some (.ref x1), some (.int (x2)), some (.int (x3)), some (.int (x4))], [])) rfl ⟨trivial, sm_K.a2 (kH_7 hS hx0) (lH_7 hS hx0) c1, trivial, trivial, trivial⟩ ?_
    refine sm_w.ite (fun hc => ?_) (fun hc => ?_)
    · have h := h.1 hc
      refine sm_w.run t68 sr68 12 4 (M2 := M) (f2 := (28, [some (.ref x0), some (.ref x1), some (.int (x2)), some (.int (x3)), some (.int (x4))], [.int (x2), .ref x1, .int (x4), .ref x0])) rfl ⟨trivial, trivial, trivial, trivial, trivial⟩ ?_
      refine sm_w.cI t68 sr68 16 (i := 69) (as := [.ref x0, .int (x4), .ref x1, .int (x2)]) (g := (28, [some (.ref x0), some (.ref x1), some (.int (x2)), some (.int (x3)), some (.int (x4))], [])) rfl ⟨by decide, by decide, (Nat.le_of_ble_eq_true rfl), (sm_K.g (kH_0 hS hx0) (sm_sh.rf _)).1, (sm_K.g (kH_0 hS hx0) (sm_sh.rf _)).2, (Nat.le_of_ble_eq_true rfl)⟩ (Nat.le_of_ble_eq_true rfl) (by decide) (sm_cI.s (by decide) hS h) (fun v3 M2 h => ?_)
      obtain ⟨hS4, h⟩ := h
      refine sm_w.run t68 sr68 17 1 (M2 := M2) (f2 := (if v3 = 0 then 37 else 34, [some (.ref x0), some (.ref x1), some (.int (x2)), some (.int (x3)), some (.int (x4))], [])) rfl ⟨trivial, trivial⟩ ?_
      refine sm_w.ite (fun hc => ?_) (fun hc => ?_)
      · have h := h.1 hc
        refine sm_w.run t68 sr68 20 2 (M2 := M2) (f2 := (3, [some (.ref x0), some (.ref x1), some (.int (x2)), some (.int (x3)), some (.int (x4 + (1 : Int32)))], [])) rfl ⟨(Nat.le_of_ble_eq_true rfl), trivial, trivial⟩ ?_
        exact h
      · have h := h.2 hc
        refine sm_w.run t68 sr68 18 1 (M2 := M2) (f2 := (36, [some (.ref x0), some (.ref x1), some (.int (x2)), some (.int (x3)), some (.int (x4))], [.int (x4)])) rfl ⟨trivial, trivial⟩ ?_
        exact sm_w.end t68 sr68 19 (o := .returned (some (.int (x4)))) (M2 := M2) rfl rfl (by decide) (⟨_, rfl, h⟩)
    · have h := h.2 hc
      refine sm_w.run t68 sr68 20 2 (M2 := M) (f2 := (3, [some (.ref x0), some (.ref x1), some (.int (x2)), some (.int (x3)), some (.int (x4 + (1 : Int32)))], [])) rfl ⟨(Nat.le_of_ble_eq_true rfl), trivial, trivial⟩ ?_
      exact h
-- 67 LineSetter$HyphenTable.tellException([BII)Z
theorem t67 : sP 67 = (5, sp_67, sh_67) := rfl
theorem sr67 : sm_srt sp_67 = true := by decide +kernel
theorem g67_0 {M : sm_M} {x0 : Nat} {x1 : Nat} {nx1 : Nat} {x2 : Int32} {x3 : Int32} {K : Int32 → sm_M → Prop} (hS : SH M) (hx0 : fH x0) (hx1 : sA x1 1 nx1) (h : sm_cI 68 [.ref x0, .ref x1, .int ((0 : Int32)), .int (x2)] M (fun v2 M1 => SH M1 → ((0 ≤ v2 → (vp_in v2 60) ∧ ∀ M5, SH M5 → M5 = sm_wI M1 (x0 + 8) v2.toNatClampNeg x3 → K (1 : Int32) M5) ∧ (¬ 0 ≤ v2 → (((60 : Int32) ≤ (iV M1 x0 10) → K (0 : Int32) M1) ∧ (¬ (60 : Int32) ≤ (iV M1 x0 10) → ((x2 ≤ (30 : Int32) → ∀ M7, SH M7 → M7 = sm_wI M1 x0 10 ((iV M1 x0 10) + (1 : Int32)) → (x1 ≠ (x0 + 6) ∧ ¬ (0 : Int32) < 0 ∧ ¬ ((iV M1 x0 10) * (30 : Int32)) < 0 ∧ ¬ x2 < 0 ∧ (0 : Int32).toNatClampNeg + x2.toNatClampNeg ≤ nx1 ∧ ((iV M1 x0 10) * (30 : Int32)).toNatClampNeg + x2.toNatClampNeg ≤ 1800 ∧ ∀ i, i < x2.toNatClampNeg → fits .byte (.int (iV M7 x1 ((0 : Int32).toNatClampNeg + i))) = true) ∧ ∀ M10, SH M10 → M10 = sm_cp M7 x1 (x0 + 6) (0 : Int32).toNatClampNeg ((iV M1 x0 10) * (30 : Int32)).toNatClampNeg x2.toNatClampNeg → (vp_in (iV M1 x0 10) 60) ∧ ∀ M13, SH M13 → M13 = sm_wI M10 (x0 + 7) (iV M1 x0 10).toNatClampNeg x2 → (vp_in (iV M1 x0 10) 60) ∧ ∀ M16, SH M16 → M16 = sm_wI M13 (x0 + 8) (iV M1 x0 10).toNatClampNeg x3 → K (1 : Int32) M16) ∧ (¬ x2 ≤ (30 : Int32) → K (0 : Int32) M1)))))))) : sm_w 67 (sm_in sP 67 [.ref x0, .ref x1, .int (x2), .int (x3)]) M (rI K) := by
  show sm_w 67 (0, [some (.ref x0), some (.ref x1), some (.int (x2)), some (.int (x3)), none], []) M (rI K)
  refine sm_w.run t67 sr67 0 4 (M2 := M) (f2 := (4, [some (.ref x0), some (.ref x1), some (.int (x2)), some (.int (x3)), none], [.int (x2), .int ((0 : Int32)), .ref x1, .ref x0])) rfl ⟨trivial, trivial, trivial, trivial, trivial⟩ ?_
  refine sm_w.cI t67 sr67 4 (i := 68) (as := [.ref x0, .ref x1, .int ((0 : Int32)), .int (x2)]) (g := (4, [some (.ref x0), some (.ref x1), some (.int (x2)), some (.int (x3)), none], [])) rfl ⟨by decide, by decide, (Nat.le_of_ble_eq_true rfl), (sm_K.g (kH_0 hS hx0) (sm_sh.rf _)).1, (sm_K.g (kH_0 hS hx0) (sm_sh.rf _)).2, (Nat.le_of_ble_eq_true rfl)⟩ (Nat.le_of_ble_eq_true rfl) (by decide) (sm_cI.s (by decide) hS h) (fun v2 M1 h => ?_)
  obtain ⟨hS3, h⟩ := h
  refine sm_w.run t67 sr67 5 3 (M2 := M1) (f2 := (if 0 ≤ v2 then 70 else 14, [some (.ref x0), some (.ref x1), some (.int (x2)), some (.int (x3)), some (.int (v2))], [])) rfl ⟨(Nat.le_of_ble_eq_true rfl), trivial, trivial, trivial⟩ ?_
  refine sm_w.ite (fun hc => ?_) (fun hc => ?_)
  · have h := h.1 hc
    refine sm_w.run t67 sr67 40 2 (M2 := M1) (f2 := (74, [some (.ref x0), some (.ref x1), some (.int (x2)), some (.int (x3)), some (.int (v2))], [va_rf (sm_rv M1 x0 9)])) rfl ⟨trivial, sm_K.g (kH_0 hS3 hx0) (sm_sh.rf _), trivial⟩ ?_
    refine sm_w.fld (rH_9 hS3 hx0) ?_
    obtain ⟨c4, h⟩ := h
    refine sm_w.run t67 sr67 42 3 (M2 := sm_wI M1 (x0 + 8) v2.toNatClampNeg x3) (f2 := (78, [some (.ref x0), some (.ref x1), some (.int (x2)), some (.int (x3)), some (.int (v2))], [])) rfl ⟨trivial, trivial, sm_K.s2 (kH_8 hS3 hx0) (lH_8 hS3 hx0) c4, trivial⟩ ?_
    have hS6 : SH (sm_wI M1 (x0 + 8) v2.toNatClampNeg x3) := SH.wI hS3 _ _ _
    have h := h _ hS6 rfl
    generalize sm_wI M1 (x0 + 8) v2.toNatClampNeg x3 = M5 at h hS6 ⊢
    refine sm_w.run t67 sr67 45 1 (M2 := M5) (f2 := (79, [some (.ref x0), some (.ref x1), some (.int (x2)), some (.int (x3)), some (.int (v2))], [.int ((1 : Int32))])) rfl ⟨trivial, trivial⟩ ?_
    exact sm_w.end t67 sr67 46 (o := .returned (some (.int ((1 : Int32))))) (M2 := M5) rfl rfl (by decide) (⟨_, rfl, h⟩)
  · have h := h.2 hc
    refine sm_w.run t67 sr67 8 4 (M2 := M1) (f2 := (if (60 : Int32) ≤ (iV M1 x0 10) then 29 else 23, [some (.ref x0), some (.ref x1), some (.int (x2)), some (.int (x3)), some (.int (v2))], [])) rfl ⟨trivial, sm_K.g (kH_0 hS3 hx0) (sm_sh.rf _), trivial, trivial, trivial⟩ ?_
    refine sm_w.ite (fun hc => ?_) (fun hc => ?_)
    · have h := h.1 hc
      refine sm_w.run t67 sr67 15 1 (M2 := M1) (f2 := (30, [some (.ref x0), some (.ref x1), some (.int (x2)), some (.int (x3)), some (.int (v2))], [.int ((0 : Int32))])) rfl ⟨trivial, trivial⟩ ?_
      exact sm_w.end t67 sr67 16 (o := .returned (some (.int ((0 : Int32))))) (M2 := M1) rfl rfl (by decide) (⟨_, rfl, h⟩)
    · have h := h.2 hc
      refine sm_w.run t67 sr67 12 3 (M2 := M1) (f2 := (if x2 ≤ (30 : Int32) then 31 else 29, [some (.ref x0), some (.ref x1), some (.int (x2)), some (.int (x3)), some (.int (v2))], [])) rfl ⟨trivial, trivial, trivial, trivial⟩ ?_
      refine sm_w.ite (fun hc => ?_) (fun hc => ?_)
      · have h := h.1 hc
        refine sm_w.run t67 sr67 17 9 (M2 := sm_wI M1 x0 10 ((iV M1 x0 10) + (1 : Int32))) (f2 := (47, [some (.ref x0), some (.ref x1), some (.int (x2)), some (.int (x3)), some (.int (iV M1 x0 10))], [])) rfl ⟨trivial, sm_K.g (kH_0 hS3 hx0) (sm_sh.rf _), (Nat.le_of_ble_eq_true rfl), trivial, rfl, sm_K.g (kH_0 hS3 hx0) (sm_sh.rf _), trivial, trivial, ⟨(sm_K.p (kH_0 hS3 hx0) (sm_sh.rf _)).1, (sm_K.p (kH_0 hS3 hx0) (sm_sh.rf _)).2.1, (sm_K.p (kH_0 hS3 hx0) (sm_sh.rf _)).2.2, Or.inl rfl⟩, trivial⟩ ?_
        have hS8 : SH (sm_wI M1 x0 10 ((iV M1 x0 10) + (1 : Int32))) := SH.wI hS3 _ _ _
        have h := h _ hS8 rfl
        generalize sm_wI M1 x0 10 ((iV M1 x0 10) + (1 : Int32)) = M7 at h hS8 ⊢
        refine sm_w.run t67 sr67 26 4 (M2 := M7) (f2 := (53, [some (.ref x0), some (.ref x1), some (.int (x2)), some (.int (x3)), some (.int (iV M1 x0 10))], [va_rf (sm_rv M7 x0 7), .int ((0 : Int32)), .ref x1])) rfl ⟨trivial, trivial, trivial, sm_K.g (kH_0 hS8 hx0) (sm_sh.rf _), trivial⟩ ?_
        refine sm_w.fld (rH_7 hS8 hx0) ?_
        obtain ⟨c9, h⟩ := h
        refine sm_w.run t67 sr67 30 5 (M2 := sm_cp M7 x1 (x0 + 6) (0 : Int32).toNatClampNeg ((iV M1 x0 10) * (30 : Int32)).toNatClampNeg x2.toNatClampNeg) (f2 := (62, [some (.ref x0), some (.ref x1), some (.int (x2)), some (.int (x3)), some (.int (iV M1 x0 10))], [])) rfl ⟨trivial, trivial, trivial, trivial, ⟨sm_cpK2 (kH_6 hS8 hx0) (hx1.K hS8) (lH_6 hS8 hx0) (hx1.L hS8) c9, (Nat.le_of_ble_eq_true rfl)⟩, trivial⟩ ?_
        have hS11 : SH (sm_cp M7 x1 (x0 + 6) (0 : Int32).toNatClampNeg ((iV M1 x0 10) * (30 : Int32)).toNatClampNeg x2.toNatClampNeg) := SH.cp hS8 _ _ _ _ _
        have h := h _ hS11 rfl
        generalize sm_cp M7 x1 (x0 + 6) (0 : Int32).toNatClampNeg ((iV M1 x0 10) * (30 : Int32)).toNatClampNeg x2.toNatClampNeg = M10 at h hS11 ⊢
        refine sm_w.run t67 sr67 35 2 (M2 := M10) (f2 := (66, [some (.ref x0), some (.ref x1), some (.int (x2)), some (.int (x3)), some (.int (iV M1 x0 10))], [va_rf (sm_rv M10 x0 8)])) rfl ⟨trivial, sm_K.g (kH_0 hS11 hx0) (sm_sh.rf _), trivial⟩ ?_
        refine sm_w.fld (rH_8 hS11 hx0) ?_
        obtain ⟨c12, h⟩ := h
        refine sm_w.run t67 sr67 37 3 (M2 := sm_wI M10 (x0 + 7) (iV M1 x0 10).toNatClampNeg x2) (f2 := (70, [some (.ref x0), some (.ref x1), some (.int (x2)), some (.int (x3)), some (.int (iV M1 x0 10))], [])) rfl ⟨trivial, trivial, sm_K.s2 (kH_7 hS11 hx0) (lH_7 hS11 hx0) c12, trivial⟩ ?_
        have hS14 : SH (sm_wI M10 (x0 + 7) (iV M1 x0 10).toNatClampNeg x2) := SH.wI hS11 _ _ _
        have h := h _ hS14 rfl
        generalize sm_wI M10 (x0 + 7) (iV M1 x0 10).toNatClampNeg x2 = M13 at h hS14 ⊢
        refine sm_w.run t67 sr67 40 2 (M2 := M13) (f2 := (74, [some (.ref x0), some (.ref x1), some (.int (x2)), some (.int (x3)), some (.int (iV M1 x0 10))], [va_rf (sm_rv M13 x0 9)])) rfl ⟨trivial, sm_K.g (kH_0 hS14 hx0) (sm_sh.rf _), trivial⟩ ?_
        refine sm_w.fld (rH_9 hS14 hx0) ?_
        obtain ⟨c15, h⟩ := h
        refine sm_w.run t67 sr67 42 3 (M2 := sm_wI M13 (x0 + 8) (iV M1 x0 10).toNatClampNeg x3) (f2 := (78, [some (.ref x0), some (.ref x1), some (.int (x2)), some (.int (x3)), some (.int (iV M1 x0 10))], [])) rfl ⟨trivial, trivial, sm_K.s2 (kH_8 hS14 hx0) (lH_8 hS14 hx0) c15, trivial⟩ ?_
        have hS17 : SH (sm_wI M13 (x0 + 8) (iV M1 x0 10).toNatClampNeg x3) := SH.wI hS14 _ _ _
        have h := h _ hS17 rfl
        generalize sm_wI M13 (x0 + 8) (iV M1 x0 10).toNatClampNeg x3 = M16 at h hS17 ⊢
        refine sm_w.run t67 sr67 45 1 (M2 := M16) (f2 := (79, [some (.ref x0), some (.ref x1), some (.int (x2)), some (.int (x3)), some (.int (iV M1 x0 10))], [.int ((1 : Int32))])) rfl ⟨trivial, trivial⟩ ?_
        exact sm_w.end t67 sr67 46 (o := .returned (some (.int ((1 : Int32))))) (M2 := M16) rfl rfl (by decide) (⟨_, rfl, h⟩)
      · have h := h.2 hc
        refine sm_w.run t67 sr67 15 1 (M2 := M1) (f2 := (30, [some (.ref x0), some (.ref x1), some (.int (x2)), some (.int (x3)), some (.int (v2))], [.int ((0 : Int32))])) rfl ⟨trivial, trivial⟩ ?_
        exact sm_w.end t67 sr67 16 (o := .returned (some (.int ((0 : Int32))))) (M2 := M1) rfl rfl (by decide) (⟨_, rfl, h⟩)
-- 64 LineSetter$HyphenReader.readException(LLineSetter$HyphenTable;)Z
theorem t64 : sP 64 = (6, sp_64, sh_64) := rfl
theorem sr64 : sm_srt sp_64 = true := by decide +kernel
theorem g64_0 {M : sm_M} {x1 : Nat} {K : Int32 → sm_M → Prop} (hS : SH M) (hx1 : fH x1) (h : ∀ M1, SH M1 → M1 = sm_wI M 34 4 (0 : Int32) → sm_w 64 (17, [some (.ref 34), some (.ref x1), some (.int ((0 : Int32))), some (.int ((0 : Int32))), some (.int ((iV M1 34 1) + (1 : Int32))), none], []) M1 (rI K)) : sm_w 64 (sm_in sP 64 [.ref 34, .ref x1]) M (rI K) := by
  show sm_w 64 (0, [some (.ref 34), some (.ref x1), none, none, none, none], []) M (rI K)
  refine sm_w.run t64 sr64 0 3 (M2 := sm_wI M 34 4 (0 : Int32)) (f2 := (5, [some (.ref 34), some (.ref x1), none, none, none, none], [])) rfl ⟨trivial, trivial, ⟨(sm_K.p (k_34 hS) (sm_sh.rf _)).1, (sm_K.p (k_34 hS) (sm_sh.rf _)).2.1, (sm_K.p (k_34 hS) (sm_sh.rf _)).2.2, Or.inl rfl⟩, trivial⟩ ?_
  have hS2 : SH (sm_wI M 34 4 (0 : Int32)) := SH.wI hS _ _ _
  have h := h _ hS2 rfl
  generalize sm_wI M 34 4 (0 : Int32) = M1 at h hS2 ⊢
  refine sm_w.run t64 sr64 3 9 (M2 := M1) (f2 := (17, [some (.ref 34), some (.ref x1), some (.int ((0 : Int32))), some (.int ((0 : Int32))), some (.int ((iV M1 34 1) + (1 : Int32))), none], [])) rfl ⟨trivial, (Nat.le_of_ble_eq_true rfl), trivial, (Nat.le_of_ble_eq_true rfl), trivial, sm_K.g (k_34 hS2) (sm_sh.rf _), trivial, trivial, (Nat.le_of_ble_eq_true rfl), trivial⟩ ?_
  exact h
theorem g64_1 {M : sm_M} {x1 : Nat} {x2 : Int32} {x3 : Int32} {x4 : Int32} {K : Int32 → sm_M → Prop} (hS : SH M) (hx1 : fH x1) (h : (((iV M 34 2) ≤ x4 → ((x3 = 0 → K (0 : Int32) M) ∧ (¬ x3 = 0 → sm_cI 67 [.ref x1, .ref 35, .int (iV M 34 4), .int (x2)] M (fun v2 M1 => SH M1 → ((v2 = 0 → K (0 : Int32) M1) ∧ (¬ v2 = 0 → K (1 : Int32) M1)))))) ∧ (¬ (iV M 34 2) ≤ x4 → (q30_0 M 24 x4) ∧ (((p30_0 M 24 x4) = (45 : Int32) → ((x3 = 0 → K (0 : Int32) M) ∧ (¬ x3 = 0 → sm_w 64 (17, [some (.ref 34), some (.ref x1), some (.int (x2 ||| ((1 : Int32) <<< ((iV M 34 4) &&& 31)))), some (.int ((0 : Int32))), some (.int (x4 + (1 : Int32))), none], []) M (rI K)))) ∧ (¬ (p30_0 M 24 x4) = (45 : Int32) → sm_cI 65 [.ref 34, .int (p30_0 M 24 x4), .int ((30 : Int32))] M (fun v6 M5 => SH M5 → ((v6 = 0 → K (0 : Int32) M5) ∧ (¬ v6 = 0 → sm_w 64 (17, [some (.ref 34), some (.ref x1), some (.int (x2)), some (.int ((1 : Int32))), some (.int (x4 + (1 : Int32))), none], []) M5 (rI K))))))))) : sm_w 64 (17, [some (.ref 34), some (.ref x1), some (.int (x2)), some (.int (x3)), some (.int (x4)), none], []) M (rI K) := by
  refine sm_w.run t64 sr64 12 4 (M2 := M) (f2 := (if (iV M 34 2) ≤ x4 then 88 else 26, [some (.ref 34), some (.ref x1), some (.int (x2)), some (.int (x3)), some (.int (x4)), none], [])) rfl ⟨trivial, trivial, sm_K.g (k_34 hS) (sm_sh.rf _), trivial, trivial⟩ ?_
  refine sm_w.ite (fun hc => ?_) (fun hc => ?_)
  · have h := h.1 hc
    refine sm_w.run t64 sr64 50 2 (M2 := M) (f2 := (if x3 = 0 then 112 else 92, [some (.ref 34), some (.ref x1), some (.int (x2)), some (.int (x3)), some (.int (x4)), none], [])) rfl ⟨trivial, trivial, trivial⟩ ?_
    refine sm_w.ite (fun hc => ?_) (fun hc => ?_)
    · have h := h.1 hc
      refine sm_w.run t64 sr64 62 1 (M2 := M) (f2 := (113, [some (.ref 34), some (.ref x1), some (.int (x2)), some (.int (x3)), some (.int (x4)), none], [.int ((0 : Int32))])) rfl ⟨trivial, trivial⟩ ?_
      exact sm_w.end t64 sr64 63 (o := .returned (some (.int ((0 : Int32))))) (M2 := M) rfl rfl (by decide) (⟨_, rfl, h⟩)
    · have h := h.2 hc
      refine sm_w.run t64 sr64 52 3 (M2 := M) (f2 := (97, [some (.ref 34), some (.ref x1), some (.int (x2)), some (.int (x3)), some (.int (x4)), none], [va_rf (sm_rv M 34 3), .ref x1])) rfl ⟨trivial, trivial, sm_K.g (k_34 hS) (sm_sh.rf _), trivial⟩ ?_
      refine sm_w.fld (r_34_3 hS) ?_
      refine sm_w.run t64 sr64 55 3 (M2 := M) (f2 := (102, [some (.ref 34), some (.ref x1), some (.int (x2)), some (.int (x3)), some (.int (x4)), none], [.int (x2), .int (iV M 34 4), .ref 35, .ref x1])) rfl ⟨trivial, sm_K.g (k_34 hS) (sm_sh.rf _), trivial, trivial⟩ ?_
      refine sm_w.cI t64 sr64 58 (i := 67) (as := [.ref x1, .ref 35, .int (iV M 34 4), .int (x2)]) (g := (102, [some (.ref 34), some (.ref x1), some (.int (x2)), some (.int (x3)), some (.int (x4)), none], [])) rfl ⟨by decide, by decide, (Nat.le_of_ble_eq_true rfl), (sm_K.g (kH_0 hS hx1) (sm_sh.rf _)).1, (sm_K.g (kH_0 hS hx1) (sm_sh.rf _)).2, (Nat.le_of_ble_eq_true rfl)⟩ (Nat.le_of_ble_eq_true rfl) (by decide) (sm_cI.s (by decide) hS h) (fun v2 M1 h => ?_)
      obtain ⟨hS3, h⟩ := h
      refine sm_w.run t64 sr64 59 1 (M2 := M1) (f2 := (if v2 = 0 then 112 else 108, [some (.ref 34), some (.ref x1), some (.int (x2)), some (.int (x3)), some (.int (x4)), none], [])) rfl ⟨trivial, trivial⟩ ?_
      refine sm_w.ite (fun hc => ?_) (fun hc => ?_)
      · have h := h.1 hc
        refine sm_w.run t64 sr64 62 1 (M2 := M1) (f2 := (113, [some (.ref 34), some (.ref x1), some (.int (x2)), some (.int (x3)), some (.int (x4)), none], [.int ((0 : Int32))])) rfl ⟨trivial, trivial⟩ ?_
        exact sm_w.end t64 sr64 63 (o := .returned (some (.int ((0 : Int32))))) (M2 := M1) rfl rfl (by decide) (⟨_, rfl, h⟩)
      · have h := h.2 hc
        refine sm_w.run t64 sr64 60 2 (M2 := M1) (f2 := (113, [some (.ref 34), some (.ref x1), some (.int (x2)), some (.int (x3)), some (.int (x4)), none], [.int ((1 : Int32))])) rfl ⟨trivial, trivial, trivial⟩ ?_
        exact sm_w.end t64 sr64 63 (o := .returned (some (.int ((1 : Int32))))) (M2 := M1) rfl rfl (by decide) (⟨_, rfl, h⟩)
  · have h := h.2 hc
    refine sm_w.run t64 sr64 16 2 (M2 := M) (f2 := (30, [some (.ref 34), some (.ref x1), some (.int (x2)), some (.int (x3)), some (.int (x4)), none], [va_rf (sm_rv M 34 0)])) rfl ⟨trivial, sm_K.g (k_34 hS) (sm_sh.rf _), trivial⟩ ?_
    refine sm_w.fld (r_34_0 hS) ?_
    obtain ⟨c4, h⟩ := h
    refine sm_w.run t64 sr64 18 1 (M2 := M) (f2 := (32, [some (.ref 34), some (.ref x1), some (.int (x2)), some (.int (x3)), some (.int (x4)), none], [.int (x4), .ref 24])) rfl ⟨trivial, trivial⟩ ?_
    refine sm_w.cI t64 sr64 19 (i := 30) (as := [.ref 24, .int (x4)]) (g := (32, [some (.ref 34), some (.ref x1), some (.int (x2)), some (.int (x3)), some (.int (x4)), none], [])) rfl ⟨by decide, by decide, (Nat.le_of_ble_eq_true rfl), (sm_K.g (kB_0 hS fB_24) (sm_sh.rf _)).1, (sm_K.g (kB_0 hS fB_24) (sm_sh.rf _)).2, (Nat.le_of_ble_eq_true rfl)⟩ (Nat.le_of_ble_eq_true rfl) (by decide) (p30_c hS fB_24 c4) (fun vz M2 hz => ?_)
    obtain ⟨hz1, hz2⟩ := hz
    subst hz1
    have hz2 := hz2.symm
    subst hz2
    refine sm_w.run t64 sr64 20 4 (M2 := M) (f2 := (if (p30_0 M 24 x4) = (45 : Int32) then 44 else 64, [some (.ref 34), some (.ref x1), some (.int (x2)), some (.int (x3)), some (.int (x4)), some (.int (p30_0 M 24 x4))], [])) rfl ⟨(Nat.le_of_ble_eq_true rfl), trivial, trivial, trivial, trivial⟩ ?_
    refine sm_w.ite (fun hc => ?_) (fun hc => ?_)
    · have h := h.1 hc
      refine sm_w.run t64 sr64 24 2 (M2 := M) (f2 := (if x3 = 0 then 48 else 50, [some (.ref 34), some (.ref x1), some (.int (x2)), some (.int (x3)), some (.int (x4)), some (.int (p30_0 M 24 x4))], [])) rfl ⟨trivial, trivial, trivial⟩ ?_
      refine sm_w.ite (fun hc => ?_) (fun hc => ?_)
      · have h := h.1 hc
        refine sm_w.run t64 sr64 26 1 (M2 := M) (f2 := (49, [some (.ref 34), some (.ref x1), some (.int (x2)), some (.int (x3)), some (.int (x4)), some (.int (p30_0 M 24 x4))], [.int ((0 : Int32))])) rfl ⟨trivial, trivial⟩ ?_
        exact sm_w.end t64 sr64 27 (o := .returned (some (.int ((0 : Int32))))) (M2 := M) rfl rfl (by decide) (⟨_, rfl, h⟩)
      · have h := h.2 hc
        refine sm_w.run t64 sr64 28 10 (M2 := M) (f2 := (82, [some (.ref 34), some (.ref x1), some (.int (x2 ||| ((1 : Int32) <<< ((iV M 34 4) &&& 31)))), some (.int ((0 : Int32))), some (.int (x4)), some (.int (p30_0 M 24 x4))], [])) rfl ⟨trivial, trivial, trivial, sm_K.g (k_34 hS) (sm_sh.rf _), trivial, trivial, (Nat.le_of_ble_eq_true rfl), trivial, (Nat.le_of_ble_eq_true rfl), trivial, trivial⟩ ?_
        refine sm_w.run t64 sr64 48 2 (M2 := M) (f2 := (17, [some (.ref 34), some (.ref x1), some (.int (x2 ||| ((1 : Int32) <<< ((iV M 34 4) &&& 31)))), some (.int ((0 : Int32))), some (.int (x4 + (1 : Int32))), some (.int (p30_0 M 24 x4))], [])) rfl ⟨(Nat.le_of_ble_eq_true rfl), trivial, trivial⟩ ?_
        refine sm_w.weak (ls := [some (.ref 34), some (.ref x1), some (.int (x2 ||| ((1 : Int32) <<< ((iV M 34 4) &&& 31)))), some (.int ((0 : Int32))), some (.int (x4 + (1 : Int32))), none]) (sm_leI [true, true, true, true, true, false] rfl) ?_
        exact h
    · have h := h.2 hc
      refine sm_w.run t64 sr64 38 3 (M2 := M) (f2 := (69, [some (.ref 34), some (.ref x1), some (.int (x2)), some (.int (x3)), some (.int (x4)), some (.int (p30_0 M 24 x4))], [.int ((30 : Int32)), .int (p30_0 M 24 x4), .ref 34])) rfl ⟨trivial, trivial, trivial, trivial⟩ ?_
      refine sm_w.cI t64 sr64 41 (i := 65) (as := [.ref 34, .int (p30_0 M 24 x4), .int ((30 : Int32))]) (g := (69, [some (.ref 34), some (.ref x1), some (.int (x2)), some (.int (x3)), some (.int (x4)), some (.int (p30_0 M 24 x4))], [])) rfl ⟨by decide, by decide, (Nat.le_of_ble_eq_true rfl), (sm_K.g (k_34 hS) (sm_sh.rf _)).1, (sm_K.g (k_34 hS) (sm_sh.rf _)).2, (Nat.le_of_ble_eq_true rfl)⟩ (Nat.le_of_ble_eq_true rfl) (by decide) (sm_cI.s (by decide) hS h) (fun v6 M5 h => ?_)
      obtain ⟨hS7, h⟩ := h
      refine sm_w.run t64 sr64 42 1 (M2 := M5) (f2 := (if v6 = 0 then 80 else 75, [some (.ref 34), some (.ref x1), some (.int (x2)), some (.int (x3)), some (.int (x4)), some (.int (p30_0 M 24 x4))], [])) rfl ⟨trivial, trivial⟩ ?_
      refine sm_w.ite (fun hc => ?_) (fun hc => ?_)
      · have h := h.1 hc
        refine sm_w.run t64 sr64 46 1 (M2 := M5) (f2 := (81, [some (.ref 34), some (.ref x1), some (.int (x2)), some (.int (x3)), some (.int (x4)), some (.int (p30_0 M 24 x4))], [.int ((0 : Int32))])) rfl ⟨trivial, trivial⟩ ?_
        exact sm_w.end t64 sr64 47 (o := .returned (some (.int ((0 : Int32))))) (M2 := M5) rfl rfl (by decide) (⟨_, rfl, h⟩)
      · have h := h.2 hc
        refine sm_w.run t64 sr64 43 3 (M2 := M5) (f2 := (82, [some (.ref 34), some (.ref x1), some (.int (x2)), some (.int ((1 : Int32))), some (.int (x4)), some (.int (p30_0 M 24 x4))], [])) rfl ⟨trivial, (Nat.le_of_ble_eq_true rfl), trivial, trivial⟩ ?_
        refine sm_w.run t64 sr64 48 2 (M2 := M5) (f2 := (17, [some (.ref 34), some (.ref x1), some (.int (x2)), some (.int ((1 : Int32))), some (.int (x4 + (1 : Int32))), some (.int (p30_0 M 24 x4))], [])) rfl ⟨(Nat.le_of_ble_eq_true rfl), trivial, trivial⟩ ?_
        refine sm_w.weak (ls := [some (.ref 34), some (.ref x1), some (.int (x2)), some (.int ((1 : Int32))), some (.int (x4 + (1 : Int32))), none]) (sm_leI [true, true, true, true, true, false] rfl) ?_
        exact h
-- 73 LineSetter$HyphenTable.childOf(II)I
theorem t73 : sP 73 = (5, sp_73, sh_73) := rfl
theorem sr73 : sm_srt sp_73 = true := by decide +kernel
theorem g73_0 {M : sm_M} {x0 : Nat} {x1 : Int32} {x2 : Int32} {K : Int32 → sm_M → Prop} (hS : SH M) (hx0 : fH x0) (h : (vp_in x1 4201) ∧ sm_w 73 (10, [some (.ref x0), none, some (.int (x2)), some (.int (iV M (x0 + 1) x1.toNatClampNeg)), some (.int ((0 : Int32)))], []) M (rI K)) : sm_w 73 (sm_in sP 73 [.ref x0, .int (x1), .int (x2)]) M (rI K) := by
  show sm_w 73 (0, [some (.ref x0), some (.int (x1)), some (.int (x2)), none, none], []) M (rI K)
  refine sm_w.run t73 sr73 0 2 (M2 := M) (f2 := (4, [some (.ref x0), some (.int (x1)), some (.int (x2)), none, none], [va_rf (sm_rv M x0 0)])) rfl ⟨trivial, sm_K.g (kH_0 hS hx0) (sm_sh.rf _), trivial⟩ ?_
  refine sm_w.fld (rH_0 hS hx0) ?_
  obtain ⟨c1, h⟩ := h
  refine sm_w.run t73 sr73 2 5 (M2 := M) (f2 := (10, [some (.ref x0), some (.int (x1)), some (.int (x2)), some (.int (iV M (x0 + 1) x1.toNatClampNeg)), some (.int ((0 : Int32)))], [])) rfl ⟨trivial, sm_K.a2 (kH_1 hS hx0) (lH_1 hS hx0) c1, (Nat.le_of_ble_eq_true rfl), trivial, (Nat.le_of_ble_eq_true rfl), trivial⟩ ?_
  refine sm_w.weak (ls := [some (.ref x0), none, some (.int (x2)), some (.int (iV M (x0 + 1) x1.toNatClampNeg)), some (.int ((0 : Int32)))]) (sm_leI [true, false, true, true, true] rfl) ?_
  exact h
theorem g73_1 {M : sm_M} {x0 : Nat} {x2 : Int32} {x3 : Int32} {x4 : Int32} {K : Int32 → sm_M → Prop} (hS : SH M) (hx0 : fH x0) (h : (((iV M x0 4) ≤ x4 → K (-1 : Int32) M) ∧ (¬ (iV M x0 4) ≤ x4 → ((x3 < 0 → K (-1 : Int32) M) ∧ (¬ x3 < 0 → (vp_in x3 4201) ∧ (((iV M (x0 + 3) x3.toNatClampNeg) = x2 → K x3 M) ∧ (¬ (iV M (x0 + 3) x3.toNatClampNeg) = x2 → (vp_in x3 4201) ∧ sm_w 73 (10, [some (.ref x0), none, some (.int (x2)), some (.int (iV M (x0 + 2) x3.toNatClampNeg)), some (.int (x4 + (1 : Int32)))], []) M (rI K)))))))) : sm_w 73 (10, [some (.ref x0), none, some (.int (x2)), some (.int (x3)), some (.int (x4))], []) M (rI K) := by
  refine sm_w.run t73 sr73 7 4 (M2 := M) (f2 := (if (iV M x0 4) ≤ x4 then 48 else 19, [some (.ref x0), none, some (.int (x2)), some (.int (x3)), some (.int (x4))], [])) rfl ⟨trivial, trivial, sm_K.g (kH_0 hS hx0) (sm_sh.rf _), trivial, trivial⟩ ?_
  refine sm_w.ite (fun hc => ?_) (fun hc => ?_)
  · have h := h.1 hc
    refine sm_w.run t73 sr73 28 1 (M2 := M) (f2 := (49, [some (.ref x0), none, some (.int (x2)), some (.int (x3)), some (.int (x4))], [.int ((-1 : Int32))])) rfl ⟨trivial, trivial⟩ ?_
    exact sm_w.end t73 sr73 29 (o := .returned (some (.int ((-1 : Int32))))) (M2 := M) rfl rfl (by decide) (⟨_, rfl, h⟩)
  · have h := h.2 hc
    refine sm_w.run t73 sr73 11 2 (M2 := M) (f2 := (if x3 < 0 then 48 else 23, [some (.ref x0), none, some (.int (x2)), some (.int (x3)), some (.int (x4))], [])) rfl ⟨trivial, trivial, trivial⟩ ?_
    refine sm_w.ite (fun hc => ?_) (fun hc => ?_)
    · have h := h.1 hc
      refine sm_w.run t73 sr73 28 1 (M2 := M) (f2 := (49, [some (.ref x0), none, some (.int (x2)), some (.int (x3)), some (.int (x4))], [.int ((-1 : Int32))])) rfl ⟨trivial, trivial⟩ ?_
      exact sm_w.end t73 sr73 29 (o := .returned (some (.int ((-1 : Int32))))) (M2 := M) rfl rfl (by decide) (⟨_, rfl, h⟩)
    · have h := h.2 hc
      refine sm_w.run t73 sr73 13 2 (M2 := M) (f2 := (27, [some (.ref x0), none, some (.int (x2)), some (.int (x3)), some (.int (x4))], [va_rf (sm_rv M x0 2)])) rfl ⟨trivial, sm_K.g (kH_0 hS hx0) (sm_sh.rf _), trivial⟩ ?_
      refine sm_w.fld (rH_2 hS hx0) ?_
      obtain ⟨c1, h⟩ := h
      refine sm_w.run t73 sr73 15 4 (M2 := M) (f2 := (if (iV M (x0 + 3) x3.toNatClampNeg) = x2 then 33 else 35, [some (.ref x0), none, some (.int (x2)), some (.int (x3)), some (.int (x4))], [])) rfl ⟨trivial, sm_K.a2 (kH_3 hS hx0) (lH_3 hS hx0) c1, trivial, trivial, trivial⟩ ?_
      refine sm_w.ite (fun hc => ?_) (fun hc => ?_)
      · have h := h.1 hc
        refine sm_w.run t73 sr73 19 1 (M2 := M) (f2 := (34, [some (.ref x0), none, some (.int (x2)), some (.int (x3)), some (.int (x4))], [.int (x3)])) rfl ⟨trivial, trivial⟩ ?_
        exact sm_w.end t73 sr73 20 (o := .returned (some (.int (x3)))) (M2 := M) rfl rfl (by decide) (⟨_, rfl, h⟩)
      · have h := h.2 hc
        refine sm_w.run t73 sr73 21 2 (M2 := M) (f2 := (39, [some (.ref x0), none, some (.int (x2)), some (.int (x3)), some (.int (x4))], [va_rf (sm_rv M x0 1)])) rfl ⟨trivial, sm_K.g (kH_0 hS hx0) (sm_sh.rf _), trivial⟩ ?_
        refine sm_w.fld (rH_1 hS hx0) ?_
        obtain ⟨c2, h⟩ := h
        refine sm_w.run t73 sr73 23 5 (M2 := M) (f2 := (10, [some (.ref x0), none, some (.int (x2)), some (.int (iV M (x0 + 2) x3.toNatClampNeg)), some (.int (x4 + (1 : Int32)))], [])) rfl ⟨trivial, sm_K.a2 (kH_2 hS hx0) (lH_2 hS hx0) c2, (Nat.le_of_ble_eq_true rfl), (Nat.le_of_ble_eq_true rfl), trivial, trivial⟩ ?_
        exact h
-- 74 LineSetter$HyphenTable.newChild(II)I
theorem t74 : sP 74 = (4, sp_74, sh_74) := rfl
theorem sr74 : sm_srt sp_74 = true := by decide +kernel
theorem g74_0 {M : sm_M} {x0 : Nat} {x1 : Int32} {x2 : Int32} {K : Int32 → sm_M → Prop} (hS : SH M) (hx0 : fH x0) (h : (((iV M x0 4) < (4201 : Int32) → ∀ M1, SH M1 → M1 = sm_wI M x0 4 ((iV M x0 4) + (1 : Int32)) → (vp_in (iV M x0 4) 4201) ∧ ∀ M4, SH M4 → M4 = sm_wI M1 (x0 + 1) (iV M x0 4).toNatClampNeg (-1 : Int32) → (vp_in x1 4201) ∧ (vp_in (iV M x0 4) 4201) ∧ ∀ M8, SH M8 → M8 = sm_wI M4 (x0 + 2) (iV M x0 4).toNatClampNeg (iV M4 (x0 + 1) x1.toNatClampNeg) → (vp_in (iV M x0 4) 4201) ∧ ∀ M11, SH M11 → M11 = sm_wI M8 (x0 + 3) (iV M x0 4).toNatClampNeg x2.toInt8.toInt32.toInt8.toInt32 → (vp_in (iV M x0 4) 4201) ∧ ∀ M14, SH M14 → M14 = sm_wI M11 (x0 + 4) (iV M x0 4).toNatClampNeg (-1 : Int32) → (vp_in x1 4201) ∧ ∀ M17, SH M17 → M17 = sm_wI M14 (x0 + 1) x1.toNatClampNeg (iV M x0 4) → K (iV M x0 4) M17) ∧ (¬ (iV M x0 4) < (4201 : Int32) → K (-1 : Int32) M))) : sm_w 74 (sm_in sP 74 [.ref x0, .int (x1), .int (x2)]) M (rI K) := by
  show sm_w 74 (0, [some (.ref x0), some (.int (x1)), some (.int (x2)), none], []) M (rI K)
  refine sm_w.run t74 sr74 0 4 (M2 := M) (f2 := (if (iV M x0 4) < (4201 : Int32) then 12 else 10, [some (.ref x0), some (.int (x1)), some (.int (x2)), none], [])) rfl ⟨trivial, sm_K.g (kH_0 hS hx0) (sm_sh.rf _), trivial, trivial, trivial⟩ ?_
  refine sm_w.ite (fun hc => ?_) (fun hc => ?_)
  · have h := h.1 hc
    refine sm_w.run t74 sr74 6 9 (M2 := sm_wI M x0 4 ((iV M x0 4) + (1 : Int32))) (f2 := (27, [some (.ref x0), some (.int (x1)), some (.int (x2)), some (.int (iV M x0 4))], [])) rfl ⟨trivial, sm_K.g (kH_0 hS hx0) (sm_sh.rf _), (Nat.le_of_ble_eq_true rfl), trivial, rfl, sm_K.g (kH_0 hS hx0) (sm_sh.rf _), trivial, trivial, ⟨(sm_K.p (kH_0 hS hx0) (sm_sh.rf _)).1, (sm_K.p (kH_0 hS hx0) (sm_sh.rf _)).2.1, (sm_K.p (kH_0 hS hx0) (sm_sh.rf _)).2.2, Or.inl rfl⟩, trivial⟩ ?_
    have hS2 : SH (sm_wI M x0 4 ((iV M x0 4) + (1 : Int32))) := SH.wI hS _ _ _
    have h := h _ hS2 rfl
    generalize sm_wI M x0 4 ((iV M x0 4) + (1 : Int32)) = M1 at h hS2 ⊢
    refine sm_w.run t74 sr74 15 2 (M2 := M1) (f2 := (31, [some (.ref x0), some (.int (x1)), some (.int (x2)), some (.int (iV M x0 4))], [va_rf (sm_rv M1 x0 0)])) rfl ⟨trivial, sm_K.g (kH_0 hS2 hx0) (sm_sh.rf _), trivial⟩ ?_
    refine sm_w.fld (rH_0 hS2 hx0) ?_
    obtain ⟨c3, h⟩ := h
    refine sm_w.run t74 sr74 17 3 (M2 := sm_wI M1 (x0 + 1) (iV M x0 4).toNatClampNeg (-1 : Int32)) (f2 := (34, [some (.ref x0), some (.int (x1)), some (.int (x2)), some (.int (iV M x0 4))], [])) rfl ⟨trivial, trivial, sm_K.s2 (kH_1 hS2 hx0) (lH_1 hS2 hx0) c3, trivial⟩ ?_
    have hS5 : SH (sm_wI M1 (x0 + 1) (iV M x0 4).toNatClampNeg (-1 : Int32)) := SH.wI hS2 _ _ _
    have h := h _ hS5 rfl
    generalize sm_wI M1 (x0 + 1) (iV M x0 4).toNatClampNeg (-1 : Int32) = M4 at h hS5 ⊢
    refine sm_w.run t74 sr74 20 2 (M2 := M4) (f2 := (38, [some (.ref x0), some (.int (x1)), some (.int (x2)), some (.int (iV M x0 4))], [va_rf (sm_rv M4 x0 1)])) rfl ⟨trivial, sm_K.g (kH_0 hS5 hx0) (sm_sh.rf _), trivial⟩ ?_
    refine sm_w.fld (rH_1 hS5 hx0) ?_
    refine sm_w.run t74 sr74 22 3 (M2 := M4) (f2 := (43, [some (.ref x0), some (.int (x1)), some (.int (x2)), some (.int (iV M x0 4))], [va_rf (sm_rv M4 x0 0), .int (iV M x0 4), .ref (x0 + 2)])) rfl ⟨trivial, trivial, sm_K.g (kH_0 hS5 hx0) (sm_sh.rf _), trivial⟩ ?_
    refine sm_w.fld (rH_0 hS5 hx0) ?_
    obtain ⟨c6, c7, h⟩ := h
    refine sm_w.run t74 sr74 25 3 (M2 := sm_wI M4 (x0 + 2) (iV M x0 4).toNatClampNeg (iV M4 (x0 + 1) x1.toNatClampNeg)) (f2 := (46, [some (.ref x0), some (.int (x1)), some (.int (x2)), some (.int (iV M x0 4))], [])) rfl ⟨trivial, sm_K.a2 (kH_1 hS5 hx0) (lH_1 hS5 hx0) c6, sm_K.s2 (kH_2 hS5 hx0) (lH_2 hS5 hx0) c7, trivial⟩ ?_
    have hS9 : SH (sm_wI M4 (x0 + 2) (iV M x0 4).toNatClampNeg (iV M4 (x0 + 1) x1.toNatClampNeg)) := SH.wI hS5 _ _ _
    have h := h _ hS9 rfl
    generalize sm_wI M4 (x0 + 2) (iV M x0 4).toNatClampNeg (iV M4 (x0 + 1) x1.toNatClampNeg) = M8 at h hS9 ⊢
    refine sm_w.run t74 sr74 28 2 (M2 := M8) (f2 := (50, [some (.ref x0), some (.int (x1)), some (.int (x2)), some (.int (iV M x0 4))], [va_rf (sm_rv M8 x0 2)])) rfl ⟨trivial, sm_K.g (kH_0 hS9 hx0) (sm_sh.rf _), trivial⟩ ?_
    refine sm_w.fld (rH_2 hS9 hx0) ?_
    obtain ⟨c10, h⟩ := h
    refine sm_w.run t74 sr74 30 4 (M2 := sm_wI M8 (x0 + 3) (iV M x0 4).toNatClampNeg x2.toInt8.toInt32.toInt8.toInt32) (f2 := (54, [some (.ref x0), some (.int (x1)), some (.int (x2)), some (.int (iV M x0 4))], [])) rfl ⟨trivial, trivial, trivial, sm_K.s2 (kH_3 hS9 hx0) (lH_3 hS9 hx0) c10, trivial⟩ ?_
    have hS12 : SH (sm_wI M8 (x0 + 3) (iV M x0 4).toNatClampNeg x2.toInt8.toInt32.toInt8.toInt32) := SH.wI hS9 _ _ _
    have h := h _ hS12 rfl
    generalize sm_wI M8 (x0 + 3) (iV M x0 4).toNatClampNeg x2.toInt8.toInt32.toInt8.toInt32 = M11 at h hS12 ⊢
    refine sm_w.run t74 sr74 34 2 (M2 := M11) (f2 := (58, [some (.ref x0), some (.int (x1)), some (.int (x2)), some (.int (iV M x0 4))], [va_rf (sm_rv M11 x0 3)])) rfl ⟨trivial, sm_K.g (kH_0 hS12 hx0) (sm_sh.rf _), trivial⟩ ?_
    refine sm_w.fld (rH_3 hS12 hx0) ?_
    obtain ⟨c13, h⟩ := h
    refine sm_w.run t74 sr74 36 3 (M2 := sm_wI M11 (x0 + 4) (iV M x0 4).toNatClampNeg (-1 : Int32)) (f2 := (61, [some (.ref x0), some (.int (x1)), some (.int (x2)), some (.int (iV M x0 4))], [])) rfl ⟨trivial, trivial, sm_K.s2 (kH_4 hS12 hx0) (lH_4 hS12 hx0) c13, trivial⟩ ?_
    have hS15 : SH (sm_wI M11 (x0 + 4) (iV M x0 4).toNatClampNeg (-1 : Int32)) := SH.wI hS12 _ _ _
    have h := h _ hS15 rfl
    generalize sm_wI M11 (x0 + 4) (iV M x0 4).toNatClampNeg (-1 : Int32) = M14 at h hS15 ⊢
    refine sm_w.run t74 sr74 39 2 (M2 := M14) (f2 := (65, [some (.ref x0), some (.int (x1)), some (.int (x2)), some (.int (iV M x0 4))], [va_rf (sm_rv M14 x0 0)])) rfl ⟨trivial, sm_K.g (kH_0 hS15 hx0) (sm_sh.rf _), trivial⟩ ?_
    refine sm_w.fld (rH_0 hS15 hx0) ?_
    obtain ⟨c16, h⟩ := h
    refine sm_w.run t74 sr74 41 3 (M2 := sm_wI M14 (x0 + 1) x1.toNatClampNeg (iV M x0 4)) (f2 := (68, [some (.ref x0), some (.int (x1)), some (.int (x2)), some (.int (iV M x0 4))], [])) rfl ⟨trivial, trivial, sm_K.s2 (kH_1 hS15 hx0) (lH_1 hS15 hx0) c16, trivial⟩ ?_
    have hS18 : SH (sm_wI M14 (x0 + 1) x1.toNatClampNeg (iV M x0 4)) := SH.wI hS15 _ _ _
    have h := h _ hS18 rfl
    generalize sm_wI M14 (x0 + 1) x1.toNatClampNeg (iV M x0 4) = M17 at h hS18 ⊢
    refine sm_w.run t74 sr74 44 1 (M2 := M17) (f2 := (69, [some (.ref x0), some (.int (x1)), some (.int (x2)), some (.int (iV M x0 4))], [.int (iV M x0 4)])) rfl ⟨trivial, trivial⟩ ?_
    exact sm_w.end t74 sr74 45 (o := .returned (some (.int (iV M x0 4)))) (M2 := M17) rfl rfl (by decide) (⟨_, rfl, h⟩)
  · have h := h.2 hc
    refine sm_w.run t74 sr74 4 1 (M2 := M) (f2 := (11, [some (.ref x0), some (.int (x1)), some (.int (x2)), none], [.int ((-1 : Int32))])) rfl ⟨trivial, trivial⟩ ?_
    exact sm_w.end t74 sr74 5 (o := .returned (some (.int ((-1 : Int32))))) (M2 := M) rfl rfl (by decide) (⟨_, rfl, h⟩)
