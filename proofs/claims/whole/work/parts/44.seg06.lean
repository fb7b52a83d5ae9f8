/-! METHODS by their segments. -/
-- 72 LineSetter$HyphenTable.tellPattern([BIJ)Z
theorem t72 : sP 72 = (8, sp_72, sh_72) := rfl
theorem sr72 : sm_srt sp_72 = true := by decide +kernel
theorem g72_0 {M : sm_M} {x0 : Nat} {x1 : Nat} {nx1 : Nat} {x2 : Int32} {x3 : Int64} {K : Int32 → sm_M → Prop} (hS : SH M) (hx0 : fH x0) (hx1 : sA x1 1 nx1) (h : sm_w 72 (6, [some (.ref x0), some (.ref x1), some (.int (x2)), some (.long (x3)), none, some (.int ((0 : Int32))), some (.int ((0 : Int32))), none], []) M (rI K)) : sm_w 72 (sm_in sP 72 [.ref x0, .ref x1, .int (x2), .long (x3)]) M (rI K) := by
  show sm_w 72 (0, [some (.ref x0), some (.ref x1), some (.int (x2)), some (.long (x3)), none, none, none, none], []) M (rI K)
  refine sm_w.run t72 sr72 0 4 (M2 := M) (f2 := (6, [some (.ref x0), some (.ref x1), some (.int (x2)), some (.long (x3)), none, some (.int ((0 : Int32))), some (.int ((0 : Int32))), none], [])) rfl ⟨trivial, (Nat.le_of_ble_eq_true rfl), trivial, (Nat.le_of_ble_eq_true rfl), trivial⟩ ?_
  exact h
theorem g72_1 {M : sm_M} {x0 : Nat} {x1 : Nat} {nx1 : Nat} {x2 : Int32} {x3 : Int64} {x5 : Int32} {x6 : Int32} {K : Int32 → sm_M → Prop} (hS : SH M) (hx0 : fH x0) (hx1 : sA x1 1 nx1) (h : ((x2 ≤ x6 → sm_w 72 (78, [some (.ref x0), none, none, some (.long (x3)), none, some (.int (x5)), none, none], []) M (rI K)) ∧ (¬ x2 ≤ x6 → (((Int32.ofNat nx1) ≤ x6 → sm_w 72 (78, [some (.ref x0), none, none, some (.long (x3)), none, some (.int (x5)), none, none], []) M (rI K)) ∧ (¬ (Int32.ofNat nx1) ≤ x6 → ((x5 < 0 → sm_w 72 (78, [some (.ref x0), none, none, some (.long (x3)), none, some (.int (x5)), none, none], []) M (rI K)) ∧ (¬ x5 < 0 → (vp_in x6 nx1) ∧ sm_cI 73 [.ref x0, .int (x5), .int (iV M x1 x6.toNatClampNeg)] M (fun v3 M2 => SH M2 → ((v3 < 0 → (((300 : Int32) ≤ (iV M2 x0 6) → sm_w 72 (6, [some (.ref x0), some (.ref x1), some (.int (x2)), some (.long (x3)), none, some (.int ((-1 : Int32))), some (.int (x6 + (1 : Int32))), none], []) M2 (rI K)) ∧ (¬ (300 : Int32) ≤ (iV M2 x0 6) → (vp_in x6 nx1) ∧ sm_cI 74 [.ref x0, .int (x5), .int (iV M2 x1 x6.toNatClampNeg)] M2 (fun v7 M6 => SH M6 → sm_w 72 (6, [some (.ref x0), some (.ref x1), some (.int (x2)), some (.long (x3)), none, some (.int (v7)), some (.int (x6 + (1 : Int32))), none], []) M6 (rI K))))) ∧ (¬ v3 < 0 → sm_w 72 (6, [some (.ref x0), some (.ref x1), some (.int (x2)), some (.long (x3)), none, some (.int (v3)), some (.int (x6 + (1 : Int32))), none], []) M2 (rI K))))))))))) : sm_w 72 (6, [some (.ref x0), some (.ref x1), some (.int (x2)), some (.long (x3)), none, some (.int (x5)), some (.int (x6)), none], []) M (rI K) := by
  refine sm_w.run t72 sr72 4 3 (M2 := M) (f2 := (if x2 ≤ x6 then 78 else 12, [some (.ref x0), some (.ref x1), some (.int (x2)), some (.long (x3)), none, some (.int (x5)), some (.int (x6)), none], [])) rfl ⟨trivial, trivial, trivial, trivial⟩ ?_
  refine sm_w.ite (fun hc => ?_) (fun hc => ?_)
  · have h := h.1 hc
    refine sm_w.weak (ls := [some (.ref x0), none, none, some (.long (x3)), none, some (.int (x5)), none, none]) (sm_leI [true, false, false, true, false, true, false, false] rfl) ?_
    exact h
  · have h := h.2 hc
    refine sm_w.run t72 sr72 7 3 (M2 := M) (f2 := (16, [some (.ref x0), some (.ref x1), some (.int (x2)), some (.long (x3)), none, some (.int (x5)), some (.int (x6)), none], [.int (Int32.ofNat (sm_ln M x1)), .int (x6)])) rfl ⟨trivial, trivial, sm_K.l (hx1.K hS) (sm_sh.rf _) (by decide), trivial⟩ ?_
    refine sm_w.aln (hx1.L hS) ?_
    refine sm_w.run t72 sr72 10 1 (M2 := M) (f2 := (if (Int32.ofNat nx1) ≤ x6 then 78 else 19, [some (.ref x0), some (.ref x1), some (.int (x2)), some (.long (x3)), none, some (.int (x5)), some (.int (x6)), none], [])) rfl ⟨trivial, trivial⟩ ?_
    refine sm_w.ite (fun hc => ?_) (fun hc => ?_)
    · have h := h.1 hc
      refine sm_w.weak (ls := [some (.ref x0), none, none, some (.long (x3)), none, some (.int (x5)), none, none]) (sm_leI [true, false, false, true, false, true, false, false] rfl) ?_
      exact h
    · have h := h.2 hc
      refine sm_w.run t72 sr72 11 2 (M2 := M) (f2 := (if x5 < 0 then 78 else 24, [some (.ref x0), some (.ref x1), some (.int (x2)), some (.long (x3)), none, some (.int (x5)), some (.int (x6)), none], [])) rfl ⟨trivial, trivial, trivial⟩ ?_
      refine sm_w.ite (fun hc => ?_) (fun hc => ?_)
      · have h := h.1 hc
        refine sm_w.weak (ls := [some (.ref x0), none, none, some (.long (x3)), none, some (.int (x5)), none, none]) (sm_leI [true, false, false, true, false, true, false, false] rfl) ?_
        exact h
      · have h := h.2 hc
        obtain ⟨c1, h⟩ := h
        refine sm_w.run t72 sr72 13 5 (M2 := M) (f2 := (31, [some (.ref x0), some (.ref x1), some (.int (x2)), some (.long (x3)), none, some (.int (x5)), some (.int (x6)), none], [.int (iV M x1 x6.toNatClampNeg), .int (x5), .ref x0])) rfl ⟨trivial, trivial, trivial, trivial, sm_K.a2 (hx1.K hS) (hx1.L hS) c1, trivial⟩ ?_
        refine sm_w.cI t72 sr72 18 (i := 73) (as := [.ref x0, .int (x5), .int (iV M x1 x6.toNatClampNeg)]) (g := (31, [some (.ref x0), some (.ref x1), some (.int (x2)), some (.long (x3)), none, some (.int (x5)), some (.int (x6)), none], [])) rfl ⟨by decide, by decide, (Nat.le_of_ble_eq_true rfl), (sm_K.g (kH_0 hS hx0) (sm_sh.rf _)).1, (sm_K.g (kH_0 hS hx0) (sm_sh.rf _)).2, (Nat.le_of_ble_eq_true rfl)⟩ (Nat.le_of_ble_eq_true rfl) (by decide) (sm_cI.s (by decide) hS h) (fun v3 M2 h => ?_)
        obtain ⟨hS4, h⟩ := h
        refine sm_w.run t72 sr72 19 3 (M2 := M2) (f2 := (if v3 < 0 then 46 else 41, [some (.ref x0), some (.ref x1), some (.int (x2)), some (.long (x3)), none, some (.int (x5)), some (.int (x6)), some (.int (v3))], [])) rfl ⟨(Nat.le_of_ble_eq_true rfl), trivial, trivial, trivial⟩ ?_
        refine sm_w.ite (fun hc => ?_) (fun hc => ?_)
        · have h := h.1 hc
          refine sm_w.run t72 sr72 24 4 (M2 := M2) (f2 := (if (300 : Int32) ≤ (iV M2 x0 6) then 69 else 56, [some (.ref x0), some (.ref x1), some (.int (x2)), some (.long (x3)), none, some (.int (x5)), some (.int (x6)), some (.int (v3))], [])) rfl ⟨trivial, sm_K.g (kH_0 hS4 hx0) (sm_sh.rf _), trivial, trivial, trivial⟩ ?_
          refine sm_w.ite (fun hc => ?_) (fun hc => ?_)
          · have h := h.1 hc
            refine sm_w.run t72 sr72 35 4 (M2 := M2) (f2 := (6, [some (.ref x0), some (.ref x1), some (.int (x2)), some (.long (x3)), none, some (.int ((-1 : Int32))), some (.int (x6 + (1 : Int32))), some (.int (v3))], [])) rfl ⟨trivial, (Nat.le_of_ble_eq_true rfl), (Nat.le_of_ble_eq_true rfl), trivial, trivial⟩ ?_
            refine sm_w.weak (ls := [some (.ref x0), some (.ref x1), some (.int (x2)), some (.long (x3)), none, some (.int ((-1 : Int32))), some (.int (x6 + (1 : Int32))), none]) (sm_leI [true, true, true, true, false, true, true, false] rfl) ?_
            exact h
          · have h := h.2 hc
            obtain ⟨c5, h⟩ := h
            refine sm_w.run t72 sr72 28 5 (M2 := M2) (f2 := (63, [some (.ref x0), some (.ref x1), some (.int (x2)), some (.long (x3)), none, some (.int (x5)), some (.int (x6)), some (.int (v3))], [.int (iV M2 x1 x6.toNatClampNeg), .int (x5), .ref x0])) rfl ⟨trivial, trivial, trivial, trivial, sm_K.a2 (hx1.K hS4) (hx1.L hS4) c5, trivial⟩ ?_
            refine sm_w.cI t72 sr72 33 (i := 74) (as := [.ref x0, .int (x5), .int (iV M2 x1 x6.toNatClampNeg)]) (g := (63, [some (.ref x0), some (.ref x1), some (.int (x2)), some (.long (x3)), none, some (.int (x5)), some (.int (x6)), some (.int (v3))], [])) rfl ⟨by decide, by decide, (Nat.le_of_ble_eq_true rfl), (sm_K.g (kH_0 hS4 hx0) (sm_sh.rf _)).1, (sm_K.g (kH_0 hS4 hx0) (sm_sh.rf _)).2, (Nat.le_of_ble_eq_true rfl)⟩ (Nat.le_of_ble_eq_true rfl) (by decide) (sm_cI.s (by decide) hS4 h) (fun v7 M6 h => ?_)
            obtain ⟨hS8, h⟩ := h
            refine sm_w.run t72 sr72 34 1 (M2 := M6) (f2 := (70, [some (.ref x0), some (.ref x1), some (.int (x2)), some (.long (x3)), none, some (.int (x5)), some (.int (x6)), some (.int (v3))], [.int (v7)])) rfl ⟨trivial, trivial⟩ ?_
            refine sm_w.run t72 sr72 36 3 (M2 := M6) (f2 := (6, [some (.ref x0), some (.ref x1), some (.int (x2)), some (.long (x3)), none, some (.int (v7)), some (.int (x6 + (1 : Int32))), some (.int (v3))], [])) rfl ⟨(Nat.le_of_ble_eq_true rfl), (Nat.le_of_ble_eq_true rfl), trivial, trivial⟩ ?_
            refine sm_w.weak (ls := [some (.ref x0), some (.ref x1), some (.int (x2)), some (.long (x3)), none, some (.int (v7)), some (.int (x6 + (1 : Int32))), none]) (sm_leI [true, true, true, true, false, true, true, false] rfl) ?_
            exact h
        · have h := h.2 hc
          refine sm_w.run t72 sr72 22 2 (M2 := M2) (f2 := (70, [some (.ref x0), some (.ref x1), some (.int (x2)), some (.long (x3)), none, some (.int (x5)), some (.int (x6)), some (.int (v3))], [.int (v3)])) rfl ⟨trivial, trivial, trivial⟩ ?_
          refine sm_w.run t72 sr72 36 3 (M2 := M2) (f2 := (6, [some (.ref x0), some (.ref x1), some (.int (x2)), some (.long (x3)), none, some (.int (v3)), some (.int (x6 + (1 : Int32))), some (.int (v3))], [])) rfl ⟨(Nat.le_of_ble_eq_true rfl), (Nat.le_of_ble_eq_true rfl), trivial, trivial⟩ ?_
          refine sm_w.weak (ls := [some (.ref x0), some (.ref x1), some (.int (x2)), some (.long (x3)), none, some (.int (v3)), some (.int (x6 + (1 : Int32))), none]) (sm_leI [true, true, true, true, false, true, true, false] rfl) ?_
          exact h
theorem g72_2 {M : sm_M} {x0 : Nat} {x3 : Int64} {x5 : Int32} {K : Int32 → sm_M → Prop} (hS : SH M) (hx0 : fH x0) (h : ((0 ≤ x5 → (vp_in x5 4201) ∧ ((0 ≤ (iV M (x0 + 4) x5.toNatClampNeg) → (vp_in x5 4201) ∧ (vp_in (iV M (x0 + 4) x5.toNatClampNeg) 300) ∧ ∀ M4, SH M4 → M4 = sm_wJ M (x0 + 5) (iV M (x0 + 4) x5.toNatClampNeg).toNatClampNeg x3 → K (1 : Int32) M4) ∧ (¬ 0 ≤ (iV M (x0 + 4) x5.toNatClampNeg) → (((iV M x0 6) < (300 : Int32) → (vp_in x5 4201) ∧ ∀ M7, SH M7 → M7 = sm_wI M (x0 + 4) x5.toNatClampNeg (iV M x0 6) → ∀ M9, SH M9 → M9 = sm_wI M7 x0 6 ((iV M7 x0 6) + (1 : Int32)) → (vp_in x5 4201) ∧ (vp_in (iV M9 (x0 + 4) x5.toNatClampNeg) 300) ∧ ∀ M13, SH M13 → M13 = sm_wJ M9 (x0 + 5) (iV M9 (x0 + 4) x5.toNatClampNeg).toNatClampNeg x3 → K (1 : Int32) M13) ∧ (¬ (iV M x0 6) < (300 : Int32) → K (0 : Int32) M))))) ∧ (¬ 0 ≤ x5 → K (0 : Int32) M))) : sm_w 72 (78, [some (.ref x0), none, none, some (.long (x3)), none, some (.int (x5)), none, none], []) M (rI K) := by
  refine sm_w.run t72 sr72 39 2 (M2 := M) (f2 := (if 0 ≤ x5 then 85 else 83, [some (.ref x0), none, none, some (.long (x3)), none, some (.int (x5)), none, none], [])) rfl ⟨trivial, trivial, trivial⟩ ?_
  refine sm_w.ite (fun hc => ?_) (fun hc => ?_)
  · have h := h.1 hc
    refine sm_w.run t72 sr72 43 2 (M2 := M) (f2 := (89, [some (.ref x0), none, none, some (.long (x3)), none, some (.int (x5)), none, none], [va_rf (sm_rv M x0 3)])) rfl ⟨trivial, sm_K.g (kH_0 hS hx0) (sm_sh.rf _), trivial⟩ ?_
    refine sm_w.fld (rH_3 hS hx0) ?_
    obtain ⟨c1, h⟩ := h
    refine sm_w.run t72 sr72 45 3 (M2 := M) (f2 := (if 0 ≤ (iV M (x0 + 4) x5.toNatClampNeg) then 128 else 95, [some (.ref x0), none, none, some (.long (x3)), none, some (.int (x5)), none, none], [])) rfl ⟨trivial, sm_K.a2 (kH_4 hS hx0) (lH_4 hS hx0) c1, trivial, trivial⟩ ?_
    refine sm_w.ite (fun hc => ?_) (fun hc => ?_)
    · have h := h.1 hc
      refine sm_w.run t72 sr72 66 2 (M2 := M) (f2 := (132, [some (.ref x0), none, none, some (.long (x3)), none, some (.int (x5)), none, none], [va_rf (sm_rv M x0 5)])) rfl ⟨trivial, sm_K.g (kH_0 hS hx0) (sm_sh.rf _), trivial⟩ ?_
      refine sm_w.fld (rH_5 hS hx0) ?_
      refine sm_w.run t72 sr72 68 2 (M2 := M) (f2 := (136, [some (.ref x0), none, none, some (.long (x3)), none, some (.int (x5)), none, none], [va_rf (sm_rv M x0 3), .ref (x0 + 5)])) rfl ⟨trivial, sm_K.g (kH_0 hS hx0) (sm_sh.rf _), trivial⟩ ?_
      refine sm_w.fld (rH_3 hS hx0) ?_
      obtain ⟨c2, c3, h⟩ := h
      refine sm_w.run t72 sr72 70 4 (M2 := sm_wJ M (x0 + 5) (iV M (x0 + 4) x5.toNatClampNeg).toNatClampNeg x3) (f2 := (141, [some (.ref x0), none, none, some (.long (x3)), none, some (.int (x5)), none, none], [])) rfl ⟨trivial, sm_K.a2 (kH_4 hS hx0) (lH_4 hS hx0) c2, trivial, sm_K.s2 (kH_5 hS hx0) (lH_5 hS hx0) c3, trivial⟩ ?_
      have hS5 : SH (sm_wJ M (x0 + 5) (iV M (x0 + 4) x5.toNatClampNeg).toNatClampNeg x3) := SH.wJ hS _ _ _
      have h := h _ hS5 rfl
      generalize sm_wJ M (x0 + 5) (iV M (x0 + 4) x5.toNatClampNeg).toNatClampNeg x3 = M4 at h hS5 ⊢
      refine sm_w.run t72 sr72 74 1 (M2 := M4) (f2 := (142, [some (.ref x0), none, none, some (.long (x3)), none, some (.int (x5)), none, none], [.int ((1 : Int32))])) rfl ⟨trivial, trivial⟩ ?_
      exact sm_w.end t72 sr72 75 (o := .returned (some (.int ((1 : Int32))))) (M2 := M4) rfl rfl (by decide) (⟨_, rfl, h⟩)
    · have h := h.2 hc
      refine sm_w.run t72 sr72 48 4 (M2 := M) (f2 := (if (iV M x0 6) < (300 : Int32) then 107 else 105, [some (.ref x0), none, none, some (.long (x3)), none, some (.int (x5)), none, none], [])) rfl ⟨trivial, sm_K.g (kH_0 hS hx0) (sm_sh.rf _), trivial, trivial, trivial⟩ ?_
      refine sm_w.ite (fun hc => ?_) (fun hc => ?_)
      · have h := h.1 hc
        refine sm_w.run t72 sr72 54 2 (M2 := M) (f2 := (111, [some (.ref x0), none, none, some (.long (x3)), none, some (.int (x5)), none, none], [va_rf (sm_rv M x0 3)])) rfl ⟨trivial, sm_K.g (kH_0 hS hx0) (sm_sh.rf _), trivial⟩ ?_
        refine sm_w.fld (rH_3 hS hx0) ?_
        obtain ⟨c6, h⟩ := h
        refine sm_w.run t72 sr72 56 4 (M2 := sm_wI M (x0 + 4) x5.toNatClampNeg (iV M x0 6)) (f2 := (118, [some (.ref x0), none, none, some (.long (x3)), none, some (.int (x5)), none, none], [])) rfl ⟨trivial, trivial, sm_K.g (kH_0 hS hx0) (sm_sh.rf _), sm_K.s2 (kH_4 hS hx0) (lH_4 hS hx0) c6, trivial⟩ ?_
        have hS8 : SH (sm_wI M (x0 + 4) x5.toNatClampNeg (iV M x0 6)) := SH.wI hS _ _ _
        have h := h _ hS8 rfl
        generalize sm_wI M (x0 + 4) x5.toNatClampNeg (iV M x0 6) = M7 at h hS8 ⊢
        refine sm_w.run t72 sr72 60 6 (M2 := sm_wI M7 x0 6 ((iV M7 x0 6) + (1 : Int32))) (f2 := (128, [some (.ref x0), none, none, some (.long (x3)), none, some (.int (x5)), none, none], [])) rfl ⟨trivial, rfl, sm_K.g (kH_0 hS8 hx0) (sm_sh.rf _), trivial, trivial, ⟨(sm_K.p (kH_0 hS8 hx0) (sm_sh.rf _)).1, (sm_K.p (kH_0 hS8 hx0) (sm_sh.rf _)).2.1, (sm_K.p (kH_0 hS8 hx0) (sm_sh.rf _)).2.2, Or.inl rfl⟩, trivial⟩ ?_
        have hS10 : SH (sm_wI M7 x0 6 ((iV M7 x0 6) + (1 : Int32))) := SH.wI hS8 _ _ _
        have h := h _ hS10 rfl
        generalize sm_wI M7 x0 6 ((iV M7 x0 6) + (1 : Int32)) = M9 at h hS10 ⊢
        refine sm_w.run t72 sr72 66 2 (M2 := M9) (f2 := (132, [some (.ref x0), none, none, some (.long (x3)), none, some (.int (x5)), none, none], [va_rf (sm_rv M9 x0 5)])) rfl ⟨trivial, sm_K.g (kH_0 hS10 hx0) (sm_sh.rf _), trivial⟩ ?_
        refine sm_w.fld (rH_5 hS10 hx0) ?_
        refine sm_w.run t72 sr72 68 2 (M2 := M9) (f2 := (136, [some (.ref x0), none, none, some (.long (x3)), none, some (.int (x5)), none, none], [va_rf (sm_rv M9 x0 3), .ref (x0 + 5)])) rfl ⟨trivial, sm_K.g (kH_0 hS10 hx0) (sm_sh.rf _), trivial⟩ ?_
        refine sm_w.fld (rH_3 hS10 hx0) ?_
        obtain ⟨c11, c12, h⟩ := h
        refine sm_w.run t72 sr72 70 4 (M2 := sm_wJ M9 (x0 + 5) (iV M9 (x0 + 4) x5.toNatClampNeg).toNatClampNeg x3) (f2 := (141, [some (.ref x0), none, none, some (.long (x3)), none, some (.int (x5)), none, none], [])) rfl ⟨trivial, sm_K.a2 (kH_4 hS10 hx0) (lH_4 hS10 hx0) c11, trivial, sm_K.s2 (kH_5 hS10 hx0) (lH_5 hS10 hx0) c12, trivial⟩ ?_
        have hS14 : SH (sm_wJ M9 (x0 + 5) (iV M9 (x0 + 4) x5.toNatClampNeg).toNatClampNeg x3) := SH.wJ hS10 _ _ _
        have h := h _ hS14 rfl
        generalize sm_wJ M9 (x0 + 5) (iV M9 (x0 + 4) x5.toNatClampNeg).toNatClampNeg x3 = M13 at h hS14 ⊢
        refine sm_w.run t72 sr72 74 1 (M2 := M13) (f2 := (142, [some (.ref x0), none, none, some (.long (x3)), none, some (.int (x5)), none, none], [.int ((1 : Int32))])) rfl ⟨trivial, trivial⟩ ?_
        exact sm_w.end t72 sr72 75 (o := .returned (some (.int ((1 : Int32))))) (M2 := M13) rfl rfl (by decide) (⟨_, rfl, h⟩)
      · have h := h.2 hc
        refine sm_w.run t72 sr72 52 1 (M2 := M) (f2 := (106, [some (.ref x0), none, none, some (.long (x3)), none, some (.int (x5)), none, none], [.int ((0 : Int32))])) rfl ⟨trivial, trivial⟩ ?_
        exact sm_w.end t72 sr72 53 (o := .returned (some (.int ((0 : Int32))))) (M2 := M) rfl rfl (by decide) (⟨_, rfl, h⟩)
  · have h := h.2 hc
    refine sm_w.run t72 sr72 41 1 (M2 := M) (f2 := (84, [some (.ref x0), none, none, some (.long (x3)), none, some (.int (x5)), none, none], [.int ((0 : Int32))])) rfl ⟨trivial, trivial⟩ ?_
    exact sm_w.end t72 sr72 42 (o := .returned (some (.int ((0 : Int32))))) (M2 := M) rfl rfl (by decide) (⟨_, rfl, h⟩)
-- 71 LineSetter$HyphenReader.readPattern(LLineSetter$HyphenTable;)Z
theorem t71 : sP 71 = (12, sp_71, sh_71) := rfl
theorem sr71 : sm_srt sp_71 = true := by decide +kernel
theorem g71_0 {M : sm_M} {x1 : Nat} {K : Int32 → sm_M → Prop} (hS : SH M) (hx1 : fH x1) (h : ∀ M1, SH M1 → M1 = sm_wI M 34 4 (0 : Int32) → (q30_0 M1 24 (iV M1 34 1)) ∧ (((p30_0 M1 24 (iV M1 34 1)) = (46 : Int32) → sm_w 71 (26, [some (.ref 34), some (.ref x1), none, none, none, none, none, none, none, none, none, none], [.int ((1 : Int32))]) M1 (rI K)) ∧ (¬ (p30_0 M1 24 (iV M1 34 1)) = (46 : Int32) → sm_w 71 (26, [some (.ref 34), some (.ref x1), none, none, none, none, none, none, none, none, none, none], [.int ((0 : Int32))]) M1 (rI K)))) : sm_w 71 (sm_in sP 71 [.ref 34, .ref x1]) M (rI K) := by
  show sm_w 71 (0, [some (.ref 34), some (.ref x1), none, none, none, none, none, none, none, none, none, none], []) M (rI K)
  refine sm_w.run t71 sr71 0 3 (M2 := sm_wI M 34 4 (0 : Int32)) (f2 := (5, [some (.ref 34), some (.ref x1), none, none, none, none, none, none, none, none, none, none], [])) rfl ⟨trivial, trivial, ⟨(sm_K.p (k_34 hS) (sm_sh.rf _)).1, (sm_K.p (k_34 hS) (sm_sh.rf _)).2.1, (sm_K.p (k_34 hS) (sm_sh.rf _)).2.2, Or.inl rfl⟩, trivial⟩ ?_
  have hS2 : SH (sm_wI M 34 4 (0 : Int32)) := SH.wI hS _ _ _
  have h := h _ hS2 rfl
  generalize sm_wI M 34 4 (0 : Int32) = M1 at h hS2 ⊢
  refine sm_w.run t71 sr71 3 2 (M2 := M1) (f2 := (9, [some (.ref 34), some (.ref x1), none, none, none, none, none, none, none, none, none, none], [va_rf (sm_rv M1 34 0)])) rfl ⟨trivial, sm_K.g (k_34 hS2) (sm_sh.rf _), trivial⟩ ?_
  refine sm_w.fld (r_34_0 hS2) ?_
  obtain ⟨c3, h⟩ := h
  refine sm_w.run t71 sr71 5 2 (M2 := M1) (f2 := (13, [some (.ref 34), some (.ref x1), none, none, none, none, none, none, none, none, none, none], [.int (iV M1 34 1), .ref 24])) rfl ⟨trivial, sm_K.g (k_34 hS2) (sm_sh.rf _), trivial⟩ ?_
  refine sm_w.cI t71 sr71 7 (i := 30) (as := [.ref 24, .int (iV M1 34 1)]) (g := (13, [some (.ref 34), some (.ref x1), none, none, none, none, none, none, none, none, none, none], [])) rfl ⟨by decide, by decide, (Nat.le_of_ble_eq_true rfl), (sm_K.g (kB_0 hS2 fB_24) (sm_sh.rf _)).1, (sm_K.g (kB_0 hS2 fB_24) (sm_sh.rf _)).2, (Nat.le_of_ble_eq_true rfl)⟩ (Nat.le_of_ble_eq_true rfl) (by decide) (p30_c hS2 fB_24 c3) (fun vz M2 hz => ?_)
  obtain ⟨hz1, hz2⟩ := hz
  subst hz1
  have hz2 := hz2.symm
  subst hz2
  refine sm_w.run t71 sr71 8 2 (M2 := M1) (f2 := (if (p30_0 M1 24 (iV M1 34 1)) = (46 : Int32) then 21 else 25, [some (.ref 34), some (.ref x1), none, none, none, none, none, none, none, none, none, none], [])) rfl ⟨trivial, trivial, trivial⟩ ?_
  refine sm_w.ite (fun hc => ?_) (fun hc => ?_)
  · have h := h.1 hc
    refine sm_w.run t71 sr71 10 2 (M2 := M1) (f2 := (26, [some (.ref 34), some (.ref x1), none, none, none, none, none, none, none, none, none, none], [.int ((1 : Int32))])) rfl ⟨trivial, trivial, trivial⟩ ?_
    exact h
  · have h := h.2 hc
    refine sm_w.run t71 sr71 12 1 (M2 := M1) (f2 := (26, [some (.ref 34), some (.ref x1), none, none, none, none, none, none, none, none, none, none], [.int ((0 : Int32))])) rfl ⟨trivial, trivial⟩ ?_
    exact h
theorem g71_1 {M : sm_M} {x1 : Nat} {s0 : Int32} {K : Int32 → sm_M → Prop} (hS : SH M) (hx1 : fH x1) (h : ((s0 = 0 → sm_w 71 (44, [some (.ref 34), some (.ref x1), some (.int (s0)), none, none, none, none, none, none, none, none, none], [.int (iV M 34 1)]) M (rI K)) ∧ (¬ s0 = 0 → sm_w 71 (44, [some (.ref 34), some (.ref x1), some (.int (s0)), none, none, none, none, none, none, none, none, none], [.int ((iV M 34 1) + (1 : Int32))]) M (rI K)))) : sm_w 71 (26, [some (.ref 34), some (.ref x1), none, none, none, none, none, none, none, none, none, none], [.int (s0)]) M (rI K) := by
  refine sm_w.run t71 sr71 13 3 (M2 := M) (f2 := (if s0 = 0 then 40 else 31, [some (.ref 34), some (.ref x1), some (.int (s0)), none, none, none, none, none, none, none, none, none], [])) rfl ⟨(Nat.le_of_ble_eq_true rfl), trivial, trivial, trivial⟩ ?_
  refine sm_w.ite (fun hc => ?_) (fun hc => ?_)
  · have h := h.1 hc
    refine sm_w.run t71 sr71 21 2 (M2 := M) (f2 := (44, [some (.ref 34), some (.ref x1), some (.int (s0)), none, none, none, none, none, none, none, none, none], [.int (iV M 34 1)])) rfl ⟨trivial, sm_K.g (k_34 hS) (sm_sh.rf _), trivial⟩ ?_
    exact h
  · have h := h.2 hc
    refine sm_w.run t71 sr71 16 5 (M2 := M) (f2 := (44, [some (.ref 34), some (.ref x1), some (.int (s0)), none, none, none, none, none, none, none, none, none], [.int ((iV M 34 1) + (1 : Int32))])) rfl ⟨trivial, sm_K.g (k_34 hS) (sm_sh.rf _), trivial, trivial, trivial, trivial⟩ ?_
    exact h
theorem g71_2 {M : sm_M} {x1 : Nat} {x2 : Int32} {s0 : Int32} {K : Int32 → sm_M → Prop} (hS : SH M) (hx1 : fH x1) (h : (((iV M 34 2) ≤ s0 → sm_w 71 (75, [some (.ref 34), some (.ref x1), some (.int (x2)), some (.int (s0)), none, none, none, none, none, none, none, none], []) M (rI K)) ∧ (¬ (iV M 34 2) ≤ s0 → (q30_0 M 24 ((iV M 34 2) - (1 : Int32))) ∧ (((p30_0 M 24 ((iV M 34 2) - (1 : Int32))) = (46 : Int32) → ((x2 = 0 → sm_w 71 (124, [some (.ref 34), some (.ref x1), none, none, some (.int ((1 : Int32))), some (.int ((iV M 34 2) - (1 : Int32))), some (.int (iV M 34 4)), some (.long ((0 : Int64))), none, some (.int ((1 : Int32))), some (.int (s0)), none], []) M (rI K)) ∧ (¬ x2 = 0 → sm_cI 66 [.ref 34, .int ((46 : Int32))] M (fun v3 M2 => SH M2 → sm_w 71 (124, [some (.ref 34), some (.ref x1), none, none, some (.int ((1 : Int32))), some (.int ((iV M 34 2) - (1 : Int32))), some (.int (iV M2 34 4)), some (.long ((0 : Int64))), none, some (.int ((1 : Int32))), some (.int (s0)), none], []) M2 (rI K))))) ∧ (¬ (p30_0 M 24 ((iV M 34 2) - (1 : Int32))) = (46 : Int32) → sm_w 71 (75, [some (.ref 34), some (.ref x1), some (.int (x2)), some (.int (s0)), none, none, none, none, none, none, none, none], []) M (rI K)))))) : sm_w 71 (44, [some (.ref 34), some (.ref x1), some (.int (x2)), none, none, none, none, none, none, none, none, none], [.int (s0)]) M (rI K) := by
  refine sm_w.run t71 sr71 23 5 (M2 := M) (f2 := (if (iV M 34 2) ≤ s0 then 75 else 53, [some (.ref 34), some (.ref x1), some (.int (x2)), some (.int (s0)), none, none, none, none, none, none, none, none], [])) rfl ⟨(Nat.le_of_ble_eq_true rfl), trivial, trivial, sm_K.g (k_34 hS) (sm_sh.rf _), trivial, trivial⟩ ?_
  refine sm_w.ite (fun hc => ?_) (fun hc => ?_)
  · have h := h.1 hc
    exact h
  · have h := h.2 hc
    refine sm_w.run t71 sr71 28 2 (M2 := M) (f2 := (57, [some (.ref 34), some (.ref x1), some (.int (x2)), some (.int (s0)), none, none, none, none, none, none, none, none], [va_rf (sm_rv M 34 0)])) rfl ⟨trivial, sm_K.g (k_34 hS) (sm_sh.rf _), trivial⟩ ?_
    refine sm_w.fld (r_34_0 hS) ?_
    obtain ⟨c1, h⟩ := h
    refine sm_w.run t71 sr71 30 4 (M2 := M) (f2 := (63, [some (.ref 34), some (.ref x1), some (.int (x2)), some (.int (s0)), none, none, none, none, none, none, none, none], [.int ((iV M 34 2) - (1 : Int32)), .ref 24])) rfl ⟨trivial, sm_K.g (k_34 hS) (sm_sh.rf _), trivial, trivial, trivial⟩ ?_
    refine sm_w.cI t71 sr71 34 (i := 30) (as := [.ref 24, .int ((iV M 34 2) - (1 : Int32))]) (g := (63, [some (.ref 34), some (.ref x1), some (.int (x2)), some (.int (s0)), none, none, none, none, none, none, none, none], [])) rfl ⟨by decide, by decide, (Nat.le_of_ble_eq_true rfl), (sm_K.g (kB_0 hS fB_24) (sm_sh.rf _)).1, (sm_K.g (kB_0 hS fB_24) (sm_sh.rf _)).2, (Nat.le_of_ble_eq_true rfl)⟩ (Nat.le_of_ble_eq_true rfl) (by decide) (p30_c hS fB_24 c1) (fun vz M2 hz => ?_)
    obtain ⟨hz1, hz2⟩ := hz
    subst hz1
    have hz2 := hz2.symm
    subst hz2
    refine sm_w.run t71 sr71 35 2 (M2 := M) (f2 := (if (p30_0 M 24 ((iV M 34 2) - (1 : Int32))) = (46 : Int32) then 71 else 75, [some (.ref 34), some (.ref x1), some (.int (x2)), some (.int (s0)), none, none, none, none, none, none, none, none], [])) rfl ⟨trivial, trivial, trivial⟩ ?_
    refine sm_w.ite (fun hc => ?_) (fun hc => ?_)
    · have h := h.1 hc
      refine sm_w.run t71 sr71 37 2 (M2 := M) (f2 := (76, [some (.ref 34), some (.ref x1), some (.int (x2)), some (.int (s0)), none, none, none, none, none, none, none, none], [.int ((1 : Int32))])) rfl ⟨trivial, trivial, trivial⟩ ?_
      refine sm_w.run t71 sr71 40 3 (M2 := M) (f2 := (if (1 : Int32) = 0 then 92 else 83, [some (.ref 34), some (.ref x1), some (.int (x2)), some (.int (s0)), some (.int ((1 : Int32))), none, none, none, none, none, none, none], [])) rfl ⟨(Nat.le_of_ble_eq_true rfl), trivial, trivial, trivial⟩ ?_
      rw [if_neg (by decide)]
      refine sm_w.run t71 sr71 43 5 (M2 := M) (f2 := (96, [some (.ref 34), some (.ref x1), some (.int (x2)), some (.int (s0)), some (.int ((1 : Int32))), none, none, none, none, none, none, none], [.int ((iV M 34 2) - (1 : Int32))])) rfl ⟨trivial, sm_K.g (k_34 hS) (sm_sh.rf _), trivial, trivial, trivial, trivial⟩ ?_
      refine sm_w.run t71 sr71 50 3 (M2 := M) (f2 := (if x2 = 0 then 109 else 102, [some (.ref 34), some (.ref x1), some (.int (x2)), some (.int (s0)), some (.int ((1 : Int32))), some (.int ((iV M 34 2) - (1 : Int32))), none, none, none, none, none, none], [])) rfl ⟨(Nat.le_of_ble_eq_true rfl), trivial, trivial, trivial⟩ ?_
      refine sm_w.ite (fun hc => ?_) (fun hc => ?_)
      · have h := h.1 hc
        refine sm_w.run t71 sr71 57 9 (M2 := M) (f2 := (124, [some (.ref 34), some (.ref x1), some (.int (x2)), some (.int (s0)), some (.int ((1 : Int32))), some (.int ((iV M 34 2) - (1 : Int32))), some (.int (iV M 34 4)), some (.long ((0 : Int64))), none, some (.int ((1 : Int32))), some (.int (s0)), none], [])) rfl ⟨trivial, sm_K.g (k_34 hS) (sm_sh.rf _), (Nat.le_of_ble_eq_true rfl), trivial, (Nat.le_of_ble_eq_true rfl), trivial, (Nat.le_of_ble_eq_true rfl), trivial, (Nat.le_of_ble_eq_true rfl), trivial⟩ ?_
        refine sm_w.weak (ls := [some (.ref 34), some (.ref x1), none, none, some (.int ((1 : Int32))), some (.int ((iV M 34 2) - (1 : Int32))), some (.int (iV M 34 4)), some (.long ((0 : Int64))), none, some (.int ((1 : Int32))), some (.int (s0)), none]) (sm_leI [true, true, false, false, true, true, true, true, false, true, true, false] rfl) ?_
        exact h
      · have h := h.2 hc
        refine sm_w.run t71 sr71 53 2 (M2 := M) (f2 := (105, [some (.ref 34), some (.ref x1), some (.int (x2)), some (.int (s0)), some (.int ((1 : Int32))), some (.int ((iV M 34 2) - (1 : Int32))), none, none, none, none, none, none], [.int ((46 : Int32)), .ref 34])) rfl ⟨trivial, trivial, trivial⟩ ?_
        refine sm_w.cI t71 sr71 55 (i := 66) (as := [.ref 34, .int ((46 : Int32))]) (g := (105, [some (.ref 34), some (.ref x1), some (.int (x2)), some (.int (s0)), some (.int ((1 : Int32))), some (.int ((iV M 34 2) - (1 : Int32))), none, none, none, none, none, none], [])) rfl ⟨by decide, by decide, (Nat.le_of_ble_eq_true rfl), (sm_K.g (k_34 hS) (sm_sh.rf _)).1, (sm_K.g (k_34 hS) (sm_sh.rf _)).2, (Nat.le_of_ble_eq_true rfl)⟩ (Nat.le_of_ble_eq_true rfl) (by decide) (sm_cI.s (by decide) hS h) (fun v3 M2 h => ?_)
        obtain ⟨hS4, h⟩ := h
        refine sm_w.run t71 sr71 56 10 (M2 := M2) (f2 := (124, [some (.ref 34), some (.ref x1), some (.int (x2)), some (.int (s0)), some (.int ((1 : Int32))), some (.int ((iV M 34 2) - (1 : Int32))), some (.int (iV M2 34 4)), some (.long ((0 : Int64))), none, some (.int ((1 : Int32))), some (.int (s0)), none], [])) rfl ⟨rfl, trivial, sm_K.g (k_34 hS4) (sm_sh.rf _), (Nat.le_of_ble_eq_true rfl), trivial, (Nat.le_of_ble_eq_true rfl), trivial, (Nat.le_of_ble_eq_true rfl), trivial, (Nat.le_of_ble_eq_true rfl), trivial⟩ ?_
        refine sm_w.weak (ls := [some (.ref 34), some (.ref x1), none, none, some (.int ((1 : Int32))), some (.int ((iV M 34 2) - (1 : Int32))), some (.int (iV M2 34 4)), some (.long ((0 : Int64))), none, some (.int ((1 : Int32))), some (.int (s0)), none]) (sm_leI [true, true, false, false, true, true, true, true, false, true, true, false] rfl) ?_
        exact h
    · have h := h.2 hc
      exact h
theorem g71_3 {M : sm_M} {x1 : Nat} {x2 : Int32} {x3 : Int32} {K : Int32 → sm_M → Prop} (hS : SH M) (hx1 : fH x1) (h : ((x2 = 0 → sm_w 71 (124, [some (.ref 34), some (.ref x1), none, none, some (.int ((0 : Int32))), some (.int (iV M 34 2)), some (.int (iV M 34 4)), some (.long ((0 : Int64))), none, some (.int ((1 : Int32))), some (.int (x3)), none], []) M (rI K)) ∧ (¬ x2 = 0 → sm_cI 66 [.ref 34, .int ((46 : Int32))] M (fun v2 M1 => SH M1 → sm_w 71 (124, [some (.ref 34), some (.ref x1), none, none, some (.int ((0 : Int32))), some (.int (iV M 34 2)), some (.int (iV M1 34 4)), some (.long ((0 : Int64))), none, some (.int ((1 : Int32))), some (.int (x3)), none], []) M1 (rI K))))) : sm_w 71 (75, [some (.ref 34), some (.ref x1), some (.int (x2)), some (.int (x3)), none, none, none, none, none, none, none, none], []) M (rI K) := by
  refine sm_w.run t71 sr71 39 4 (M2 := M) (f2 := (if (0 : Int32) = 0 then 92 else 83, [some (.ref 34), some (.ref x1), some (.int (x2)), some (.int (x3)), some (.int ((0 : Int32))), none, none, none, none, none, none, none], [])) rfl ⟨trivial, (Nat.le_of_ble_eq_true rfl), trivial, trivial, trivial⟩ ?_
  rw [if_pos (by decide)]
  refine sm_w.run t71 sr71 48 5 (M2 := M) (f2 := (if x2 = 0 then 109 else 102, [some (.ref 34), some (.ref x1), some (.int (x2)), some (.int (x3)), some (.int ((0 : Int32))), some (.int (iV M 34 2)), none, none, none, none, none, none], [])) rfl ⟨trivial, sm_K.g (k_34 hS) (sm_sh.rf _), (Nat.le_of_ble_eq_true rfl), trivial, trivial, trivial⟩ ?_
  refine sm_w.ite (fun hc => ?_) (fun hc => ?_)
  · have h := h.1 hc
    refine sm_w.run t71 sr71 57 9 (M2 := M) (f2 := (124, [some (.ref 34), some (.ref x1), some (.int (x2)), some (.int (x3)), some (.int ((0 : Int32))), some (.int (iV M 34 2)), some (.int (iV M 34 4)), some (.long ((0 : Int64))), none, some (.int ((1 : Int32))), some (.int (x3)), none], [])) rfl ⟨trivial, sm_K.g (k_34 hS) (sm_sh.rf _), (Nat.le_of_ble_eq_true rfl), trivial, (Nat.le_of_ble_eq_true rfl), trivial, (Nat.le_of_ble_eq_true rfl), trivial, (Nat.le_of_ble_eq_true rfl), trivial⟩ ?_
    refine sm_w.weak (ls := [some (.ref 34), some (.ref x1), none, none, some (.int ((0 : Int32))), some (.int (iV M 34 2)), some (.int (iV M 34 4)), some (.long ((0 : Int64))), none, some (.int ((1 : Int32))), some (.int (x3)), none]) (sm_leI [true, true, false, false, true, true, true, true, false, true, true, false] rfl) ?_
    exact h
  · have h := h.2 hc
    refine sm_w.run t71 sr71 53 2 (M2 := M) (f2 := (105, [some (.ref 34), some (.ref x1), some (.int (x2)), some (.int (x3)), some (.int ((0 : Int32))), some (.int (iV M 34 2)), none, none, none, none, none, none], [.int ((46 : Int32)), .ref 34])) rfl ⟨trivial, trivial, trivial⟩ ?_
    refine sm_w.cI t71 sr71 55 (i := 66) (as := [.ref 34, .int ((46 : Int32))]) (g := (105, [some (.ref 34), some (.ref x1), some (.int (x2)), some (.int (x3)), some (.int ((0 : Int32))), some (.int (iV M 34 2)), none, none, none, none, none, none], [])) rfl ⟨by decide, by decide, (Nat.le_of_ble_eq_true rfl), (sm_K.g (k_34 hS) (sm_sh.rf _)).1, (sm_K.g (k_34 hS) (sm_sh.rf _)).2, (Nat.le_of_ble_eq_true rfl)⟩ (Nat.le_of_ble_eq_true rfl) (by decide) (sm_cI.s (by decide) hS h) (fun v2 M1 h => ?_)
    obtain ⟨hS3, h⟩ := h
    refine sm_w.run t71 sr71 56 10 (M2 := M1) (f2 := (124, [some (.ref 34), some (.ref x1), some (.int (x2)), some (.int (x3)), some (.int ((0 : Int32))), some (.int (iV M 34 2)), some (.int (iV M1 34 4)), some (.long ((0 : Int64))), none, some (.int ((1 : Int32))), some (.int (x3)), none], [])) rfl ⟨rfl, trivial, sm_K.g (k_34 hS3) (sm_sh.rf _), (Nat.le_of_ble_eq_true rfl), trivial, (Nat.le_of_ble_eq_true rfl), trivial, (Nat.le_of_ble_eq_true rfl), trivial, (Nat.le_of_ble_eq_true rfl), trivial⟩ ?_
    refine sm_w.weak (ls := [some (.ref 34), some (.ref x1), none, none, some (.int ((0 : Int32))), some (.int (iV M 34 2)), some (.int (iV M1 34 4)), some (.long ((0 : Int64))), none, some (.int ((1 : Int32))), some (.int (x3)), none]) (sm_leI [true, true, false, false, true, true, true, true, false, true, true, false] rfl) ?_
    exact h
theorem g71_4 {M : sm_M} {x1 : Nat} {x4 : Int32} {x5 : Int32} {x6 : Int32} {x7 : Int64} {x9 : Int32} {x10 : Int32} {K : Int32 → sm_M → Prop} (hS : SH M) (hx1 : fH x1) (h : ((x5 ≤ x10 → (((iV M 34 4) = x6 → K (0 : Int32) M) ∧ (¬ (iV M 34 4) = x6 → ((x4 = 0 → sm_cI 72 [.ref x1, .ref 35, .int (iV M 34 4), .long (x7)] M (fun v2 M1 => SH M1 → (v2 = 0 ∨ v2 = 1) ∧ K v2 M1)) ∧ (¬ x4 = 0 → sm_cI 66 [.ref 34, .int ((46 : Int32))] M (fun v6 M5 => SH M5 → sm_cI 72 [.ref x1, .ref 35, .int (iV M5 34 4), .long (x7)] M5 (fun v9 M8 => SH M8 → (v9 = 0 ∨ v9 = 1) ∧ K v9 M8))))))) ∧ (¬ x5 ≤ x10 → (q30_0 M 24 x10) ∧ (((p42_0 M (p30_0 M 24 x10)) = 0 → sm_cI 65 [.ref 34, .int (p30_0 M 24 x10), .int ((12 : Int32) + x6)] M (fun v14 M13 => SH M13 → ((v14 = 0 → K (0 : Int32) M13) ∧ (¬ v14 = 0 → sm_w 71 (124, [some (.ref 34), some (.ref x1), none, none, some (.int (x4)), some (.int (x5)), some (.int (x6)), some (.long (x7)), none, some (.int ((1 : Int32))), some (.int (x10 + (1 : Int32))), none], []) M13 (rI K))))) ∧ (¬ (p42_0 M (p30_0 M 24 x10)) = 0 → ((x9 = 0 → sm_cI 65 [.ref 34, .int (p30_0 M 24 x10), .int ((12 : Int32) + x6)] M (fun v17 M16 => SH M16 → ((v17 = 0 → K (0 : Int32) M16) ∧ (¬ v17 = 0 → sm_w 71 (124, [some (.ref 34), some (.ref x1), none, none, some (.int (x4)), some (.int (x5)), some (.int (x6)), some (.long (x7)), none, some (.int ((1 : Int32))), some (.int (x10 + (1 : Int32))), none], []) M16 (rI K))))) ∧ (¬ x9 = 0 → sm_w 71 (124, [some (.ref 34), some (.ref x1), none, none, some (.int (x4)), some (.int (x5)), some (.int (x6)), some (.long (x7 ||| ((((p30_0 M 24 x10) - (48 : Int32)).toInt64) <<< (((4 : Int32) * ((iV M 34 4) - x6)).toInt64 &&& 63)))), none, some (.int ((0 : Int32))), some (.int (x10 + (1 : Int32))), none], []) M (rI K)))))))) : sm_w 71 (124, [some (.ref 34), some (.ref x1), none, none, some (.int (x4)), some (.int (x5)), some (.int (x6)), some (.long (x7)), none, some (.int (x9)), some (.int (x10)), none], []) M (rI K) := by
  refine sm_w.run t71 sr71 66 3 (M2 := M) (f2 := (if x5 ≤ x10 then 210 else 131, [some (.ref 34), some (.ref x1), none, none, some (.int (x4)), some (.int (x5)), some (.int (x6)), some (.long (x7)), none, some (.int (x9)), some (.int (x10)), none], [])) rfl ⟨trivial, trivial, trivial, trivial⟩ ?_
  refine sm_w.ite (fun hc => ?_) (fun hc => ?_)
  · have h := h.1 hc
    refine sm_w.run t71 sr71 110 4 (M2 := M) (f2 := (if (iV M 34 4) = x6 then 219 else 221, [some (.ref 34), some (.ref x1), none, none, some (.int (x4)), some (.int (x5)), some (.int (x6)), some (.long (x7)), none, some (.int (x9)), some (.int (x10)), none], [])) rfl ⟨trivial, sm_K.g (k_34 hS) (sm_sh.rf _), trivial, trivial, trivial⟩ ?_
    refine sm_w.ite (fun hc => ?_) (fun hc => ?_)
    · have h := h.1 hc
      refine sm_w.run t71 sr71 114 1 (M2 := M) (f2 := (220, [some (.ref 34), some (.ref x1), none, none, some (.int (x4)), some (.int (x5)), some (.int (x6)), some (.long (x7)), none, some (.int (x9)), some (.int (x10)), none], [.int ((0 : Int32))])) rfl ⟨trivial, trivial⟩ ?_
      exact sm_w.end t71 sr71 115 (o := .returned (some (.int ((0 : Int32))))) (M2 := M) rfl rfl (by decide) (⟨_, rfl, h⟩)
    · have h := h.2 hc
      refine sm_w.run t71 sr71 116 2 (M2 := M) (f2 := (if x4 = 0 then 233 else 226, [some (.ref 34), some (.ref x1), none, none, some (.int (x4)), some (.int (x5)), some (.int (x6)), some (.long (x7)), none, some (.int (x9)), some (.int (x10)), none], [])) rfl ⟨trivial, trivial, trivial⟩ ?_
      refine sm_w.ite (fun hc => ?_) (fun hc => ?_)
      · have h := h.1 hc
        refine sm_w.run t71 sr71 122 3 (M2 := M) (f2 := (238, [some (.ref 34), some (.ref x1), none, none, some (.int (x4)), some (.int (x5)), some (.int (x6)), some (.long (x7)), none, some (.int (x9)), some (.int (x10)), none], [va_rf (sm_rv M 34 3), .ref x1])) rfl ⟨trivial, trivial, sm_K.g (k_34 hS) (sm_sh.rf _), trivial⟩ ?_
        refine sm_w.fld (r_34_3 hS) ?_
        refine sm_w.run t71 sr71 125 3 (M2 := M) (f2 := (244, [some (.ref 34), some (.ref x1), none, none, some (.int (x4)), some (.int (x5)), some (.int (x6)), some (.long (x7)), none, some (.int (x9)), some (.int (x10)), none], [.long (x7), .int (iV M 34 4), .ref 35, .ref x1])) rfl ⟨trivial, sm_K.g (k_34 hS) (sm_sh.rf _), trivial, trivial⟩ ?_
        refine sm_w.cI t71 sr71 128 (i := 72) (as := [.ref x1, .ref 35, .int (iV M 34 4), .long (x7)]) (g := (244, [some (.ref 34), some (.ref x1), none, none, some (.int (x4)), some (.int (x5)), some (.int (x6)), some (.long (x7)), none, some (.int (x9)), some (.int (x10)), none], [])) rfl ⟨by decide, by decide, (Nat.le_of_ble_eq_true rfl), (sm_K.g (kH_0 hS hx1) (sm_sh.rf _)).1, (sm_K.g (kH_0 hS hx1) (sm_sh.rf _)).2, (Nat.le_of_ble_eq_true rfl)⟩ (Nat.le_of_ble_eq_true rfl) (by decide) (sm_cI.s (by decide) hS h) (fun v2 M1 h => ?_)
        obtain ⟨hS3, h⟩ := h
        obtain ⟨c4, h⟩ := h
        exact sm_w.end t71 sr71 129 (o := .returned (some (.int (v2)))) (M2 := M1) rfl (nar3 c4) (by decide) (⟨_, rfl, h⟩)
      · have h := h.2 hc
        refine sm_w.run t71 sr71 118 2 (M2 := M) (f2 := (229, [some (.ref 34), some (.ref x1), none, none, some (.int (x4)), some (.int (x5)), some (.int (x6)), some (.long (x7)), none, some (.int (x9)), some (.int (x10)), none], [.int ((46 : Int32)), .ref 34])) rfl ⟨trivial, trivial, trivial⟩ ?_
        refine sm_w.cI t71 sr71 120 (i := 66) (as := [.ref 34, .int ((46 : Int32))]) (g := (229, [some (.ref 34), some (.ref x1), none, none, some (.int (x4)), some (.int (x5)), some (.int (x6)), some (.long (x7)), none, some (.int (x9)), some (.int (x10)), none], [])) rfl ⟨by decide, by decide, (Nat.le_of_ble_eq_true rfl), (sm_K.g (k_34 hS) (sm_sh.rf _)).1, (sm_K.g (k_34 hS) (sm_sh.rf _)).2, (Nat.le_of_ble_eq_true rfl)⟩ (Nat.le_of_ble_eq_true rfl) (by decide) (sm_cI.s (by decide) hS h) (fun v6 M5 h => ?_)
        obtain ⟨hS7, h⟩ := h
        refine sm_w.run t71 sr71 121 4 (M2 := M5) (f2 := (238, [some (.ref 34), some (.ref x1), none, none, some (.int (x4)), some (.int (x5)), some (.int (x6)), some (.long (x7)), none, some (.int (x9)), some (.int (x10)), none], [va_rf (sm_rv M5 34 3), .ref x1])) rfl ⟨rfl, trivial, trivial, sm_K.g (k_34 hS7) (sm_sh.rf _), trivial⟩ ?_
        refine sm_w.fld (r_34_3 hS7) ?_
        refine sm_w.run t71 sr71 125 3 (M2 := M5) (f2 := (244, [some (.ref 34), some (.ref x1), none, none, some (.int (x4)), some (.int (x5)), some (.int (x6)), some (.long (x7)), none, some (.int (x9)), some (.int (x10)), none], [.long (x7), .int (iV M5 34 4), .ref 35, .ref x1])) rfl ⟨trivial, sm_K.g (k_34 hS7) (sm_sh.rf _), trivial, trivial⟩ ?_
        refine sm_w.cI t71 sr71 128 (i := 72) (as := [.ref x1, .ref 35, .int (iV M5 34 4), .long (x7)]) (g := (244, [some (.ref 34), some (.ref x1), none, none, some (.int (x4)), some (.int (x5)), some (.int (x6)), some (.long (x7)), none, some (.int (x9)), some (.int (x10)), none], [])) rfl ⟨by decide, by decide, (Nat.le_of_ble_eq_true rfl), (sm_K.g (kH_0 hS7 hx1) (sm_sh.rf _)).1, (sm_K.g (kH_0 hS7 hx1) (sm_sh.rf _)).2, (Nat.le_of_ble_eq_true rfl)⟩ (Nat.le_of_ble_eq_true rfl) (by decide) (sm_cI.s (by decide) hS7 h) (fun v9 M8 h => ?_)
        obtain ⟨hS10, h⟩ := h
        obtain ⟨c11, h⟩ := h
        exact sm_w.end t71 sr71 129 (o := .returned (some (.int (v9)))) (M2 := M8) rfl (nar3 c11) (by decide) (⟨_, rfl, h⟩)
  · have h := h.2 hc
    refine sm_w.run t71 sr71 69 2 (M2 := M) (f2 := (135, [some (.ref 34), some (.ref x1), none, none, some (.int (x4)), some (.int (x5)), some (.int (x6)), some (.long (x7)), none, some (.int (x9)), some (.int (x10)), none], [va_rf (sm_rv M 34 0)])) rfl ⟨trivial, sm_K.g (k_34 hS) (sm_sh.rf _), trivial⟩ ?_
    refine sm_w.fld (r_34_0 hS) ?_
    obtain ⟨c12, h⟩ := h
    refine sm_w.run t71 sr71 71 1 (M2 := M) (f2 := (137, [some (.ref 34), some (.ref x1), none, none, some (.int (x4)), some (.int (x5)), some (.int (x6)), some (.long (x7)), none, some (.int (x9)), some (.int (x10)), none], [.int (x10), .ref 24])) rfl ⟨trivial, trivial⟩ ?_
    refine sm_w.cI t71 sr71 72 (i := 30) (as := [.ref 24, .int (x10)]) (g := (137, [some (.ref 34), some (.ref x1), none, none, some (.int (x4)), some (.int (x5)), some (.int (x6)), some (.long (x7)), none, some (.int (x9)), some (.int (x10)), none], [])) rfl ⟨by decide, by decide, (Nat.le_of_ble_eq_true rfl), (sm_K.g (kB_0 hS fB_24) (sm_sh.rf _)).1, (sm_K.g (kB_0 hS fB_24) (sm_sh.rf _)).2, (Nat.le_of_ble_eq_true rfl)⟩ (Nat.le_of_ble_eq_true rfl) (by decide) (p30_c hS fB_24 c12) (fun vz M2 hz => ?_)
    obtain ⟨hz1, hz2⟩ := hz
    subst hz1
    have hz2 := hz2.symm
    subst hz2
    refine sm_w.run t71 sr71 73 2 (M2 := M) (f2 := (144, [some (.ref 34), some (.ref x1), none, none, some (.int (x4)), some (.int (x5)), some (.int (x6)), some (.long (x7)), none, some (.int (x9)), some (.int (x10)), some (.int (p30_0 M 24 x10))], [.int (p30_0 M 24 x10)])) rfl ⟨(Nat.le_of_ble_eq_true rfl), trivial, trivial⟩ ?_
    refine sm_w.cI t71 sr71 75 (i := 42) (as := [.int (p30_0 M 24 x10)]) (g := (144, [some (.ref 34), some (.ref x1), none, none, some (.int (x4)), some (.int (x5)), some (.int (x6)), some (.long (x7)), none, some (.int (x9)), some (.int (x10)), some (.int (p30_0 M 24 x10))], [])) rfl ⟨(Nat.le_of_ble_eq_true rfl), (Nat.le_of_ble_eq_true rfl)⟩ (Nat.le_of_ble_eq_true rfl) (by decide) (p42_c hS) (fun vz M2 hz => ?_)
    obtain ⟨hz1, hz2⟩ := hz
    subst hz1
    have hz2 := hz2.symm
    subst hz2
    refine sm_w.run t71 sr71 76 1 (M2 := M) (f2 := (if (p42_0 M (p30_0 M 24 x10)) = 0 then 182 else 150, [some (.ref 34), some (.ref x1), none, none, some (.int (x4)), some (.int (x5)), some (.int (x6)), some (.long (x7)), none, some (.int (x9)), some (.int (x10)), some (.int (p30_0 M 24 x10))], [])) rfl ⟨trivial, trivial⟩ ?_
    refine sm_w.ite (fun hc => ?_) (fun hc => ?_)
    · have h := h.1 hc
      refine sm_w.run t71 sr71 96 5 (M2 := M) (f2 := (190, [some (.ref 34), some (.ref x1), none, none, some (.int (x4)), some (.int (x5)), some (.int (x6)), some (.long (x7)), none, some (.int (x9)), some (.int (x10)), some (.int (p30_0 M 24 x10))], [.int ((12 : Int32) + x6), .int (p30_0 M 24 x10), .ref 34])) rfl ⟨trivial, trivial, trivial, trivial, trivial, trivial⟩ ?_
      refine sm_w.cI t71 sr71 101 (i := 65) (as := [.ref 34, .int (p30_0 M 24 x10), .int ((12 : Int32) + x6)]) (g := (190, [some (.ref 34), some (.ref x1), none, none, some (.int (x4)), some (.int (x5)), some (.int (x6)), some (.long (x7)), none, some (.int (x9)), some (.int (x10)), some (.int (p30_0 M 24 x10))], [])) rfl ⟨by decide, by decide, (Nat.le_of_ble_eq_true rfl), (sm_K.g (k_34 hS) (sm_sh.rf _)).1, (sm_K.g (k_34 hS) (sm_sh.rf _)).2, (Nat.le_of_ble_eq_true rfl)⟩ (Nat.le_of_ble_eq_true rfl) (by decide) (sm_cI.s (by decide) hS h) (fun v14 M13 h => ?_)
      obtain ⟨hS15, h⟩ := h
      refine sm_w.run t71 sr71 102 1 (M2 := M13) (f2 := (if v14 = 0 then 202 else 196, [some (.ref 34), some (.ref x1), none, none, some (.int (x4)), some (.int (x5)), some (.int (x6)), some (.long (x7)), none, some (.int (x9)), some (.int (x10)), some (.int (p30_0 M 24 x10))], [])) rfl ⟨trivial, trivial⟩ ?_
      refine sm_w.ite (fun hc => ?_) (fun hc => ?_)
      · have h := h.1 hc
        refine sm_w.run t71 sr71 106 1 (M2 := M13) (f2 := (203, [some (.ref 34), some (.ref x1), none, none, some (.int (x4)), some (.int (x5)), some (.int (x6)), some (.long (x7)), none, some (.int (x9)), some (.int (x10)), some (.int (p30_0 M 24 x10))], [.int ((0 : Int32))])) rfl ⟨trivial, trivial⟩ ?_
        exact sm_w.end t71 sr71 107 (o := .returned (some (.int ((0 : Int32))))) (M2 := M13) rfl rfl (by decide) (⟨_, rfl, h⟩)
      · have h := h.2 hc
        refine sm_w.run t71 sr71 103 3 (M2 := M13) (f2 := (204, [some (.ref 34), some (.ref x1), none, none, some (.int (x4)), some (.int (x5)), some (.int (x6)), some (.long (x7)), none, some (.int ((1 : Int32))), some (.int (x10)), some (.int (p30_0 M 24 x10))], [])) rfl ⟨trivial, (Nat.le_of_ble_eq_true rfl), trivial, trivial⟩ ?_
        refine sm_w.run t71 sr71 108 2 (M2 := M13) (f2 := (124, [some (.ref 34), some (.ref x1), none, none, some (.int (x4)), some (.int (x5)), some (.int (x6)), some (.long (x7)), none, some (.int ((1 : Int32))), some (.int (x10 + (1 : Int32))), some (.int (p30_0 M 24 x10))], [])) rfl ⟨(Nat.le_of_ble_eq_true rfl), trivial, trivial⟩ ?_
        refine sm_w.weak (ls := [some (.ref 34), some (.ref x1), none, none, some (.int (x4)), some (.int (x5)), some (.int (x6)), some (.long (x7)), none, some (.int ((1 : Int32))), some (.int (x10 + (1 : Int32))), none]) (sm_leI [true, true, false, false, true, true, true, true, false, true, true, false] rfl) ?_
        exact h
    · have h := h.2 hc
      refine sm_w.run t71 sr71 77 2 (M2 := M) (f2 := (if x9 = 0 then 182 else 155, [some (.ref 34), some (.ref x1), none, none, some (.int (x4)), some (.int (x5)), some (.int (x6)), some (.long (x7)), none, some (.int (x9)), some (.int (x10)), some (.int (p30_0 M 24 x10))], [])) rfl ⟨trivial, trivial, trivial⟩ ?_
      refine sm_w.ite (fun hc => ?_) (fun hc => ?_)
      · have h := h.1 hc
        refine sm_w.run t71 sr71 96 5 (M2 := M) (f2 := (190, [some (.ref 34), some (.ref x1), none, none, some (.int (x4)), some (.int (x5)), some (.int (x6)), some (.long (x7)), none, some (.int (x9)), some (.int (x10)), some (.int (p30_0 M 24 x10))], [.int ((12 : Int32) + x6), .int (p30_0 M 24 x10), .ref 34])) rfl ⟨trivial, trivial, trivial, trivial, trivial, trivial⟩ ?_
        refine sm_w.cI t71 sr71 101 (i := 65) (as := [.ref 34, .int (p30_0 M 24 x10), .int ((12 : Int32) + x6)]) (g := (190, [some (.ref 34), some (.ref x1), none, none, some (.int (x4)), some (.int (x5)), some (.int (x6)), some (.long (x7)), none, some (.int (x9)), some (.int (x10)), some (.int (p30_0 M 24 x10))], [])) rfl ⟨by decide, by decide, (Nat.le_of_ble_eq_true rfl), (sm_K.g (k_34 hS) (sm_sh.rf _)).1, (sm_K.g (k_34 hS) (sm_sh.rf _)).2, (Nat.le_of_ble_eq_true rfl)⟩ (Nat.le_of_ble_eq_true rfl) (by decide) (sm_cI.s (by decide) hS h) (fun v17 M16 h => ?_)
        obtain ⟨hS18, h⟩ := h
        refine sm_w.run t71 sr71 102 1 (M2 := M16) (f2 := (if v17 = 0 then 202 else 196, [some (.ref 34), some (.ref x1), none, none, some (.int (x4)), some (.int (x5)), some (.int (x6)), some (.long (x7)), none, some (.int (x9)), some (.int (x10)), some (.int (p30_0 M 24 x10))], [])) rfl ⟨trivial, trivial⟩ ?_
        refine sm_w.ite (fun hc => ?_) (fun hc => ?_)
        · have h := h.1 hc
          refine sm_w.run t71 sr71 106 1 (M2 := M16) (f2 := (203, [some (.ref 34), some (.ref x1), none, none, some (.int (x4)), some (.int (x5)), some (.int (x6)), some (.long (x7)), none, some (.int (x9)), some (.int (x10)), some (.int (p30_0 M 24 x10))], [.int ((0 : Int32))])) rfl ⟨trivial, trivial⟩ ?_
          exact sm_w.end t71 sr71 107 (o := .returned (some (.int ((0 : Int32))))) (M2 := M16) rfl rfl (by decide) (⟨_, rfl, h⟩)
        · have h := h.2 hc
          refine sm_w.run t71 sr71 103 3 (M2 := M16) (f2 := (204, [some (.ref 34), some (.ref x1), none, none, some (.int (x4)), some (.int (x5)), some (.int (x6)), some (.long (x7)), none, some (.int ((1 : Int32))), some (.int (x10)), some (.int (p30_0 M 24 x10))], [])) rfl ⟨trivial, (Nat.le_of_ble_eq_true rfl), trivial, trivial⟩ ?_
          refine sm_w.run t71 sr71 108 2 (M2 := M16) (f2 := (124, [some (.ref 34), some (.ref x1), none, none, some (.int (x4)), some (.int (x5)), some (.int (x6)), some (.long (x7)), none, some (.int ((1 : Int32))), some (.int (x10 + (1 : Int32))), some (.int (p30_0 M 24 x10))], [])) rfl ⟨(Nat.le_of_ble_eq_true rfl), trivial, trivial⟩ ?_
          refine sm_w.weak (ls := [some (.ref 34), some (.ref x1), none, none, some (.int (x4)), some (.int (x5)), some (.int (x6)), some (.long (x7)), none, some (.int ((1 : Int32))), some (.int (x10 + (1 : Int32))), none]) (sm_leI [true, true, false, false, true, true, true, true, false, true, true, false] rfl) ?_
          exact h
      · have h := h.2 hc
        refine sm_w.run t71 sr71 79 17 (M2 := M) (f2 := (204, [some (.ref 34), some (.ref x1), none, none, some (.int (x4)), some (.int (x5)), some (.int (x6)), some (.long (x7 ||| ((((p30_0 M 24 x10) - (48 : Int32)).toInt64) <<< (((4 : Int32) * ((iV M 34 4) - x6)).toInt64 &&& 63)))), none, some (.int ((0 : Int32))), some (.int (x10)), some (.int (p30_0 M 24 x10))], [])) rfl ⟨trivial, trivial, trivial, trivial, trivial, trivial, trivial, sm_K.g (k_34 hS) (sm_sh.rf _), trivial, trivial, trivial, trivial, trivial, (Nat.le_of_ble_eq_true rfl), trivial, (Nat.le_of_ble_eq_true rfl), trivial, trivial⟩ ?_
        refine sm_w.run t71 sr71 108 2 (M2 := M) (f2 := (124, [some (.ref 34), some (.ref x1), none, none, some (.int (x4)), some (.int (x5)), some (.int (x6)), some (.long (x7 ||| ((((p30_0 M 24 x10) - (48 : Int32)).toInt64) <<< (((4 : Int32) * ((iV M 34 4) - x6)).toInt64 &&& 63)))), none, some (.int ((0 : Int32))), some (.int (x10 + (1 : Int32))), some (.int (p30_0 M 24 x10))], [])) rfl ⟨(Nat.le_of_ble_eq_true rfl), trivial, trivial⟩ ?_
        refine sm_w.weak (ls := [some (.ref 34), some (.ref x1), none, none, some (.int (x4)), some (.int (x5)), some (.int (x6)), some (.long (x7 ||| ((((p30_0 M 24 x10) - (48 : Int32)).toInt64) <<< (((4 : Int32) * ((iV M 34 4) - x6)).toInt64 &&& 63)))), none, some (.int ((0 : Int32))), some (.int (x10 + (1 : Int32))), none]) (sm_leI [true, true, false, false, true, true, true, true, false, true, true, false] rfl) ?_
        exact h
