/-! METHODS by their segments. -/
-- 181 LineSetterModel.join()V
theorem t181 : sP 181 = (6, sp_181, sh_181) := rfl
theorem sr181 : sm_srt sp_181 = true := by decide +kernel
theorem g181_0 {M : sm_M}  {K : sm_M → Prop} (hS : SH M)  (h : sm_cI 176 [.ref 116] M (fun v2 M1 => SH M1 → sm_cI 176 [.ref 116] M1 (fun v5 M4 => SH M4 → sm_w 181 (18, [some (.ref 116), some (.int (v2)), some (.int (iV M1 116 10)), some (.int (v5)), some (.int ((0 : Int32))), none], []) M4 (rV K)))) : sm_w 181 (sm_in sP 181 [.ref 116]) M (rV K) := by
  show sm_w 181 (0, [some (.ref 116), none, none, none, none, none], []) M (rV K)
  refine sm_w.run t181 sr181 0 1 (M2 := M) (f2 := (1, [some (.ref 116), none, none, none, none, none], [.ref 116])) rfl ⟨trivial, trivial⟩ ?_
  refine sm_w.cI t181 sr181 1 (i := 176) (as := [.ref 116]) (g := (1, [some (.ref 116), none, none, none, none, none], [])) rfl ⟨by decide, by decide, (Nat.le_of_ble_eq_true rfl), (sm_K.g (k_116 hS) (sm_sh.rf _)).1, (sm_K.g (k_116 hS) (sm_sh.rf _)).2, (Nat.le_of_ble_eq_true rfl)⟩ (Nat.le_of_ble_eq_true rfl) (by decide) (sm_cI.s (by decide) hS h) (fun v2 M1 h => ?_)
  obtain ⟨hS3, h⟩ := h
  refine sm_w.run t181 sr181 2 5 (M2 := M1) (f2 := (11, [some (.ref 116), some (.int (v2)), some (.int (iV M1 116 10)), none, none, none], [.ref 116])) rfl ⟨(Nat.le_of_ble_eq_true rfl), trivial, sm_K.g (k_116 hS3) (sm_sh.rf _), (Nat.le_of_ble_eq_true rfl), trivial, trivial⟩ ?_
  refine sm_w.cI t181 sr181 7 (i := 176) (as := [.ref 116]) (g := (11, [some (.ref 116), some (.int (v2)), some (.int (iV M1 116 10)), none, none, none], [])) rfl ⟨by decide, by decide, (Nat.le_of_ble_eq_true rfl), (sm_K.g (k_116 hS3) (sm_sh.rf _)).1, (sm_K.g (k_116 hS3) (sm_sh.rf _)).2, (Nat.le_of_ble_eq_true rfl)⟩ (Nat.le_of_ble_eq_true rfl) (by decide) (sm_cI.s (by decide) hS3 h) (fun v5 M4 h => ?_)
  obtain ⟨hS6, h⟩ := h
  refine sm_w.run t181 sr181 8 3 (M2 := M4) (f2 := (18, [some (.ref 116), some (.int (v2)), some (.int (iV M1 116 10)), some (.int (v5)), some (.int ((0 : Int32))), none], [])) rfl ⟨(Nat.le_of_ble_eq_true rfl), trivial, (Nat.le_of_ble_eq_true rfl), trivial⟩ ?_
  exact h
theorem g181_1 {M : sm_M} {x1 : Int32} {x2 : Int32} {x3 : Int32} {x4 : Int32} {K : sm_M → Prop} (hS : SH M)  (h : (((iV M 116 31) ≤ x4 → sm_w 181 (55, [some (.ref 116), some (.int (x1)), some (.int (x2)), some (.int (x3)), some (.int (x4)), none], []) M (rV K)) ∧ (¬ (iV M 116 31) ≤ x4 → (vp_in x4 60) ∧ (((iV M 131 x4.toNatClampNeg) = x1 → (vp_in x4 60) ∧ (((iV M 132 x4.toNatClampNeg) = x3 → sm_w 181 (55, [some (.ref 116), some (.int (x1)), some (.int (x2)), some (.int (x3)), some (.int (x4)), none], []) M (rV K)) ∧ (¬ (iV M 132 x4.toNatClampNeg) = x3 → sm_w 181 (18, [some (.ref 116), some (.int (x1)), some (.int (x2)), some (.int (x3)), some (.int (x4 + (1 : Int32))), none], []) M (rV K)))) ∧ (¬ (iV M 131 x4.toNatClampNeg) = x1 → sm_w 181 (18, [some (.ref 116), some (.int (x1)), some (.int (x2)), some (.int (x3)), some (.int (x4 + (1 : Int32))), none], []) M (rV K)))))) : sm_w 181 (18, [some (.ref 116), some (.int (x1)), some (.int (x2)), some (.int (x3)), some (.int (x4)), none], []) M (rV K) := by
  refine sm_w.run t181 sr181 11 4 (M2 := M) (f2 := (if (iV M 116 31) ≤ x4 then 55 else 27, [some (.ref 116), some (.int (x1)), some (.int (x2)), some (.int (x3)), some (.int (x4)), none], [])) rfl ⟨trivial, trivial, sm_K.g (k_116 hS) (sm_sh.rf _), trivial, trivial⟩ ?_
  refine sm_w.ite (fun hc => ?_) (fun hc => ?_)
  · have h := h.1 hc
    exact h
  · have h := h.2 hc
    refine sm_w.run t181 sr181 15 2 (M2 := M) (f2 := (31, [some (.ref 116), some (.int (x1)), some (.int (x2)), some (.int (x3)), some (.int (x4)), none], [va_rf (sm_rv M 116 25)])) rfl ⟨trivial, sm_K.g (k_116 hS) (sm_sh.rf _), trivial⟩ ?_
    refine sm_w.fld (r_116_25 hS) ?_
    obtain ⟨c1, h⟩ := h
    refine sm_w.run t181 sr181 17 4 (M2 := M) (f2 := (if (iV M 131 x4.toNatClampNeg) = x1 then 38 else 49, [some (.ref 116), some (.int (x1)), some (.int (x2)), some (.int (x3)), some (.int (x4)), none], [])) rfl ⟨trivial, sm_K.a2 (k_131 hS) (l_131 hS) c1, trivial, trivial, trivial⟩ ?_
    refine sm_w.ite (fun hc => ?_) (fun hc => ?_)
    · have h := h.1 hc
      refine sm_w.run t181 sr181 21 2 (M2 := M) (f2 := (42, [some (.ref 116), some (.int (x1)), some (.int (x2)), some (.int (x3)), some (.int (x4)), none], [va_rf (sm_rv M 116 26)])) rfl ⟨trivial, sm_K.g (k_116 hS) (sm_sh.rf _), trivial⟩ ?_
      refine sm_w.fld (r_116_26 hS) ?_
      obtain ⟨c2, h⟩ := h
      refine sm_w.run t181 sr181 23 4 (M2 := M) (f2 := (if (iV M 132 x4.toNatClampNeg) = x3 then 55 else 49, [some (.ref 116), some (.int (x1)), some (.int (x2)), some (.int (x3)), some (.int (x4)), none], [])) rfl ⟨trivial, sm_K.a2 (k_132 hS) (l_132 hS) c2, trivial, trivial, trivial⟩ ?_
      refine sm_w.ite (fun hc => ?_) (fun hc => ?_)
      · have h := h.1 hc
        exact h
      · have h := h.2 hc
        refine sm_w.run t181 sr181 27 2 (M2 := M) (f2 := (18, [some (.ref 116), some (.int (x1)), some (.int (x2)), some (.int (x3)), some (.int (x4 + (1 : Int32))), none], [])) rfl ⟨(Nat.le_of_ble_eq_true rfl), trivial, trivial⟩ ?_
        exact h
    · have h := h.2 hc
      refine sm_w.run t181 sr181 27 2 (M2 := M) (f2 := (18, [some (.ref 116), some (.int (x1)), some (.int (x2)), some (.int (x3)), some (.int (x4 + (1 : Int32))), none], [])) rfl ⟨(Nat.le_of_ble_eq_true rfl), trivial, trivial⟩ ?_
      exact h
theorem g181_2 {M : sm_M} {x1 : Int32} {x2 : Int32} {x3 : Int32} {x4 : Int32} {K : sm_M → Prop} (hS : SH M)  (h : ((0 ≤ (iV M 116 8) → sm_w 181 (74, [some (.ref 116), some (.int (x1)), none, some (.int (x3)), some (.int (x4)), none], []) M (rV K)) ∧ (¬ 0 ≤ (iV M 116 8) → ((x4 = (60 : Int32) → sm_cV 177 [.ref 116, .int (x2)] M (fun M1 => SH M1 → sm_w 181 (74, [some (.ref 116), some (.int (x1)), none, some (.int (x3)), some (.int (x4)), none], []) M1 (rV K))) ∧ (¬ x4 = (60 : Int32) → sm_w 181 (74, [some (.ref 116), some (.int (x1)), none, some (.int (x3)), some (.int (x4)), none], []) M (rV K)))))) : sm_w 181 (55, [some (.ref 116), some (.int (x1)), some (.int (x2)), some (.int (x3)), some (.int (x4)), none], []) M (rV K) := by
  refine sm_w.run t181 sr181 29 3 (M2 := M) (f2 := (if 0 ≤ (iV M 116 8) then 74 else 62, [some (.ref 116), some (.int (x1)), some (.int (x2)), some (.int (x3)), some (.int (x4)), none], [])) rfl ⟨trivial, sm_K.g (k_116 hS) (sm_sh.rf _), trivial, trivial⟩ ?_
  refine sm_w.ite (fun hc => ?_) (fun hc => ?_)
  · have h := h.1 hc
    refine sm_w.weak (ls := [some (.ref 116), some (.int (x1)), none, some (.int (x3)), some (.int (x4)), none]) (sm_leI [true, true, false, true, true, false] rfl) ?_
    exact h
  · have h := h.2 hc
    refine sm_w.run t181 sr181 32 3 (M2 := M) (f2 := (if x4 = (60 : Int32) then 69 else 74, [some (.ref 116), some (.int (x1)), some (.int (x2)), some (.int (x3)), some (.int (x4)), none], [])) rfl ⟨trivial, trivial, trivial, trivial⟩ ?_
    refine sm_w.ite (fun hc => ?_) (fun hc => ?_)
    · have h := h.1 hc
      refine sm_w.run t181 sr181 35 2 (M2 := M) (f2 := (71, [some (.ref 116), some (.int (x1)), some (.int (x2)), some (.int (x3)), some (.int (x4)), none], [.int (x2), .ref 116])) rfl ⟨trivial, trivial, trivial⟩ ?_
      refine sm_w.cV t181 sr181 37 (i := 177) (as := [.ref 116, .int (x2)]) (g := (71, [some (.ref 116), some (.int (x1)), some (.int (x2)), some (.int (x3)), some (.int (x4)), none], [])) rfl ⟨by decide, by decide, (Nat.le_of_ble_eq_true rfl), (sm_K.g (k_116 hS) (sm_sh.rf _)).1, (sm_K.g (k_116 hS) (sm_sh.rf _)).2, (Nat.le_of_ble_eq_true rfl)⟩ (Nat.le_of_ble_eq_true rfl) (by decide) (sm_cV.s (by decide) hS h) (fun M1 h => ?_)
      obtain ⟨hS3, h⟩ := h
      refine sm_w.weak (ls := [some (.ref 116), some (.int (x1)), none, some (.int (x3)), some (.int (x4)), none]) (sm_leI [true, true, false, true, true, false] rfl) ?_
      exact h
    · have h := h.2 hc
      refine sm_w.weak (ls := [some (.ref 116), some (.int (x1)), none, some (.int (x3)), some (.int (x4)), none]) (sm_leI [true, true, false, true, true, false] rfl) ?_
      exact h
theorem g181_3 {M : sm_M} {x1 : Int32} {x3 : Int32} {x4 : Int32} {K : sm_M → Prop} (hS : SH M)  (h : (((iV M 116 8) < 0 → sm_cI 178 [.ref 116, .int ((5000 : Int32))] M (fun v2 M1 => SH M1 → sm_cV 179 [.ref 116] M1 (fun M4 => SH M4 → (((iV M4 116 8) < 0 → ((x4 = (iV M4 116 31) → ∀ M7, SH M7 → M7 = sm_wI M4 116 31 ((iV M4 116 31) + (1 : Int32)) → (vp_in x4 60) ∧ ∀ M10, SH M10 → M10 = sm_wI M7 131 x4.toNatClampNeg x1 → (vp_in x4 60) ∧ ∀ M13, SH M13 → M13 = sm_wI M10 132 x4.toNatClampNeg x3 → (vp_in x4 60) ∧ ∀ M16, SH M16 → M16 = sm_wI M13 133 x4.toNatClampNeg v2 → K M16) ∧ (¬ x4 = (iV M4 116 31) → (vp_in x4 60) ∧ ∀ M19, SH M19 → M19 = sm_wI M4 131 x4.toNatClampNeg x1 → (vp_in x4 60) ∧ ∀ M22, SH M22 → M22 = sm_wI M19 132 x4.toNatClampNeg x3 → (vp_in x4 60) ∧ ∀ M25, SH M25 → M25 = sm_wI M22 133 x4.toNatClampNeg v2 → K M25))) ∧ (¬ (iV M4 116 8) < 0 → K M4))))) ∧ (¬ (iV M 116 8) < 0 → K M))) : sm_w 181 (74, [some (.ref 116), some (.int (x1)), none, some (.int (x3)), some (.int (x4)), none], []) M (rV K) := by
  refine sm_w.run t181 sr181 38 3 (M2 := M) (f2 := (if (iV M 116 8) < 0 then 82 else 81, [some (.ref 116), some (.int (x1)), none, some (.int (x3)), some (.int (x4)), none], [])) rfl ⟨trivial, sm_K.g (k_116 hS) (sm_sh.rf _), trivial, trivial⟩ ?_
  refine sm_w.ite (fun hc => ?_) (fun hc => ?_)
  · have h := h.1 hc
    refine sm_w.run t181 sr181 42 2 (M2 := M) (f2 := (86, [some (.ref 116), some (.int (x1)), none, some (.int (x3)), some (.int (x4)), none], [.int ((5000 : Int32)), .ref 116])) rfl ⟨trivial, trivial, trivial⟩ ?_
    refine sm_w.cI t181 sr181 44 (i := 178) (as := [.ref 116, .int ((5000 : Int32))]) (g := (86, [some (.ref 116), some (.int (x1)), none, some (.int (x3)), some (.int (x4)), none], [])) rfl ⟨by decide, by decide, (Nat.le_of_ble_eq_true rfl), (sm_K.g (k_116 hS) (sm_sh.rf _)).1, (sm_K.g (k_116 hS) (sm_sh.rf _)).2, (Nat.le_of_ble_eq_true rfl)⟩ (Nat.le_of_ble_eq_true rfl) (by decide) (sm_cI.s (by decide) hS h) (fun v2 M1 h => ?_)
    obtain ⟨hS3, h⟩ := h
    refine sm_w.run t181 sr181 45 2 (M2 := M1) (f2 := (92, [some (.ref 116), some (.int (x1)), none, some (.int (x3)), some (.int (x4)), some (.int (v2))], [.ref 116])) rfl ⟨(Nat.le_of_ble_eq_true rfl), trivial, trivial⟩ ?_
    refine sm_w.cV t181 sr181 47 (i := 179) (as := [.ref 116]) (g := (92, [some (.ref 116), some (.int (x1)), none, some (.int (x3)), some (.int (x4)), some (.int (v2))], [])) rfl ⟨by decide, by decide, (Nat.le_of_ble_eq_true rfl), (sm_K.g (k_116 hS3) (sm_sh.rf _)).1, (sm_K.g (k_116 hS3) (sm_sh.rf _)).2, (Nat.le_of_ble_eq_true rfl)⟩ (Nat.le_of_ble_eq_true rfl) (by decide) (sm_cV.s (by decide) hS3 h) (fun M4 h => ?_)
    obtain ⟨hS6, h⟩ := h
    refine sm_w.run t181 sr181 48 3 (M2 := M4) (f2 := (if (iV M4 116 8) < 0 then 103 else 102, [some (.ref 116), some (.int (x1)), none, some (.int (x3)), some (.int (x4)), some (.int (v2))], [])) rfl ⟨trivial, sm_K.g (k_116 hS6) (sm_sh.rf _), trivial, trivial⟩ ?_
    refine sm_w.ite (fun hc => ?_) (fun hc => ?_)
    · have h := h.1 hc
      refine sm_w.run t181 sr181 52 4 (M2 := M4) (f2 := (if x4 = (iV M4 116 31) then 112 else 122, [some (.ref 116), some (.int (x1)), none, some (.int (x3)), some (.int (x4)), some (.int (v2))], [])) rfl ⟨trivial, trivial, sm_K.g (k_116 hS6) (sm_sh.rf _), trivial, trivial⟩ ?_
      refine sm_w.ite (fun hc => ?_) (fun hc => ?_)
      · have h := h.1 hc
        refine sm_w.run t181 sr181 56 6 (M2 := sm_wI M4 116 31 ((iV M4 116 31) + (1 : Int32))) (f2 := (122, [some (.ref 116), some (.int (x1)), none, some (.int (x3)), some (.int (x4)), some (.int (v2))], [])) rfl ⟨trivial, rfl, sm_K.g (k_116 hS6) (sm_sh.rf _), trivial, trivial, ⟨(sm_K.p (k_116 hS6) (sm_sh.rf _)).1, (sm_K.p (k_116 hS6) (sm_sh.rf _)).2.1, (sm_K.p (k_116 hS6) (sm_sh.rf _)).2.2, Or.inl rfl⟩, trivial⟩ ?_
        have hS8 : SH (sm_wI M4 116 31 ((iV M4 116 31) + (1 : Int32))) := SH.wI hS6 _ _ _
        have h := h _ hS8 rfl
        generalize sm_wI M4 116 31 ((iV M4 116 31) + (1 : Int32)) = M7 at h hS8 ⊢
        refine sm_w.run t181 sr181 62 2 (M2 := M7) (f2 := (126, [some (.ref 116), some (.int (x1)), none, some (.int (x3)), some (.int (x4)), some (.int (v2))], [va_rf (sm_rv M7 116 25)])) rfl ⟨trivial, sm_K.g (k_116 hS8) (sm_sh.rf _), trivial⟩ ?_
        refine sm_w.fld (r_116_25 hS8) ?_
        obtain ⟨c9, h⟩ := h
        refine sm_w.run t181 sr181 64 3 (M2 := sm_wI M7 131 x4.toNatClampNeg x1) (f2 := (130, [some (.ref 116), some (.int (x1)), none, some (.int (x3)), some (.int (x4)), some (.int (v2))], [])) rfl ⟨trivial, trivial, sm_K.s2 (k_131 hS8) (l_131 hS8) c9, trivial⟩ ?_
        have hS11 : SH (sm_wI M7 131 x4.toNatClampNeg x1) := SH.wI hS8 _ _ _
        have h := h _ hS11 rfl
        generalize sm_wI M7 131 x4.toNatClampNeg x1 = M10 at h hS11 ⊢
        refine sm_w.run t181 sr181 67 2 (M2 := M10) (f2 := (134, [some (.ref 116), some (.int (x1)), none, some (.int (x3)), some (.int (x4)), some (.int (v2))], [va_rf (sm_rv M10 116 26)])) rfl ⟨trivial, sm_K.g (k_116 hS11) (sm_sh.rf _), trivial⟩ ?_
        refine sm_w.fld (r_116_26 hS11) ?_
        obtain ⟨c12, h⟩ := h
        refine sm_w.run t181 sr181 69 3 (M2 := sm_wI M10 132 x4.toNatClampNeg x3) (f2 := (138, [some (.ref 116), some (.int (x1)), none, some (.int (x3)), some (.int (x4)), some (.int (v2))], [])) rfl ⟨trivial, trivial, sm_K.s2 (k_132 hS11) (l_132 hS11) c12, trivial⟩ ?_
        have hS14 : SH (sm_wI M10 132 x4.toNatClampNeg x3) := SH.wI hS11 _ _ _
        have h := h _ hS14 rfl
        generalize sm_wI M10 132 x4.toNatClampNeg x3 = M13 at h hS14 ⊢
        refine sm_w.run t181 sr181 72 2 (M2 := M13) (f2 := (142, [some (.ref 116), some (.int (x1)), none, some (.int (x3)), some (.int (x4)), some (.int (v2))], [va_rf (sm_rv M13 116 27)])) rfl ⟨trivial, sm_K.g (k_116 hS14) (sm_sh.rf _), trivial⟩ ?_
        refine sm_w.fld (r_116_27 hS14) ?_
        obtain ⟨c15, h⟩ := h
        refine sm_w.run t181 sr181 74 3 (M2 := sm_wI M13 133 x4.toNatClampNeg v2) (f2 := (147, [some (.ref 116), some (.int (x1)), none, some (.int (x3)), some (.int (x4)), some (.int (v2))], [])) rfl ⟨trivial, trivial, sm_K.s2 (k_133 hS14) (l_133 hS14) c15, trivial⟩ ?_
        have hS17 : SH (sm_wI M13 133 x4.toNatClampNeg v2) := SH.wI hS14 _ _ _
        have h := h _ hS17 rfl
        generalize sm_wI M13 133 x4.toNatClampNeg v2 = M16 at h hS17 ⊢
        exact sm_w.end t181 sr181 77 (o := .returned none) (M2 := M16) rfl trivial (by decide) (⟨rfl, h⟩)
      · have h := h.2 hc
        refine sm_w.run t181 sr181 62 2 (M2 := M4) (f2 := (126, [some (.ref 116), some (.int (x1)), none, some (.int (x3)), some (.int (x4)), some (.int (v2))], [va_rf (sm_rv M4 116 25)])) rfl ⟨trivial, sm_K.g (k_116 hS6) (sm_sh.rf _), trivial⟩ ?_
        refine sm_w.fld (r_116_25 hS6) ?_
        obtain ⟨c18, h⟩ := h
        refine sm_w.run t181 sr181 64 3 (M2 := sm_wI M4 131 x4.toNatClampNeg x1) (f2 := (130, [some (.ref 116), some (.int (x1)), none, some (.int (x3)), some (.int (x4)), some (.int (v2))], [])) rfl ⟨trivial, trivial, sm_K.s2 (k_131 hS6) (l_131 hS6) c18, trivial⟩ ?_
        have hS20 : SH (sm_wI M4 131 x4.toNatClampNeg x1) := SH.wI hS6 _ _ _
        have h := h _ hS20 rfl
        generalize sm_wI M4 131 x4.toNatClampNeg x1 = M19 at h hS20 ⊢
        refine sm_w.run t181 sr181 67 2 (M2 := M19) (f2 := (134, [some (.ref 116), some (.int (x1)), none, some (.int (x3)), some (.int (x4)), some (.int (v2))], [va_rf (sm_rv M19 116 26)])) rfl ⟨trivial, sm_K.g (k_116 hS20) (sm_sh.rf _), trivial⟩ ?_
        refine sm_w.fld (r_116_26 hS20) ?_
        obtain ⟨c21, h⟩ := h
        refine sm_w.run t181 sr181 69 3 (M2 := sm_wI M19 132 x4.toNatClampNeg x3) (f2 := (138, [some (.ref 116), some (.int (x1)), none, some (.int (x3)), some (.int (x4)), some (.int (v2))], [])) rfl ⟨trivial, trivial, sm_K.s2 (k_132 hS20) (l_132 hS20) c21, trivial⟩ ?_
        have hS23 : SH (sm_wI M19 132 x4.toNatClampNeg x3) := SH.wI hS20 _ _ _
        have h := h _ hS23 rfl
        generalize sm_wI M19 132 x4.toNatClampNeg x3 = M22 at h hS23 ⊢
        refine sm_w.run t181 sr181 72 2 (M2 := M22) (f2 := (142, [some (.ref 116), some (.int (x1)), none, some (.int (x3)), some (.int (x4)), some (.int (v2))], [va_rf (sm_rv M22 116 27)])) rfl ⟨trivial, sm_K.g (k_116 hS23) (sm_sh.rf _), trivial⟩ ?_
        refine sm_w.fld (r_116_27 hS23) ?_
        obtain ⟨c24, h⟩ := h
        refine sm_w.run t181 sr181 74 3 (M2 := sm_wI M22 133 x4.toNatClampNeg v2) (f2 := (147, [some (.ref 116), some (.int (x1)), none, some (.int (x3)), some (.int (x4)), some (.int (v2))], [])) rfl ⟨trivial, trivial, sm_K.s2 (k_133 hS23) (l_133 hS23) c24, trivial⟩ ?_
        have hS26 : SH (sm_wI M22 133 x4.toNatClampNeg v2) := SH.wI hS23 _ _ _
        have h := h _ hS26 rfl
        generalize sm_wI M22 133 x4.toNatClampNeg v2 = M25 at h hS26 ⊢
        exact sm_w.end t181 sr181 77 (o := .returned none) (M2 := M25) rfl trivial (by decide) (⟨rfl, h⟩)
    · have h := h.2 hc
      exact sm_w.end t181 sr181 51 (o := .returned none) (M2 := M4) rfl trivial (by decide) (⟨rfl, h⟩)
  · have h := h.2 hc
    exact sm_w.end t181 sr181 41 (o := .returned none) (M2 := M) rfl trivial (by decide) (⟨rfl, h⟩)
