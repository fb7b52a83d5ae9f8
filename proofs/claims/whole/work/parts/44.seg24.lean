/-! METHODS by their segments. -/
-- 176 LineSetterModel.oneByte()I
theorem t176 : sP 176 = (2, sp_176, sh_176) := rfl
theorem sr176 : sm_srt sp_176 = true := by decide +kernel
theorem g176_0 {M : sm_M}  {K : Int32 → sm_M → Prop} (hS : SH M)  (h : ((0 ≤ (iV M 116 8) → (((iV M 116 8) < 0 → (vp_in ((iV M 116 10) + (1 : Int32)) 8192) ∧ sm_cV 170 [.ref 116] M (fun M2 => SH M2 → K (iV M 118 ((iV M 116 10) + (1 : Int32)).toNatClampNeg) M2)) ∧ (¬ (iV M 116 8) < 0 → K (0 : Int32) M))) ∧ (¬ 0 ≤ (iV M 116 8) → (((iV M 116 9) = (3 : Int32) → ((((iV M 116 11) - (iV M 116 10)) = (3 : Int32) → (((iV M 116 8) < 0 → (vp_in ((iV M 116 10) + (1 : Int32)) 8192) ∧ sm_cV 170 [.ref 116] M (fun M6 => SH M6 → K (iV M 118 ((iV M 116 10) + (1 : Int32)).toNatClampNeg) M6)) ∧ (¬ (iV M 116 8) < 0 → K (0 : Int32) M))) ∧ (¬ ((iV M 116 11) - (iV M 116 10)) = (3 : Int32) → sm_cV 177 [.ref 116, .int (iV M 116 10)] M (fun M9 => SH M9 → (((iV M9 116 8) < 0 → (vp_in ((iV M9 116 10) + (1 : Int32)) 8192) ∧ sm_cV 170 [.ref 116] M9 (fun M13 => SH M13 → K (iV M9 118 ((iV M9 116 10) + (1 : Int32)).toNatClampNeg) M13)) ∧ (¬ (iV M9 116 8) < 0 → K (0 : Int32) M9)))))) ∧ (¬ (iV M 116 9) = (3 : Int32) → sm_cV 177 [.ref 116, .int (iV M 116 10)] M (fun M16 => SH M16 → (((iV M16 116 8) < 0 → (vp_in ((iV M16 116 10) + (1 : Int32)) 8192) ∧ sm_cV 170 [.ref 116] M16 (fun M20 => SH M20 → K (iV M16 118 ((iV M16 116 10) + (1 : Int32)).toNatClampNeg) M20)) ∧ (¬ (iV M16 116 8) < 0 → K (0 : Int32) M16)))))))) : sm_w 176 (sm_in sP 176 [.ref 116]) M (rI K) := by
  show sm_w 176 (0, [some (.ref 116), none], []) M (rI K)
  refine sm_w.run t176 sr176 0 3 (M2 := M) (f2 := (if 0 ≤ (iV M 116 8) then 36 else 7, [some (.ref 116), none], [])) rfl ⟨trivial, sm_K.g (k_116 hS) (sm_sh.rf _), trivial, trivial⟩ ?_
  refine sm_w.ite (fun hc => ?_) (fun hc => ?_)
  · have h := h.1 hc
    refine sm_w.run t176 sr176 18 3 (M2 := M) (f2 := (if (iV M 116 8) < 0 then 45 else 43, [some (.ref 116), none], [])) rfl ⟨trivial, sm_K.g (k_116 hS) (sm_sh.rf _), trivial, trivial⟩ ?_
    refine sm_w.ite (fun hc => ?_) (fun hc => ?_)
    · have h := h.1 hc
      refine sm_w.run t176 sr176 23 2 (M2 := M) (f2 := (49, [some (.ref 116), none], [va_rf (sm_rv M 116 2)])) rfl ⟨trivial, sm_K.g (k_116 hS) (sm_sh.rf _), trivial⟩ ?_
      refine sm_w.fld (r_116_2 hS) ?_
      obtain ⟨c1, h⟩ := h
      refine sm_w.run t176 sr176 25 7 (M2 := M) (f2 := (58, [some (.ref 116), some (.int (iV M 118 ((iV M 116 10) + (1 : Int32)).toNatClampNeg))], [.ref 116])) rfl ⟨trivial, sm_K.g (k_116 hS) (sm_sh.rf _), trivial, trivial, sm_K.a2 (k_118 hS) (l_118 hS) c1, (Nat.le_of_ble_eq_true rfl), trivial, trivial⟩ ?_
      refine sm_w.cV t176 sr176 32 (i := 170) (as := [.ref 116]) (g := (58, [some (.ref 116), some (.int (iV M 118 ((iV M 116 10) + (1 : Int32)).toNatClampNeg))], [])) rfl ⟨by decide, by decide, (Nat.le_of_ble_eq_true rfl), (sm_K.g (k_116 hS) (sm_sh.rf _)).1, (sm_K.g (k_116 hS) (sm_sh.rf _)).2, (Nat.le_of_ble_eq_true rfl)⟩ (Nat.le_of_ble_eq_true rfl) (by decide) (sm_cV.s (by decide) hS h) (fun M2 h => ?_)
      obtain ⟨hS4, h⟩ := h
      refine sm_w.run t176 sr176 33 1 (M2 := M2) (f2 := (62, [some (.ref 116), some (.int (iV M 118 ((iV M 116 10) + (1 : Int32)).toNatClampNeg))], [.int (iV M 118 ((iV M 116 10) + (1 : Int32)).toNatClampNeg)])) rfl ⟨trivial, trivial⟩ ?_
      exact sm_w.end t176 sr176 34 (o := .returned (some (.int (iV M 118 ((iV M 116 10) + (1 : Int32)).toNatClampNeg)))) (M2 := M2) rfl rfl (by decide) (⟨_, rfl, h⟩)
    · have h := h.2 hc
      refine sm_w.run t176 sr176 21 1 (M2 := M) (f2 := (44, [some (.ref 116), none], [.int ((0 : Int32))])) rfl ⟨trivial, trivial⟩ ?_
      exact sm_w.end t176 sr176 22 (o := .returned (some (.int ((0 : Int32))))) (M2 := M) rfl rfl (by decide) (⟨_, rfl, h⟩)
  · have h := h.2 hc
    refine sm_w.run t176 sr176 3 4 (M2 := M) (f2 := (if (iV M 116 9) = (3 : Int32) then 15 else 28, [some (.ref 116), none], [])) rfl ⟨trivial, sm_K.g (k_116 hS) (sm_sh.rf _), trivial, trivial, trivial⟩ ?_
    refine sm_w.ite (fun hc => ?_) (fun hc => ?_)
    · have h := h.1 hc
      refine sm_w.run t176 sr176 7 7 (M2 := M) (f2 := (if ((iV M 116 11) - (iV M 116 10)) = (3 : Int32) then 36 else 28, [some (.ref 116), none], [])) rfl ⟨trivial, sm_K.g (k_116 hS) (sm_sh.rf _), trivial, sm_K.g (k_116 hS) (sm_sh.rf _), trivial, trivial, trivial, trivial⟩ ?_
      refine sm_w.ite (fun hc => ?_) (fun hc => ?_)
      · have h := h.1 hc
        refine sm_w.run t176 sr176 18 3 (M2 := M) (f2 := (if (iV M 116 8) < 0 then 45 else 43, [some (.ref 116), none], [])) rfl ⟨trivial, sm_K.g (k_116 hS) (sm_sh.rf _), trivial, trivial⟩ ?_
        refine sm_w.ite (fun hc => ?_) (fun hc => ?_)
        · have h := h.1 hc
          refine sm_w.run t176 sr176 23 2 (M2 := M) (f2 := (49, [some (.ref 116), none], [va_rf (sm_rv M 116 2)])) rfl ⟨trivial, sm_K.g (k_116 hS) (sm_sh.rf _), trivial⟩ ?_
          refine sm_w.fld (r_116_2 hS) ?_
          obtain ⟨c5, h⟩ := h
          refine sm_w.run t176 sr176 25 7 (M2 := M) (f2 := (58, [some (.ref 116), some (.int (iV M 118 ((iV M 116 10) + (1 : Int32)).toNatClampNeg))], [.ref 116])) rfl ⟨trivial, sm_K.g (k_116 hS) (sm_sh.rf _), trivial, trivial, sm_K.a2 (k_118 hS) (l_118 hS) c5, (Nat.le_of_ble_eq_true rfl), trivial, trivial⟩ ?_
          refine sm_w.cV t176 sr176 32 (i := 170) (as := [.ref 116]) (g := (58, [some (.ref 116), some (.int (iV M 118 ((iV M 116 10) + (1 : Int32)).toNatClampNeg))], [])) rfl ⟨by decide, by decide, (Nat.le_of_ble_eq_true rfl), (sm_K.g (k_116 hS) (sm_sh.rf _)).1, (sm_K.g (k_116 hS) (sm_sh.rf _)).2, (Nat.le_of_ble_eq_true rfl)⟩ (Nat.le_of_ble_eq_true rfl) (by decide) (sm_cV.s (by decide) hS h) (fun M6 h => ?_)
          obtain ⟨hS8, h⟩ := h
          refine sm_w.run t176 sr176 33 1 (M2 := M6) (f2 := (62, [some (.ref 116), some (.int (iV M 118 ((iV M 116 10) + (1 : Int32)).toNatClampNeg))], [.int (iV M 118 ((iV M 116 10) + (1 : Int32)).toNatClampNeg)])) rfl ⟨trivial, trivial⟩ ?_
          exact sm_w.end t176 sr176 34 (o := .returned (some (.int (iV M 118 ((iV M 116 10) + (1 : Int32)).toNatClampNeg)))) (M2 := M6) rfl rfl (by decide) (⟨_, rfl, h⟩)
        · have h := h.2 hc
          refine sm_w.run t176 sr176 21 1 (M2 := M) (f2 := (44, [some (.ref 116), none], [.int ((0 : Int32))])) rfl ⟨trivial, trivial⟩ ?_
          exact sm_w.end t176 sr176 22 (o := .returned (some (.int ((0 : Int32))))) (M2 := M) rfl rfl (by decide) (⟨_, rfl, h⟩)
      · have h := h.2 hc
        refine sm_w.run t176 sr176 14 3 (M2 := M) (f2 := (33, [some (.ref 116), none], [.int (iV M 116 10), .ref 116])) rfl ⟨trivial, trivial, sm_K.g (k_116 hS) (sm_sh.rf _), trivial⟩ ?_
        refine sm_w.cV t176 sr176 17 (i := 177) (as := [.ref 116, .int (iV M 116 10)]) (g := (33, [some (.ref 116), none], [])) rfl ⟨by decide, by decide, (Nat.le_of_ble_eq_true rfl), (sm_K.g (k_116 hS) (sm_sh.rf _)).1, (sm_K.g (k_116 hS) (sm_sh.rf _)).2, (Nat.le_of_ble_eq_true rfl)⟩ (Nat.le_of_ble_eq_true rfl) (by decide) (sm_cV.s (by decide) hS h) (fun M9 h => ?_)
        obtain ⟨hS11, h⟩ := h
        refine sm_w.run t176 sr176 18 3 (M2 := M9) (f2 := (if (iV M9 116 8) < 0 then 45 else 43, [some (.ref 116), none], [])) rfl ⟨trivial, sm_K.g (k_116 hS11) (sm_sh.rf _), trivial, trivial⟩ ?_
        refine sm_w.ite (fun hc => ?_) (fun hc => ?_)
        · have h := h.1 hc
          refine sm_w.run t176 sr176 23 2 (M2 := M9) (f2 := (49, [some (.ref 116), none], [va_rf (sm_rv M9 116 2)])) rfl ⟨trivial, sm_K.g (k_116 hS11) (sm_sh.rf _), trivial⟩ ?_
          refine sm_w.fld (r_116_2 hS11) ?_
          obtain ⟨c12, h⟩ := h
          refine sm_w.run t176 sr176 25 7 (M2 := M9) (f2 := (58, [some (.ref 116), some (.int (iV M9 118 ((iV M9 116 10) + (1 : Int32)).toNatClampNeg))], [.ref 116])) rfl ⟨trivial, sm_K.g (k_116 hS11) (sm_sh.rf _), trivial, trivial, sm_K.a2 (k_118 hS11) (l_118 hS11) c12, (Nat.le_of_ble_eq_true rfl), trivial, trivial⟩ ?_
          refine sm_w.cV t176 sr176 32 (i := 170) (as := [.ref 116]) (g := (58, [some (.ref 116), some (.int (iV M9 118 ((iV M9 116 10) + (1 : Int32)).toNatClampNeg))], [])) rfl ⟨by decide, by decide, (Nat.le_of_ble_eq_true rfl), (sm_K.g (k_116 hS11) (sm_sh.rf _)).1, (sm_K.g (k_116 hS11) (sm_sh.rf _)).2, (Nat.le_of_ble_eq_true rfl)⟩ (Nat.le_of_ble_eq_true rfl) (by decide) (sm_cV.s (by decide) hS11 h) (fun M13 h => ?_)
          obtain ⟨hS15, h⟩ := h
          refine sm_w.run t176 sr176 33 1 (M2 := M13) (f2 := (62, [some (.ref 116), some (.int (iV M9 118 ((iV M9 116 10) + (1 : Int32)).toNatClampNeg))], [.int (iV M9 118 ((iV M9 116 10) + (1 : Int32)).toNatClampNeg)])) rfl ⟨trivial, trivial⟩ ?_
          exact sm_w.end t176 sr176 34 (o := .returned (some (.int (iV M9 118 ((iV M9 116 10) + (1 : Int32)).toNatClampNeg)))) (M2 := M13) rfl rfl (by decide) (⟨_, rfl, h⟩)
        · have h := h.2 hc
          refine sm_w.run t176 sr176 21 1 (M2 := M9) (f2 := (44, [some (.ref 116), none], [.int ((0 : Int32))])) rfl ⟨trivial, trivial⟩ ?_
          exact sm_w.end t176 sr176 22 (o := .returned (some (.int ((0 : Int32))))) (M2 := M9) rfl rfl (by decide) (⟨_, rfl, h⟩)
    · have h := h.2 hc
      refine sm_w.run t176 sr176 14 3 (M2 := M) (f2 := (33, [some (.ref 116), none], [.int (iV M 116 10), .ref 116])) rfl ⟨trivial, trivial, sm_K.g (k_116 hS) (sm_sh.rf _), trivial⟩ ?_
      refine sm_w.cV t176 sr176 17 (i := 177) (as := [.ref 116, .int (iV M 116 10)]) (g := (33, [some (.ref 116), none], [])) rfl ⟨by decide, by decide, (Nat.le_of_ble_eq_true rfl), (sm_K.g (k_116 hS) (sm_sh.rf _)).1, (sm_K.g (k_116 hS) (sm_sh.rf _)).2, (Nat.le_of_ble_eq_true rfl)⟩ (Nat.le_of_ble_eq_true rfl) (by decide) (sm_cV.s (by decide) hS h) (fun M16 h => ?_)
      obtain ⟨hS18, h⟩ := h
      refine sm_w.run t176 sr176 18 3 (M2 := M16) (f2 := (if (iV M16 116 8) < 0 then 45 else 43, [some (.ref 116), none], [])) rfl ⟨trivial, sm_K.g (k_116 hS18) (sm_sh.rf _), trivial, trivial⟩ ?_
      refine sm_w.ite (fun hc => ?_) (fun hc => ?_)
      · have h := h.1 hc
        refine sm_w.run t176 sr176 23 2 (M2 := M16) (f2 := (49, [some (.ref 116), none], [va_rf (sm_rv M16 116 2)])) rfl ⟨trivial, sm_K.g (k_116 hS18) (sm_sh.rf _), trivial⟩ ?_
        refine sm_w.fld (r_116_2 hS18) ?_
        obtain ⟨c19, h⟩ := h
        refine sm_w.run t176 sr176 25 7 (M2 := M16) (f2 := (58, [some (.ref 116), some (.int (iV M16 118 ((iV M16 116 10) + (1 : Int32)).toNatClampNeg))], [.ref 116])) rfl ⟨trivial, sm_K.g (k_116 hS18) (sm_sh.rf _), trivial, trivial, sm_K.a2 (k_118 hS18) (l_118 hS18) c19, (Nat.le_of_ble_eq_true rfl), trivial, trivial⟩ ?_
        refine sm_w.cV t176 sr176 32 (i := 170) (as := [.ref 116]) (g := (58, [some (.ref 116), some (.int (iV M16 118 ((iV M16 116 10) + (1 : Int32)).toNatClampNeg))], [])) rfl ⟨by decide, by decide, (Nat.le_of_ble_eq_true rfl), (sm_K.g (k_116 hS18) (sm_sh.rf _)).1, (sm_K.g (k_116 hS18) (sm_sh.rf _)).2, (Nat.le_of_ble_eq_true rfl)⟩ (Nat.le_of_ble_eq_true rfl) (by decide) (sm_cV.s (by decide) hS18 h) (fun M20 h => ?_)
        obtain ⟨hS22, h⟩ := h
        refine sm_w.run t176 sr176 33 1 (M2 := M20) (f2 := (62, [some (.ref 116), some (.int (iV M16 118 ((iV M16 116 10) + (1 : Int32)).toNatClampNeg))], [.int (iV M16 118 ((iV M16 116 10) + (1 : Int32)).toNatClampNeg)])) rfl ⟨trivial, trivial⟩ ?_
        exact sm_w.end t176 sr176 34 (o := .returned (some (.int (iV M16 118 ((iV M16 116 10) + (1 : Int32)).toNatClampNeg)))) (M2 := M20) rfl rfl (by decide) (⟨_, rfl, h⟩)
      · have h := h.2 hc
        refine sm_w.run t176 sr176 21 1 (M2 := M16) (f2 := (44, [some (.ref 116), none], [.int ((0 : Int32))])) rfl ⟨trivial, trivial⟩ ?_
        exact sm_w.end t176 sr176 22 (o := .returned (some (.int ((0 : Int32))))) (M2 := M16) rfl rfl (by decide) (⟨_, rfl, h⟩)
-- 178 LineSetterModel.number(I)I
theorem t178 : sP 178 = (3, sp_178, sh_178) := rfl
theorem sr178 : sm_srt sp_178 = true := by decide +kernel
theorem g178_0 {M : sm_M} {x1 : Int32} {K : Int32 → sm_M → Prop} (hS : SH M)  (h : ((0 ≤ (iV M 116 8) → (((iV M 116 8) < 0 → sm_cV 170 [.ref 116] M (fun M1 => SH M1 → K (iV M 116 12) M1)) ∧ (¬ (iV M 116 8) < 0 → K (0 : Int32) M))) ∧ (¬ 0 ≤ (iV M 116 8) → (((iV M 116 9) = (2 : Int32) → (((iV M 116 12) ≤ x1 → (((iV M 116 8) < 0 → sm_cV 170 [.ref 116] M (fun M4 => SH M4 → K (iV M 116 12) M4)) ∧ (¬ (iV M 116 8) < 0 → K (0 : Int32) M))) ∧ (¬ (iV M 116 12) ≤ x1 → sm_cV 177 [.ref 116, .int (iV M 116 10)] M (fun M7 => SH M7 → (((iV M7 116 8) < 0 → sm_cV 170 [.ref 116] M7 (fun M10 => SH M10 → K (iV M7 116 12) M10)) ∧ (¬ (iV M7 116 8) < 0 → K (0 : Int32) M7)))))) ∧ (¬ (iV M 116 9) = (2 : Int32) → sm_cV 177 [.ref 116, .int (iV M 116 10)] M (fun M13 => SH M13 → (((iV M13 116 8) < 0 → sm_cV 170 [.ref 116] M13 (fun M16 => SH M16 → K (iV M13 116 12) M16)) ∧ (¬ (iV M13 116 8) < 0 → K (0 : Int32) M13)))))))) : sm_w 178 (sm_in sP 178 [.ref 116, .int (x1)]) M (rI K) := by
  show sm_w 178 (0, [some (.ref 116), some (.int (x1)), none], []) M (rI K)
  refine sm_w.run t178 sr178 0 3 (M2 := M) (f2 := (if 0 ≤ (iV M 116 8) then 31 else 7, [some (.ref 116), some (.int (x1)), none], [])) rfl ⟨trivial, sm_K.g (k_116 hS) (sm_sh.rf _), trivial, trivial⟩ ?_
  refine sm_w.ite (fun hc => ?_) (fun hc => ?_)
  · have h := h.1 hc
    refine sm_w.run t178 sr178 15 3 (M2 := M) (f2 := (if (iV M 116 8) < 0 then 40 else 38, [some (.ref 116), some (.int (x1)), none], [])) rfl ⟨trivial, sm_K.g (k_116 hS) (sm_sh.rf _), trivial, trivial⟩ ?_
    refine sm_w.ite (fun hc => ?_) (fun hc => ?_)
    · have h := h.1 hc
      refine sm_w.run t178 sr178 20 4 (M2 := M) (f2 := (46, [some (.ref 116), some (.int (x1)), some (.int (iV M 116 12))], [.ref 116])) rfl ⟨trivial, sm_K.g (k_116 hS) (sm_sh.rf _), (Nat.le_of_ble_eq_true rfl), trivial, trivial⟩ ?_
      refine sm_w.cV t178 sr178 24 (i := 170) (as := [.ref 116]) (g := (46, [some (.ref 116), some (.int (x1)), some (.int (iV M 116 12))], [])) rfl ⟨by decide, by decide, (Nat.le_of_ble_eq_true rfl), (sm_K.g (k_116 hS) (sm_sh.rf _)).1, (sm_K.g (k_116 hS) (sm_sh.rf _)).2, (Nat.le_of_ble_eq_true rfl)⟩ (Nat.le_of_ble_eq_true rfl) (by decide) (sm_cV.s (by decide) hS h) (fun M1 h => ?_)
      obtain ⟨hS3, h⟩ := h
      refine sm_w.run t178 sr178 25 1 (M2 := M1) (f2 := (50, [some (.ref 116), some (.int (x1)), some (.int (iV M 116 12))], [.int (iV M 116 12)])) rfl ⟨trivial, trivial⟩ ?_
      exact sm_w.end t178 sr178 26 (o := .returned (some (.int (iV M 116 12)))) (M2 := M1) rfl rfl (by decide) (⟨_, rfl, h⟩)
    · have h := h.2 hc
      refine sm_w.run t178 sr178 18 1 (M2 := M) (f2 := (39, [some (.ref 116), some (.int (x1)), none], [.int ((0 : Int32))])) rfl ⟨trivial, trivial⟩ ?_
      exact sm_w.end t178 sr178 19 (o := .returned (some (.int ((0 : Int32))))) (M2 := M) rfl rfl (by decide) (⟨_, rfl, h⟩)
  · have h := h.2 hc
    refine sm_w.run t178 sr178 3 4 (M2 := M) (f2 := (if (iV M 116 9) = (2 : Int32) then 15 else 23, [some (.ref 116), some (.int (x1)), none], [])) rfl ⟨trivial, sm_K.g (k_116 hS) (sm_sh.rf _), trivial, trivial, trivial⟩ ?_
    refine sm_w.ite (fun hc => ?_) (fun hc => ?_)
    · have h := h.1 hc
      refine sm_w.run t178 sr178 7 4 (M2 := M) (f2 := (if (iV M 116 12) ≤ x1 then 31 else 23, [some (.ref 116), some (.int (x1)), none], [])) rfl ⟨trivial, sm_K.g (k_116 hS) (sm_sh.rf _), trivial, trivial, trivial⟩ ?_
      refine sm_w.ite (fun hc => ?_) (fun hc => ?_)
      · have h := h.1 hc
        refine sm_w.run t178 sr178 15 3 (M2 := M) (f2 := (if (iV M 116 8) < 0 then 40 else 38, [some (.ref 116), some (.int (x1)), none], [])) rfl ⟨trivial, sm_K.g (k_116 hS) (sm_sh.rf _), trivial, trivial⟩ ?_
        refine sm_w.ite (fun hc => ?_) (fun hc => ?_)
        · have h := h.1 hc
          refine sm_w.run t178 sr178 20 4 (M2 := M) (f2 := (46, [some (.ref 116), some (.int (x1)), some (.int (iV M 116 12))], [.ref 116])) rfl ⟨trivial, sm_K.g (k_116 hS) (sm_sh.rf _), (Nat.le_of_ble_eq_true rfl), trivial, trivial⟩ ?_
          refine sm_w.cV t178 sr178 24 (i := 170) (as := [.ref 116]) (g := (46, [some (.ref 116), some (.int (x1)), some (.int (iV M 116 12))], [])) rfl ⟨by decide, by decide, (Nat.le_of_ble_eq_true rfl), (sm_K.g (k_116 hS) (sm_sh.rf _)).1, (sm_K.g (k_116 hS) (sm_sh.rf _)).2, (Nat.le_of_ble_eq_true rfl)⟩ (Nat.le_of_ble_eq_true rfl) (by decide) (sm_cV.s (by decide) hS h) (fun M4 h => ?_)
          obtain ⟨hS6, h⟩ := h
          refine sm_w.run t178 sr178 25 1 (M2 := M4) (f2 := (50, [some (.ref 116), some (.int (x1)), some (.int (iV M 116 12))], [.int (iV M 116 12)])) rfl ⟨trivial, trivial⟩ ?_
          exact sm_w.end t178 sr178 26 (o := .returned (some (.int (iV M 116 12)))) (M2 := M4) rfl rfl (by decide) (⟨_, rfl, h⟩)
        · have h := h.2 hc
          refine sm_w.run t178 sr178 18 1 (M2 := M) (f2 := (39, [some (.ref 116), some (.int (x1)), none], [.int ((0 : Int32))])) rfl ⟨trivial, trivial⟩ ?_
          exact sm_w.end t178 sr178 19 (o := .returned (some (.int ((0 : Int32))))) (M2 := M) rfl rfl (by decide) (⟨_, rfl, h⟩)
      · have h := h.2 hc
        refine sm_w.run t178 sr178 11 3 (M2 := M) (f2 := (28, [some (.ref 116), some (.int (x1)), none], [.int (iV M 116 10), .ref 116])) rfl ⟨trivial, trivial, sm_K.g (k_116 hS) (sm_sh.rf _), trivial⟩ ?_
        refine sm_w.cV t178 sr178 14 (i := 177) (as := [.ref 116, .int (iV M 116 10)]) (g := (28, [some (.ref 116), some (.int (x1)), none], [])) rfl ⟨by decide, by decide, (Nat.le_of_ble_eq_true rfl), (sm_K.g (k_116 hS) (sm_sh.rf _)).1, (sm_K.g (k_116 hS) (sm_sh.rf _)).2, (Nat.le_of_ble_eq_true rfl)⟩ (Nat.le_of_ble_eq_true rfl) (by decide) (sm_cV.s (by decide) hS h) (fun M7 h => ?_)
        obtain ⟨hS9, h⟩ := h
        refine sm_w.run t178 sr178 15 3 (M2 := M7) (f2 := (if (iV M7 116 8) < 0 then 40 else 38, [some (.ref 116), some (.int (x1)), none], [])) rfl ⟨trivial, sm_K.g (k_116 hS9) (sm_sh.rf _), trivial, trivial⟩ ?_
        refine sm_w.ite (fun hc => ?_) (fun hc => ?_)
        · have h := h.1 hc
          refine sm_w.run t178 sr178 20 4 (M2 := M7) (f2 := (46, [some (.ref 116), some (.int (x1)), some (.int (iV M7 116 12))], [.ref 116])) rfl ⟨trivial, sm_K.g (k_116 hS9) (sm_sh.rf _), (Nat.le_of_ble_eq_true rfl), trivial, trivial⟩ ?_
          refine sm_w.cV t178 sr178 24 (i := 170) (as := [.ref 116]) (g := (46, [some (.ref 116), some (.int (x1)), some (.int (iV M7 116 12))], [])) rfl ⟨by decide, by decide, (Nat.le_of_ble_eq_true rfl), (sm_K.g (k_116 hS9) (sm_sh.rf _)).1, (sm_K.g (k_116 hS9) (sm_sh.rf _)).2, (Nat.le_of_ble_eq_true rfl)⟩ (Nat.le_of_ble_eq_true rfl) (by decide) (sm_cV.s (by decide) hS9 h) (fun M10 h => ?_)
          obtain ⟨hS12, h⟩ := h
          refine sm_w.run t178 sr178 25 1 (M2 := M10) (f2 := (50, [some (.ref 116), some (.int (x1)), some (.int (iV M7 116 12))], [.int (iV M7 116 12)])) rfl ⟨trivial, trivial⟩ ?_
          exact sm_w.end t178 sr178 26 (o := .returned (some (.int (iV M7 116 12)))) (M2 := M10) rfl rfl (by decide) (⟨_, rfl, h⟩)
        · have h := h.2 hc
          refine sm_w.run t178 sr178 18 1 (M2 := M7) (f2 := (39, [some (.ref 116), some (.int (x1)), none], [.int ((0 : Int32))])) rfl ⟨trivial, trivial⟩ ?_
          exact sm_w.end t178 sr178 19 (o := .returned (some (.int ((0 : Int32))))) (M2 := M7) rfl rfl (by decide) (⟨_, rfl, h⟩)
    · have h := h.2 hc
      refine sm_w.run t178 sr178 11 3 (M2 := M) (f2 := (28, [some (.ref 116), some (.int (x1)), none], [.int (iV M 116 10), .ref 116])) rfl ⟨trivial, trivial, sm_K.g (k_116 hS) (sm_sh.rf _), trivial⟩ ?_
      refine sm_w.cV t178 sr178 14 (i := 177) (as := [.ref 116, .int (iV M 116 10)]) (g := (28, [some (.ref 116), some (.int (x1)), none], [])) rfl ⟨by decide, by decide, (Nat.le_of_ble_eq_true rfl), (sm_K.g (k_116 hS) (sm_sh.rf _)).1, (sm_K.g (k_116 hS) (sm_sh.rf _)).2, (Nat.le_of_ble_eq_true rfl)⟩ (Nat.le_of_ble_eq_true rfl) (by decide) (sm_cV.s (by decide) hS h) (fun M13 h => ?_)
      obtain ⟨hS15, h⟩ := h
      refine sm_w.run t178 sr178 15 3 (M2 := M13) (f2 := (if (iV M13 116 8) < 0 then 40 else 38, [some (.ref 116), some (.int (x1)), none], [])) rfl ⟨trivial, sm_K.g (k_116 hS15) (sm_sh.rf _), trivial, trivial⟩ ?_
      refine sm_w.ite (fun hc => ?_) (fun hc => ?_)
      · have h := h.1 hc
        refine sm_w.run t178 sr178 20 4 (M2 := M13) (f2 := (46, [some (.ref 116), some (.int (x1)), some (.int (iV M13 116 12))], [.ref 116])) rfl ⟨trivial, sm_K.g (k_116 hS15) (sm_sh.rf _), (Nat.le_of_ble_eq_true rfl), trivial, trivial⟩ ?_
        refine sm_w.cV t178 sr178 24 (i := 170) (as := [.ref 116]) (g := (46, [some (.ref 116), some (.int (x1)), some (.int (iV M13 116 12))], [])) rfl ⟨by decide, by decide, (Nat.le_of_ble_eq_true rfl), (sm_K.g (k_116 hS15) (sm_sh.rf _)).1, (sm_K.g (k_116 hS15) (sm_sh.rf _)).2, (Nat.le_of_ble_eq_true rfl)⟩ (Nat.le_of_ble_eq_true rfl) (by decide) (sm_cV.s (by decide) hS15 h) (fun M16 h => ?_)
        obtain ⟨hS18, h⟩ := h
        refine sm_w.run t178 sr178 25 1 (M2 := M16) (f2 := (50, [some (.ref 116), some (.int (x1)), some (.int (iV M13 116 12))], [.int (iV M13 116 12)])) rfl ⟨trivial, trivial⟩ ?_
        exact sm_w.end t178 sr178 26 (o := .returned (some (.int (iV M13 116 12)))) (M2 := M16) rfl rfl (by decide) (⟨_, rfl, h⟩)
      · have h := h.2 hc
        refine sm_w.run t178 sr178 18 1 (M2 := M13) (f2 := (39, [some (.ref 116), some (.int (x1)), none], [.int ((0 : Int32))])) rfl ⟨trivial, trivial⟩ ?_
        exact sm_w.end t178 sr178 19 (o := .returned (some (.int ((0 : Int32))))) (M2 := M13) rfl rfl (by decide) (⟨_, rfl, h⟩)
-- 179 LineSetterModel.stop()V
theorem t179 : sP 179 = (1, sp_179, sh_179) := rfl
theorem sr179 : sm_srt sp_179 = true := by decide +kernel
theorem g179_0 {M : sm_M}  {K : sm_M → Prop} (hS : SH M)  (h : (((iV M 116 8) < 0 → (((iV M 116 9) = (4 : Int32) → (((iV M 116 13) = (59 : Int32) → sm_cV 170 [.ref 116] M (fun M1 => SH M1 → K M1)) ∧ (¬ (iV M 116 13) = (59 : Int32) → sm_cV 177 [.ref 116, .int (iV M 116 10)] M (fun M4 => SH M4 → K M4)))) ∧ (¬ (iV M 116 9) = (4 : Int32) → sm_cV 177 [.ref 116, .int (iV M 116 10)] M (fun M7 => SH M7 → K M7)))) ∧ (¬ (iV M 116 8) < 0 → K M))) : sm_w 179 (sm_in sP 179 [.ref 116]) M (rV K) := by
  show sm_w 179 (0, [some (.ref 116)], []) M (rV K)
  refine sm_w.run t179 sr179 0 3 (M2 := M) (f2 := (if (iV M 116 8) < 0 then 8 else 7, [some (.ref 116)], [])) rfl ⟨trivial, sm_K.g (k_116 hS) (sm_sh.rf _), trivial, trivial⟩ ?_
  refine sm_w.ite (fun hc => ?_) (fun hc => ?_)
  · have h := h.1 hc
    refine sm_w.run t179 sr179 4 4 (M2 := M) (f2 := (if (iV M 116 9) = (4 : Int32) then 16 else 32, [some (.ref 116)], [])) rfl ⟨trivial, sm_K.g (k_116 hS) (sm_sh.rf _), trivial, trivial, trivial⟩ ?_
    refine sm_w.ite (fun hc => ?_) (fun hc => ?_)
    · have h := h.1 hc
      refine sm_w.run t179 sr179 8 4 (M2 := M) (f2 := (if (iV M 116 13) = (59 : Int32) then 25 else 32, [some (.ref 116)], [])) rfl ⟨trivial, sm_K.g (k_116 hS) (sm_sh.rf _), trivial, trivial, trivial⟩ ?_
      refine sm_w.ite (fun hc => ?_) (fun hc => ?_)
      · have h := h.1 hc
        refine sm_w.run t179 sr179 12 1 (M2 := M) (f2 := (26, [some (.ref 116)], [.ref 116])) rfl ⟨trivial, trivial⟩ ?_
        refine sm_w.cV t179 sr179 13 (i := 170) (as := [.ref 116]) (g := (26, [some (.ref 116)], [])) rfl ⟨by decide, by decide, (Nat.le_of_ble_eq_true rfl), (sm_K.g (k_116 hS) (sm_sh.rf _)).1, (sm_K.g (k_116 hS) (sm_sh.rf _)).2, (Nat.le_of_ble_eq_true rfl)⟩ (Nat.le_of_ble_eq_true rfl) (by decide) (sm_cV.s (by decide) hS h) (fun M1 h => ?_)
        obtain ⟨hS3, h⟩ := h
        refine sm_w.run t179 sr179 14 1 (M2 := M1) (f2 := (40, [some (.ref 116)], [])) rfl ⟨trivial, trivial⟩ ?_
        exact sm_w.end t179 sr179 19 (o := .returned none) (M2 := M1) rfl trivial (by decide) (⟨rfl, h⟩)
      · have h := h.2 hc
        refine sm_w.run t179 sr179 15 3 (M2 := M) (f2 := (37, [some (.ref 116)], [.int (iV M 116 10), .ref 116])) rfl ⟨trivial, trivial, sm_K.g (k_116 hS) (sm_sh.rf _), trivial⟩ ?_
        refine sm_w.cV t179 sr179 18 (i := 177) (as := [.ref 116, .int (iV M 116 10)]) (g := (37, [some (.ref 116)], [])) rfl ⟨by decide, by decide, (Nat.le_of_ble_eq_true rfl), (sm_K.g (k_116 hS) (sm_sh.rf _)).1, (sm_K.g (k_116 hS) (sm_sh.rf _)).2, (Nat.le_of_ble_eq_true rfl)⟩ (Nat.le_of_ble_eq_true rfl) (by decide) (sm_cV.s (by decide) hS h) (fun M4 h => ?_)
        obtain ⟨hS6, h⟩ := h
        exact sm_w.end t179 sr179 19 (o := .returned none) (M2 := M4) rfl trivial (by decide) (⟨rfl, h⟩)
    · have h := h.2 hc
      refine sm_w.run t179 sr179 15 3 (M2 := M) (f2 := (37, [some (.ref 116)], [.int (iV M 116 10), .ref 116])) rfl ⟨trivial, trivial, sm_K.g (k_116 hS) (sm_sh.rf _), trivial⟩ ?_
      refine sm_w.cV t179 sr179 18 (i := 177) (as := [.ref 116, .int (iV M 116 10)]) (g := (37, [some (.ref 116)], [])) rfl ⟨by decide, by decide, (Nat.le_of_ble_eq_true rfl), (sm_K.g (k_116 hS) (sm_sh.rf _)).1, (sm_K.g (k_116 hS) (sm_sh.rf _)).2, (Nat.le_of_ble_eq_true rfl)⟩ (Nat.le_of_ble_eq_true rfl) (by decide) (sm_cV.s (by decide) hS h) (fun M7 h => ?_)
      obtain ⟨hS9, h⟩ := h
      exact sm_w.end t179 sr179 19 (o := .returned none) (M2 := M7) rfl trivial (by decide) (⟨rfl, h⟩)
  · have h := h.2 hc
    exact sm_w.end t179 sr179 3 (o := .returned none) (M2 := M) rfl trivial (by decide) (⟨rfl, h⟩)
