/-! METHODS by their segments. -/
-- 135 LineSetter.askLine(I)V
theorem t135 : sP 135 = (2, sp_135, sh_135) := rfl
theorem sr135 : sm_srt sp_135 = true := by decide +kernel
theorem g135_0 {M : sm_M} {x1 : Int32} {K : sm_M → Prop} {X : Nat → sm_M → Prop} (hS : SH M)  (h : (((iV M 23 15) = 0 → ((x1 < (0 : Int32) → X M.1 (sm_new M 48 6)) ∧ (¬ x1 < (0 : Int32) → ((x1 ≤ x1 → (((iV M 23 15) = 0 → X M.1 (sm_new M 49 6)) ∧ (¬ (iV M 23 15) = 0 → ∃ r7, sm_rv M 23 13 = some r7 ∧ fS r7 ∧ ((x1 = 0 → ∃ r10, sm_rv M 23 13 = some r10 ∧ fS r10 ∧ (vp_in x1 600) ∧ sm_cV 112 [.ref r7, .ref 41, .int ((0 : Int32)), .int (iV M (r10 + 12) x1.toNatClampNeg)] M (fun M14 => SH M14 → K M14)) ∧ (¬ x1 = 0 → ∃ r17, sm_rv M 23 13 = some r17 ∧ fS r17 ∧ (vp_in (x1 - (1 : Int32)) 600) ∧ ∃ r21, sm_rv M 23 13 = some r21 ∧ fS r21 ∧ (vp_in x1 600) ∧ sm_cV 112 [.ref r7, .ref 41, .int (iV M (r17 + 12) (x1 - (1 : Int32)).toNatClampNeg), .int (iV M (r21 + 12) x1.toNatClampNeg)] M (fun M25 => SH M25 → K M25)))))) ∧ (¬ x1 ≤ x1 → X M.1 (sm_new M 48 6)))))) ∧ (¬ (iV M 23 15) = 0 → ∃ r28, sm_rv M 23 13 = some r28 ∧ fS r28 ∧ ((x1 < (0 : Int32) → X M.1 (sm_new M 48 6)) ∧ (¬ x1 < (0 : Int32) → ((x1 ≤ ((iV M r28 6) - (1 : Int32)) → (((iV M 23 15) = 0 → X M.1 (sm_new M 49 6)) ∧ (¬ (iV M 23 15) = 0 → ∃ r37, sm_rv M 23 13 = some r37 ∧ fS r37 ∧ ((x1 = 0 → ∃ r40, sm_rv M 23 13 = some r40 ∧ fS r40 ∧ (vp_in x1 600) ∧ sm_cV 112 [.ref r37, .ref 41, .int ((0 : Int32)), .int (iV M (r40 + 12) x1.toNatClampNeg)] M (fun M44 => SH M44 → K M44)) ∧ (¬ x1 = 0 → ∃ r47, sm_rv M 23 13 = some r47 ∧ fS r47 ∧ (vp_in (x1 - (1 : Int32)) 600) ∧ ∃ r51, sm_rv M 23 13 = some r51 ∧ fS r51 ∧ (vp_in x1 600) ∧ sm_cV 112 [.ref r37, .ref 41, .int (iV M (r47 + 12) (x1 - (1 : Int32)).toNatClampNeg), .int (iV M (r51 + 12) x1.toNatClampNeg)] M (fun M55 => SH M55 → K M55)))))) ∧ (¬ x1 ≤ ((iV M r28 6) - (1 : Int32)) → X M.1 (sm_new M 48 6)))))))) : sm_w 135 (sm_in sP 135 [.ref 23, .int (x1)]) M (yV X K) := by
  show sm_w 135 (0, [some (.ref 23), some (.int (x1))], []) M (yV X K)
  refine sm_w.run t135 sr135 0 6 (M2 := M) (f2 := (if (iV M 23 15) = 0 then 22 else 10, [some (.ref 23), some (.int (x1))], [.int ((0 : Int32)), .int (x1), .ref 23])) rfl ⟨trivial, trivial, trivial, trivial, sm_K.g (k_23 hS) (sm_sh.rf _), trivial, trivial⟩ ?_
  refine sm_w.ite (fun hc => ?_) (fun hc => ?_)
  · have h := h.1 hc
    refine sm_w.run t135 sr135 12 1 (M2 := M) (f2 := (23, [some (.ref 23), some (.int (x1))], [.int (x1), .int ((0 : Int32)), .int (x1), .ref 23])) rfl ⟨trivial, trivial⟩ ?_
    refine sm_w.zV t135 sr135 13 (i := 79) (as := [.ref 23, .int (x1), .int ((0 : Int32)), .int (x1)]) (g := (23, [some (.ref 23), some (.int (x1))], [])) rfl ⟨by decide, by decide, (Nat.le_of_ble_eq_true rfl), (sm_K.g (k_23 hS) (sm_sh.rf _)).1, (sm_K.g (k_23 hS) (sm_sh.rf _)).2, (Nat.le_of_ble_eq_true rfl)⟩ (Nat.le_of_ble_eq_true rfl) (by decide) rfl (fun r M2 h => Or.inl ⟨r, rfl, h⟩) (sm_xV.s2 (by decide) hS (g79_0 (K := fun M1 => (((iV M1 23 15) = 0 → X M1.1 (sm_new M1 49 6)) ∧ (¬ (iV M1 23 15) = 0 → ∃ r7, sm_rv M1 23 13 = some r7 ∧ fS r7 ∧ ((x1 = 0 → ∃ r10, sm_rv M1 23 13 = some r10 ∧ fS r10 ∧ (vp_in x1 600) ∧ sm_cV 112 [.ref r7, .ref 41, .int ((0 : Int32)), .int (iV M1 (r10 + 12) x1.toNatClampNeg)] M1 (fun M14 => SH M14 → K M14)) ∧ (¬ x1 = 0 → ∃ r17, sm_rv M1 23 13 = some r17 ∧ fS r17 ∧ (vp_in (x1 - (1 : Int32)) 600) ∧ ∃ r21, sm_rv M1 23 13 = some r21 ∧ fS r21 ∧ (vp_in x1 600) ∧ sm_cV 112 [.ref r7, .ref 41, .int (iV M1 (r17 + 12) (x1 - (1 : Int32)).toNatClampNeg), .int (iV M1 (r21 + 12) x1.toNatClampNeg)] M1 (fun M25 => SH M25 → K M25)))))) hS h)) (fun M1 h => ?_)
    obtain ⟨hS3, h⟩ := h
    refine sm_w.run t135 sr135 14 1 (M2 := M1) (f2 := (27, [some (.ref 23), some (.int (x1))], [.ref 23])) rfl ⟨trivial, trivial⟩ ?_
    refine sm_w.zV t135 sr135 15 (i := 130) (as := [.ref 23]) (g := (27, [some (.ref 23), some (.int (x1))], [])) rfl ⟨by decide, by decide, (Nat.le_of_ble_eq_true rfl), (sm_K.g (k_23 hS3) (sm_sh.rf _)).1, (sm_K.g (k_23 hS3) (sm_sh.rf _)).2, (Nat.le_of_ble_eq_true rfl)⟩ (Nat.le_of_ble_eq_true rfl) (by decide) rfl (fun r M2 h => Or.inl ⟨r, rfl, h⟩) (sm_xV.s2 (by decide) hS3 (g130_0 (K := fun M4 => ∃ r7, sm_rv M4 23 13 = some r7 ∧ fS r7 ∧ ((x1 = 0 → ∃ r10, sm_rv M4 23 13 = some r10 ∧ fS r10 ∧ (vp_in x1 600) ∧ sm_cV 112 [.ref r7, .ref 41, .int ((0 : Int32)), .int (iV M4 (r10 + 12) x1.toNatClampNeg)] M4 (fun M14 => SH M14 → K M14)) ∧ (¬ x1 = 0 → ∃ r17, sm_rv M4 23 13 = some r17 ∧ fS r17 ∧ (vp_in (x1 - (1 : Int32)) 600) ∧ ∃ r21, sm_rv M4 23 13 = some r21 ∧ fS r21 ∧ (vp_in x1 600) ∧ sm_cV 112 [.ref r7, .ref 41, .int (iV M4 (r17 + 12) (x1 - (1 : Int32)).toNatClampNeg), .int (iV M4 (r21 + 12) x1.toNatClampNeg)] M4 (fun M25 => SH M25 → K M25)))) hS3 h)) (fun M4 h => ?_)
    obtain ⟨hS6, h⟩ := h
    refine sm_w.run t135 sr135 16 2 (M2 := M4) (f2 := (34, [some (.ref 23), some (.int (x1))], [va_rf (sm_rv M4 23 13)])) rfl ⟨trivial, sm_K.g (k_23 hS6) (sm_sh.rf _), trivial⟩ ?_
    obtain ⟨r7, e8, h9, h⟩ := h
    refine sm_w.fld e8 ?_
    refine sm_w.run t135 sr135 18 2 (M2 := M4) (f2 := (38, [some (.ref 23), some (.int (x1))], [va_rf (sm_rv M4 23 8), .ref r7])) rfl ⟨trivial, sm_K.g (k_23 hS6) (sm_sh.rf _), trivial⟩ ?_
    refine sm_w.fld (r_23_8 hS6) ?_
    refine sm_w.run t135 sr135 20 2 (M2 := M4) (f2 := (if x1 = 0 then 42 else 46, [some (.ref 23), some (.int (x1))], [.ref 41, .ref r7])) rfl ⟨trivial, trivial, trivial⟩ ?_
    refine sm_w.ite (fun hc => ?_) (fun hc => ?_)
    · have h := h.1 hc
      refine sm_w.run t135 sr135 22 2 (M2 := M4) (f2 := (57, [some (.ref 23), some (.int (x1))], [.int ((0 : Int32)), .ref 41, .ref r7])) rfl ⟨trivial, trivial, trivial⟩ ?_
      refine sm_w.run t135 sr135 31 2 (M2 := M4) (f2 := (61, [some (.ref 23), some (.int (x1))], [va_rf (sm_rv M4 23 13), .int ((0 : Int32)), .ref 41, .ref r7])) rfl ⟨trivial, sm_K.g (k_23 hS6) (sm_sh.rf _), trivial⟩ ?_
      obtain ⟨r10, e11, h12, h⟩ := h
      refine sm_w.fld e11 ?_
      refine sm_w.run t135 sr135 33 1 (M2 := M4) (f2 := (64, [some (.ref 23), some (.int (x1))], [va_rf (sm_rv M4 r10 7), .int ((0 : Int32)), .ref 41, .ref r7])) rfl ⟨sm_K.g (kS_0 hS6 h12) (sm_sh.rf _), trivial⟩ ?_
      refine sm_w.fld (rS_7 hS6 h12) ?_
      obtain ⟨c13, h⟩ := h
      refine sm_w.run t135 sr135 34 2 (M2 := M4) (f2 := (66, [some (.ref 23), some (.int (x1))], [.int (iV M4 (r10 + 12) x1.toNatClampNeg), .int ((0 : Int32)), .ref 41, .ref r7])) rfl ⟨trivial, sm_K.a2 (kS_12 hS6 h12) (lS_12 hS6 h12) c13, trivial⟩ ?_
      refine sm_w.cV t135 sr135 36 (i := 112) (as := [.ref r7, .ref 41, .int ((0 : Int32)), .int (iV M4 (r10 + 12) x1.toNatClampNeg)]) (g := (66, [some (.ref 23), some (.int (x1))], [])) rfl ⟨by decide, by decide, (Nat.le_of_ble_eq_true rfl), (sm_K.g (kS_0 hS6 h9) (sm_sh.rf _)).1, (sm_K.g (kS_0 hS6 h9) (sm_sh.rf _)).2, (Nat.le_of_ble_eq_true rfl)⟩ (Nat.le_of_ble_eq_true rfl) (by decide) (sm_cV.s (by decide) hS6 h) (fun M14 h => ?_)
      obtain ⟨hS16, h⟩ := h
      exact sm_w.end t135 sr135 37 (o := .returned none) (M2 := M14) rfl trivial (by decide) (Or.inr ⟨rfl, h⟩)
    · have h := h.2 hc
      refine sm_w.run t135 sr135 24 2 (M2 := M4) (f2 := (50, [some (.ref 23), some (.int (x1))], [va_rf (sm_rv M4 23 13), .ref 41, .ref r7])) rfl ⟨trivial, sm_K.g (k_23 hS6) (sm_sh.rf _), trivial⟩ ?_
      obtain ⟨r17, e18, h19, h⟩ := h
      refine sm_w.fld e18 ?_
      refine sm_w.run t135 sr135 26 1 (M2 := M4) (f2 := (53, [some (.ref 23), some (.int (x1))], [va_rf (sm_rv M4 r17 7), .ref 41, .ref r7])) rfl ⟨sm_K.g (kS_0 hS6 h19) (sm_sh.rf _), trivial⟩ ?_
      refine sm_w.fld (rS_7 hS6 h19) ?_
      obtain ⟨c20, h⟩ := h
      refine sm_w.run t135 sr135 27 6 (M2 := M4) (f2 := (61, [some (.ref 23), some (.int (x1))], [va_rf (sm_rv M4 23 13), .int (iV M4 (r17 + 12) (x1 - (1 : Int32)).toNatClampNeg), .ref 41, .ref r7])) rfl ⟨trivial, trivial, trivial, sm_K.a2 (kS_12 hS6 h19) (lS_12 hS6 h19) c20, trivial, sm_K.g (k_23 hS6) (sm_sh.rf _), trivial⟩ ?_
      obtain ⟨r21, e22, h23, h⟩ := h
      refine sm_w.fld e22 ?_
      refine sm_w.run t135 sr135 33 1 (M2 := M4) (f2 := (64, [some (.ref 23), some (.int (x1))], [va_rf (sm_rv M4 r21 7), .int (iV M4 (r17 + 12) (x1 - (1 : Int32)).toNatClampNeg), .ref 41, .ref r7])) rfl ⟨sm_K.g (kS_0 hS6 h23) (sm_sh.rf _), trivial⟩ ?_
      refine sm_w.fld (rS_7 hS6 h23) ?_
      obtain ⟨c24, h⟩ := h
      refine sm_w.run t135 sr135 34 2 (M2 := M4) (f2 := (66, [some (.ref 23), some (.int (x1))], [.int (iV M4 (r21 + 12) x1.toNatClampNeg), .int (iV M4 (r17 + 12) (x1 - (1 : Int32)).toNatClampNeg), .ref 41, .ref r7])) rfl ⟨trivial, sm_K.a2 (kS_12 hS6 h23) (lS_12 hS6 h23) c24, trivial⟩ ?_
      refine sm_w.cV t135 sr135 36 (i := 112) (as := [.ref r7, .ref 41, .int (iV M4 (r17 + 12) (x1 - (1 : Int32)).toNatClampNeg), .int (iV M4 (r21 + 12) x1.toNatClampNeg)]) (g := (66, [some (.ref 23), some (.int (x1))], [])) rfl ⟨by decide, by decide, (Nat.le_of_ble_eq_true rfl), (sm_K.g (kS_0 hS6 h9) (sm_sh.rf _)).1, (sm_K.g (kS_0 hS6 h9) (sm_sh.rf _)).2, (Nat.le_of_ble_eq_true rfl)⟩ (Nat.le_of_ble_eq_true rfl) (by decide) (sm_cV.s (by decide) hS6 h) (fun M25 h => ?_)
      obtain ⟨hS27, h⟩ := h
      exact sm_w.end t135 sr135 37 (o := .returned none) (M2 := M25) rfl trivial (by decide) (Or.inr ⟨rfl, h⟩)
  · have h := h.2 hc
    refine sm_w.run t135 sr135 6 2 (M2 := M) (f2 := (14, [some (.ref 23), some (.int (x1))], [va_rf (sm_rv M 23 13), .int ((0 : Int32)), .int (x1), .ref 23])) rfl ⟨trivial, sm_K.g (k_23 hS) (sm_sh.rf _), trivial⟩ ?_
    obtain ⟨r28, e29, h30, h⟩ := h
    refine sm_w.fld e29 ?_
    refine sm_w.run t135 sr135 8 4 (M2 := M) (f2 := (23, [some (.ref 23), some (.int (x1))], [.int ((iV M r28 6) - (1 : Int32)), .int ((0 : Int32)), .int (x1), .ref 23])) rfl ⟨sm_K.g (kS_0 hS h30) (sm_sh.rf _), trivial, trivial, trivial, trivial⟩ ?_
    refine sm_w.zV t135 sr135 13 (i := 79) (as := [.ref 23, .int (x1), .int ((0 : Int32)), .int ((iV M r28 6) - (1 : Int32))]) (g := (23, [some (.ref 23), some (.int (x1))], [])) rfl ⟨by decide, by decide, (Nat.le_of_ble_eq_true rfl), (sm_K.g (k_23 hS) (sm_sh.rf _)).1, (sm_K.g (k_23 hS) (sm_sh.rf _)).2, (Nat.le_of_ble_eq_true rfl)⟩ (Nat.le_of_ble_eq_true rfl) (by decide) rfl (fun r M2 h => Or.inl ⟨r, rfl, h⟩) (sm_xV.s2 (by decide) hS (g79_0 (K := fun M31 => (((iV M31 23 15) = 0 → X M31.1 (sm_new M31 49 6)) ∧ (¬ (iV M31 23 15) = 0 → ∃ r37, sm_rv M31 23 13 = some r37 ∧ fS r37 ∧ ((x1 = 0 → ∃ r40, sm_rv M31 23 13 = some r40 ∧ fS r40 ∧ (vp_in x1 600) ∧ sm_cV 112 [.ref r37, .ref 41, .int ((0 : Int32)), .int (iV M31 (r40 + 12) x1.toNatClampNeg)] M31 (fun M44 => SH M44 → K M44)) ∧ (¬ x1 = 0 → ∃ r47, sm_rv M31 23 13 = some r47 ∧ fS r47 ∧ (vp_in (x1 - (1 : Int32)) 600) ∧ ∃ r51, sm_rv M31 23 13 = some r51 ∧ fS r51 ∧ (vp_in x1 600) ∧ sm_cV 112 [.ref r37, .ref 41, .int (iV M31 (r47 + 12) (x1 - (1 : Int32)).toNatClampNeg), .int (iV M31 (r51 + 12) x1.toNatClampNeg)] M31 (fun M55 => SH M55 → K M55)))))) hS h)) (fun M31 h => ?_)
    obtain ⟨hS33, h⟩ := h
    refine sm_w.run t135 sr135 14 1 (M2 := M31) (f2 := (27, [some (.ref 23), some (.int (x1))], [.ref 23])) rfl ⟨trivial, trivial⟩ ?_
    refine sm_w.zV t135 sr135 15 (i := 130) (as := [.ref 23]) (g := (27, [some (.ref 23), some (.int (x1))], [])) rfl ⟨by decide, by decide, (Nat.le_of_ble_eq_true rfl), (sm_K.g (k_23 hS33) (sm_sh.rf _)).1, (sm_K.g (k_23 hS33) (sm_sh.rf _)).2, (Nat.le_of_ble_eq_true rfl)⟩ (Nat.le_of_ble_eq_true rfl) (by decide) rfl (fun r M2 h => Or.inl ⟨r, rfl, h⟩) (sm_xV.s2 (by decide) hS33 (g130_0 (K := fun M34 => ∃ r37, sm_rv M34 23 13 = some r37 ∧ fS r37 ∧ ((x1 = 0 → ∃ r40, sm_rv M34 23 13 = some r40 ∧ fS r40 ∧ (vp_in x1 600) ∧ sm_cV 112 [.ref r37, .ref 41, .int ((0 : Int32)), .int (iV M34 (r40 + 12) x1.toNatClampNeg)] M34 (fun M44 => SH M44 → K M44)) ∧ (¬ x1 = 0 → ∃ r47, sm_rv M34 23 13 = some r47 ∧ fS r47 ∧ (vp_in (x1 - (1 : Int32)) 600) ∧ ∃ r51, sm_rv M34 23 13 = some r51 ∧ fS r51 ∧ (vp_in x1 600) ∧ sm_cV 112 [.ref r37, .ref 41, .int (iV M34 (r47 + 12) (x1 - (1 : Int32)).toNatClampNeg), .int (iV M34 (r51 + 12) x1.toNatClampNeg)] M34 (fun M55 => SH M55 → K M55)))) hS33 h)) (fun M34 h => ?_)
    obtain ⟨hS36, h⟩ := h
    refine sm_w.run t135 sr135 16 2 (M2 := M34) (f2 := (34, [some (.ref 23), some (.int (x1))], [va_rf (sm_rv M34 23 13)])) rfl ⟨trivial, sm_K.g (k_23 hS36) (sm_sh.rf _), trivial⟩ ?_
    obtain ⟨r37, e38, h39, h⟩ := h
    refine sm_w.fld e38 ?_
    refine sm_w.run t135 sr135 18 2 (M2 := M34) (f2 := (38, [some (.ref 23), some (.int (x1))], [va_rf (sm_rv M34 23 8), .ref r37])) rfl ⟨trivial, sm_K.g (k_23 hS36) (sm_sh.rf _), trivial⟩ ?_
    refine sm_w.fld (r_23_8 hS36) ?_
    refine sm_w.run t135 sr135 20 2 (M2 := M34) (f2 := (if x1 = 0 then 42 else 46, [some (.ref 23), some (.int (x1))], [.ref 41, .ref r37])) rfl ⟨trivial, trivial, trivial⟩ ?_
    refine sm_w.ite (fun hc => ?_) (fun hc => ?_)
    · have h := h.1 hc
      refine sm_w.run t135 sr135 22 2 (M2 := M34) (f2 := (57, [some (.ref 23), some (.int (x1))], [.int ((0 : Int32)), .ref 41, .ref r37])) rfl ⟨trivial, trivial, trivial⟩ ?_
      refine sm_w.run t135 sr135 31 2 (M2 := M34) (f2 := (61, [some (.ref 23), some (.int (x1))], [va_rf (sm_rv M34 23 13), .int ((0 : Int32)), .ref 41, .ref r37])) rfl ⟨trivial, sm_K.g (k_23 hS36) (sm_sh.rf _), trivial⟩ ?_
      obtain ⟨r40, e41, h42, h⟩ := h
      refine sm_w.fld e41 ?_
      refine sm_w.run t135 sr135 33 1 (M2 := M34) (f2 := (64, [some (.ref 23), some (.int (x1))], [va_rf (sm_rv M34 r40 7), .int ((0 : Int32)), .ref 41, .ref r37])) rfl ⟨sm_K.g (kS_0 hS36 h42) (sm_sh.rf _), trivial⟩ ?_
      refine sm_w.fld (rS_7 hS36 h42) ?_
      obtain ⟨c43, h⟩ := h
      refine sm_w.run t135 sr135 34 2 (M2 := M34) (f2 := (66, [some (.ref 23), some (.int (x1))], [.int (iV M34 (r40 + 12) x1.toNatClampNeg), .int ((0 : Int32)), .ref 41, .ref r37])) rfl ⟨trivial, sm_K.a2 (kS_12 hS36 h42) (lS_12 hS36 h42) c43, trivial⟩ ?_
      refine sm_w.cV t135 sr135 36 (i := 112) (as := [.ref r37, .ref 41, .int ((0 : Int32)), .int (iV M34 (r40 + 12) x1.toNatClampNeg)]) (g := (66, [some (.ref 23), some (.int (x1))], [])) rfl ⟨by decide, by decide, (Nat.le_of_ble_eq_true rfl), (sm_K.g (kS_0 hS36 h39) (sm_sh.rf _)).1, (sm_K.g (kS_0 hS36 h39) (sm_sh.rf _)).2, (Nat.le_of_ble_eq_true rfl)⟩ (Nat.le_of_ble_eq_true rfl) (by decide) (sm_cV.s (by decide) hS36 h) (fun M44 h => ?_)
      obtain ⟨hS46, h⟩ := h
      exact sm_w.end t135 sr135 37 (o := .returned none) (M2 := M44) rfl trivial (by decide) (Or.inr ⟨rfl, h⟩)
    · have h := h.2 hc
      refine sm_w.run t135 sr135 24 2 (M2 := M34) (f2 := (50, [some (.ref 23), some (.int (x1))], [va_rf (sm_rv M34 23 13), .ref 41, .ref r37])) rfl ⟨trivial, sm_K.g (k_23 hS36) (sm_sh.rf _), trivial⟩ ?_
      obtain ⟨r47, e48, h49, h⟩ := h
      refine sm_w.fld e48 ?_
      refine sm_w.run t135 sr135 26 1 (M2 := M34) (f2 := (53, [some (.ref 23), some (.int (x1))], [va_rf (sm_rv M34 r47 7), .ref 41, .ref r37])) rfl ⟨sm_K.g (kS_0 hS36 h49) (sm_sh.rf _), trivial⟩ ?_
      refine sm_w.fld (rS_7 hS36 h49) ?_
      obtain ⟨c50, h⟩ := h
      refine sm_w.run t135 sr135 27 6 (M2 := M34) (f2 := (61, [some (.ref 23), some (.int (x1))], [va_rf (sm_rv M34 23 13), .int (iV M34 (r47 + 12) (x1 - (1 : Int32)).toNatClampNeg), .ref 41, .ref r37])) rfl ⟨trivial, trivial, trivial, sm_K.a2 (kS_12 hS36 h49) (lS_12 hS36 h49) c50, trivial, sm_K.g (k_23 hS36) (sm_sh.rf _), trivial⟩ ?_
      obtain ⟨r51, e52, h53, h⟩ := h
      refine sm_w.fld e52 ?_
      refine sm_w.run t135 sr135 33 1 (M2 := M34) (f2 := (64, [some (.ref 23), some (.int (x1))], [va_rf (sm_rv M34 r51 7), .int (iV M34 (r47 + 12) (x1 - (1 : Int32)).toNatClampNeg), .ref 41, .ref r37])) rfl ⟨sm_K.g (kS_0 hS36 h53) (sm_sh.rf _), trivial⟩ ?_
      refine sm_w.fld (rS_7 hS36 h53) ?_
      obtain ⟨c54, h⟩ := h
      refine sm_w.run t135 sr135 34 2 (M2 := M34) (f2 := (66, [some (.ref 23), some (.int (x1))], [.int (iV M34 (r51 + 12) x1.toNatClampNeg), .int (iV M34 (r47 + 12) (x1 - (1 : Int32)).toNatClampNeg), .ref 41, .ref r37])) rfl ⟨trivial, sm_K.a2 (kS_12 hS36 h53) (lS_12 hS36 h53) c54, trivial⟩ ?_
      refine sm_w.cV t135 sr135 36 (i := 112) (as := [.ref r37, .ref 41, .int (iV M34 (r47 + 12) (x1 - (1 : Int32)).toNatClampNeg), .int (iV M34 (r51 + 12) x1.toNatClampNeg)]) (g := (66, [some (.ref 23), some (.int (x1))], [])) rfl ⟨by decide, by decide, (Nat.le_of_ble_eq_true rfl), (sm_K.g (kS_0 hS36 h39) (sm_sh.rf _)).1, (sm_K.g (kS_0 hS36 h39) (sm_sh.rf _)).2, (Nat.le_of_ble_eq_true rfl)⟩ (Nat.le_of_ble_eq_true rfl) (by decide) (sm_cV.s (by decide) hS36 h) (fun M55 h => ?_)
      obtain ⟨hS57, h⟩ := h
      exact sm_w.end t135 sr135 37 (o := .returned none) (M2 := M55) rfl trivial (by decide) (Or.inr ⟨rfl, h⟩)
-- 136 LineSetter$Setting.beginning(LLineSetter$Line;)J
theorem t136 : sP 136 = (6, sp_136, sh_136) := rfl
theorem sr136 : sm_srt sp_136 = true := by decide +kernel
theorem g136_0 {M : sm_M} {x0 : Nat} {x1 : Nat} {K : Int64 → sm_M → Prop} (hS : SH M) (hx0 : fS x0) (hx1 : fL x1) (h : (((iV M x1 0) = 0 → (((iV M x0 3) = (2 : Int32) → K (((iV M x0 2).toInt64) + (if (0 : Int64) < ((jV M x1 5) - (jV M x1 2)) then ((jV M x1 5) - (jV M x1 2)) else (0 : Int64))) M) ∧ (¬ (iV M x0 3) = (2 : Int32) → (((iV M x0 3) = (3 : Int32) → K (((iV M x0 2).toInt64) + ((if (0 : Int64) < ((jV M x1 5) - (jV M x1 2)) then ((jV M x1 5) - (jV M x1 2)) else (0 : Int64)) / (2 : Int64))) M) ∧ (¬ (iV M x0 3) = (3 : Int32) → K ((iV M x0 2).toInt64) M))))) ∧ (¬ (iV M x1 0) = 0 → (((iV M x0 3) = (2 : Int32) → K ((0 : Int64) + (if (0 : Int64) < ((jV M x1 5) - (jV M x1 2)) then ((jV M x1 5) - (jV M x1 2)) else (0 : Int64))) M) ∧ (¬ (iV M x0 3) = (2 : Int32) → (((iV M x0 3) = (3 : Int32) → K ((0 : Int64) + ((if (0 : Int64) < ((jV M x1 5) - (jV M x1 2)) then ((jV M x1 5) - (jV M x1 2)) else (0 : Int64)) / (2 : Int64))) M) ∧ (¬ (iV M x0 3) = (3 : Int32) → K (0 : Int64) M))))))) : sm_w 136 (sm_in sP 136 [.ref x0, .ref x1]) M (rJ K) := by
  show sm_w 136 (0, [some (.ref x0), some (.ref x1), none, none, none, none], []) M (rJ K)
  refine sm_w.run t136 sr136 0 3 (M2 := M) (f2 := (if (iV M x1 0) = 0 then 7 else 15, [some (.ref x0), some (.ref x1), none, none, none, none], [])) rfl ⟨trivial, sm_K.g (kL_0 hS hx1) (sm_sh.rf _), trivial, trivial⟩ ?_
  refine sm_w.ite (fun hc => ?_) (fun hc => ?_)
  · have h := h.1 hc
    refine sm_w.run t136 sr136 3 4 (M2 := M) (f2 := (16, [some (.ref x0), some (.ref x1), none, none, none, none], [.long ((iV M x0 2).toInt64)])) rfl ⟨trivial, sm_K.g (kS_0 hS hx0) (sm_sh.rf _), trivial, trivial, trivial⟩ ?_
    refine sm_w.run t136 sr136 8 13 (M2 := M) (f2 := (if (iV M x0 3) = (2 : Int32) then 40 else 45, [some (.ref x0), some (.ref x1), some (.long ((iV M x0 2).toInt64)), none, some (.long (if (0 : Int64) < ((jV M x1 5) - (jV M x1 2)) then ((jV M x1 5) - (jV M x1 2)) else (0 : Int64))), none], [])) rfl ⟨(Nat.le_of_ble_eq_true rfl), trivial, sm_K.g (kL_0 hS hx1) (sm_sh.rf _), trivial, sm_K.g (kL_0 hS hx1) (sm_sh.rf _), trivial, trivial, (Nat.le_of_ble_eq_true rfl), (Nat.le_of_ble_eq_true rfl), trivial, sm_K.g (kS_0 hS hx0) (sm_sh.rf _), trivial, trivial, trivial⟩ ?_
    refine sm_w.ite (fun hc => ?_) (fun hc => ?_)
    · have h := h.1 hc
      refine sm_w.run t136 sr136 21 3 (M2 := M) (f2 := (44, [some (.ref x0), some (.ref x1), some (.long ((iV M x0 2).toInt64)), none, some (.long (if (0 : Int64) < ((jV M x1 5) - (jV M x1 2)) then ((jV M x1 5) - (jV M x1 2)) else (0 : Int64))), none], [.long (((iV M x0 2).toInt64) + (if (0 : Int64) < ((jV M x1 5) - (jV M x1 2)) then ((jV M x1 5) - (jV M x1 2)) else (0 : Int64)))])) rfl ⟨trivial, trivial, trivial, trivial⟩ ?_
      exact sm_w.end t136 sr136 24 (o := .returned (some (.long (((iV M x0 2).toInt64) + (if (0 : Int64) < ((jV M x1 5) - (jV M x1 2)) then ((jV M x1 5) - (jV M x1 2)) else (0 : Int64)))))) (M2 := M) rfl trivial (by decide) (⟨_, rfl, h⟩)
    · have h := h.2 hc
      refine sm_w.run t136 sr136 25 4 (M2 := M) (f2 := (if (iV M x0 3) = (3 : Int32) then 53 else 64, [some (.ref x0), some (.ref x1), some (.long ((iV M x0 2).toInt64)), none, some (.long (if (0 : Int64) < ((jV M x1 5) - (jV M x1 2)) then ((jV M x1 5) - (jV M x1 2)) else (0 : Int64))), none], [])) rfl ⟨trivial, sm_K.g (kS_0 hS hx0) (sm_sh.rf _), trivial, trivial, trivial⟩ ?_
      refine sm_w.ite (fun hc => ?_) (fun hc => ?_)
      · have h := h.1 hc
        refine sm_w.run t136 sr136 29 6 (M2 := M) (f2 := (65, [some (.ref x0), some (.ref x1), some (.long ((iV M x0 2).toInt64)), none, some (.long (if (0 : Int64) < ((jV M x1 5) - (jV M x1 2)) then ((jV M x1 5) - (jV M x1 2)) else (0 : Int64))), none], [.long (((iV M x0 2).toInt64) + ((if (0 : Int64) < ((jV M x1 5) - (jV M x1 2)) then ((jV M x1 5) - (jV M x1 2)) else (0 : Int64)) / (2 : Int64)))])) rfl ⟨trivial, trivial, trivial, by decide, trivial, trivial, trivial⟩ ?_
        exact sm_w.end t136 sr136 36 (o := .returned (some (.long (((iV M x0 2).toInt64) + ((if (0 : Int64) < ((jV M x1 5) - (jV M x1 2)) then ((jV M x1 5) - (jV M x1 2)) else (0 : Int64)) / (2 : Int64)))))) (M2 := M) rfl trivial (by decide) (⟨_, rfl, h⟩)
      · have h := h.2 hc
        refine sm_w.run t136 sr136 35 1 (M2 := M) (f2 := (65, [some (.ref x0), some (.ref x1), some (.long ((iV M x0 2).toInt64)), none, some (.long (if (0 : Int64) < ((jV M x1 5) - (jV M x1 2)) then ((jV M x1 5) - (jV M x1 2)) else (0 : Int64))), none], [.long ((iV M x0 2).toInt64)])) rfl ⟨trivial, trivial⟩ ?_
        exact sm_w.end t136 sr136 36 (o := .returned (some (.long ((iV M x0 2).toInt64)))) (M2 := M) rfl trivial (by decide) (⟨_, rfl, h⟩)
  · have h := h.2 hc
    refine sm_w.run t136 sr136 7 14 (M2 := M) (f2 := (if (iV M x0 3) = (2 : Int32) then 40 else 45, [some (.ref x0), some (.ref x1), some (.long ((0 : Int64))), none, some (.long (if (0 : Int64) < ((jV M x1 5) - (jV M x1 2)) then ((jV M x1 5) - (jV M x1 2)) else (0 : Int64))), none], [])) rfl ⟨trivial, (Nat.le_of_ble_eq_true rfl), trivial, sm_K.g (kL_0 hS hx1) (sm_sh.rf _), trivial, sm_K.g (kL_0 hS hx1) (sm_sh.rf _), trivial, trivial, (Nat.le_of_ble_eq_true rfl), (Nat.le_of_ble_eq_true rfl), trivial, sm_K.g (kS_0 hS hx0) (sm_sh.rf _), trivial, trivial, trivial⟩ ?_
    refine sm_w.ite (fun hc => ?_) (fun hc => ?_)
    · have h := h.1 hc
      refine sm_w.run t136 sr136 21 3 (M2 := M) (f2 := (44, [some (.ref x0), some (.ref x1), some (.long ((0 : Int64))), none, some (.long (if (0 : Int64) < ((jV M x1 5) - (jV M x1 2)) then ((jV M x1 5) - (jV M x1 2)) else (0 : Int64))), none], [.long ((0 : Int64) + (if (0 : Int64) < ((jV M x1 5) - (jV M x1 2)) then ((jV M x1 5) - (jV M x1 2)) else (0 : Int64)))])) rfl ⟨trivial, trivial, trivial, trivial⟩ ?_
      exact sm_w.end t136 sr136 24 (o := .returned (some (.long ((0 : Int64) + (if (0 : Int64) < ((jV M x1 5) - (jV M x1 2)) then ((jV M x1 5) - (jV M x1 2)) else (0 : Int64)))))) (M2 := M) rfl trivial (by decide) (⟨_, rfl, h⟩)
    · have h := h.2 hc
      refine sm_w.run t136 sr136 25 4 (M2 := M) (f2 := (if (iV M x0 3) = (3 : Int32) then 53 else 64, [some (.ref x0), some (.ref x1), some (.long ((0 : Int64))), none, some (.long (if (0 : Int64) < ((jV M x1 5) - (jV M x1 2)) then ((jV M x1 5) - (jV M x1 2)) else (0 : Int64))), none], [])) rfl ⟨trivial, sm_K.g (kS_0 hS hx0) (sm_sh.rf _), trivial, trivial, trivial⟩ ?_
      refine sm_w.ite (fun hc => ?_) (fun hc => ?_)
      · have h := h.1 hc
        refine sm_w.run t136 sr136 29 6 (M2 := M) (f2 := (65, [some (.ref x0), some (.ref x1), some (.long ((0 : Int64))), none, some (.long (if (0 : Int64) < ((jV M x1 5) - (jV M x1 2)) then ((jV M x1 5) - (jV M x1 2)) else (0 : Int64))), none], [.long ((0 : Int64) + ((if (0 : Int64) < ((jV M x1 5) - (jV M x1 2)) then ((jV M x1 5) - (jV M x1 2)) else (0 : Int64)) / (2 : Int64)))])) rfl ⟨trivial, trivial, trivial, by decide, trivial, trivial, trivial⟩ ?_
        exact sm_w.end t136 sr136 36 (o := .returned (some (.long ((0 : Int64) + ((if (0 : Int64) < ((jV M x1 5) - (jV M x1 2)) then ((jV M x1 5) - (jV M x1 2)) else (0 : Int64)) / (2 : Int64)))))) (M2 := M) rfl trivial (by decide) (⟨_, rfl, h⟩)
      · have h := h.2 hc
        refine sm_w.run t136 sr136 35 1 (M2 := M) (f2 := (65, [some (.ref x0), some (.ref x1), some (.long ((0 : Int64))), none, some (.long (if (0 : Int64) < ((jV M x1 5) - (jV M x1 2)) then ((jV M x1 5) - (jV M x1 2)) else (0 : Int64))), none], [.long ((0 : Int64))])) rfl ⟨trivial, trivial⟩ ?_
        exact sm_w.end t136 sr136 36 (o := .returned (some (.long ((0 : Int64))))) (M2 := M) rfl trivial (by decide) (⟨_, rfl, h⟩)
def p136_0 (M : sm_M) (x0 : Nat) (x1 : Nat) : Int64 := if (iV M x1 0) = 0 then (if (iV M x0 3) = (2 : Int32) then (((iV M x0 2).toInt64) + (if (0 : Int64) < ((jV M x1 5) - (jV M x1 2)) then ((jV M x1 5) - (jV M x1 2)) else (0 : Int64))) else (if (iV M x0 3) = (3 : Int32) then (((iV M x0 2).toInt64) + ((if (0 : Int64) < ((jV M x1 5) - (jV M x1 2)) then ((jV M x1 5) - (jV M x1 2)) else (0 : Int64)) / (2 : Int64))) else ((iV M x0 2).toInt64))) else (if (iV M x0 3) = (2 : Int32) then ((0 : Int64) + (if (0 : Int64) < ((jV M x1 5) - (jV M x1 2)) then ((jV M x1 5) - (jV M x1 2)) else (0 : Int64))) else (if (iV M x0 3) = (3 : Int32) then ((0 : Int64) + ((if (0 : Int64) < ((jV M x1 5) - (jV M x1 2)) then ((jV M x1 5) - (jV M x1 2)) else (0 : Int64)) / (2 : Int64))) else (0 : Int64)))
theorem p136_c {M : sm_M} {x0 : Nat} {x1 : Nat} (hS : SH M) (hx0 : fS x0) (hx1 : fL x1) : sm_cJ 136 [.ref x0, .ref x1] M (fun v M2 => v = p136_0 M x0 x1 ∧ M2 = M) := by
  refine g136_0 (K := (fun v M2 => v = p136_0 M x0 x1 ∧ M2 = M)) hS hx0 hx1 ?_
  refine ⟨fun e1 => ?_, fun e1 => ?_⟩
  · refine ⟨fun e2 => ?_, fun e2 => ?_⟩
    · refine ⟨?_, rfl⟩
      unfold p136_0
      rw [if_pos e1, if_pos e2]
    · refine ⟨fun e3 => ?_, fun e3 => ?_⟩
      · refine ⟨?_, rfl⟩
        unfold p136_0
        rw [if_pos e1, if_neg e2, if_pos e3]
      · refine ⟨?_, rfl⟩
        unfold p136_0
        rw [if_pos e1, if_neg e2, if_neg e3]
  · refine ⟨fun e4 => ?_, fun e4 => ?_⟩
    · refine ⟨?_, rfl⟩
      unfold p136_0
      rw [if_neg e1, if_pos e4]
    · refine ⟨fun e5 => ?_, fun e5 => ?_⟩
      · refine ⟨?_, rfl⟩
        unfold p136_0
        rw [if_neg e1, if_neg e4, if_pos e5]
      · refine ⟨?_, rfl⟩
        unfold p136_0
        rw [if_neg e1, if_neg e4, if_neg e5]
-- 137 LineSetter$Breaks.wordsBetween(II)I
theorem t137 : sP 137 = (3, sp_137, sh_137) := rfl
theorem sr137 : sm_srt sp_137 = true := by decide +kernel
theorem g137_0 {M : sm_M} {x0 : Nat} {x1 : Int32} {x2 : Int32} {K : Int32 → sm_M → Prop} (hS : SH M) (hx0 : fK x0) (h : (vp_in (x2 - (1 : Int32)) 601) ∧ (vp_in x1 601) ∧ K (((iV M (x0 + 6) (x2 - (1 : Int32)).toNatClampNeg) - (iV M (x0 + 6) x1.toNatClampNeg)) + (1 : Int32)) M) : sm_w 137 (sm_in sP 137 [.ref x0, .int (x1), .int (x2)]) M (rI K) := by
  show sm_w 137 (0, [some (.ref x0), some (.int (x1)), some (.int (x2))], []) M (rI K)
  refine sm_w.run t137 sr137 0 2 (M2 := M) (f2 := (4, [some (.ref x0), some (.int (x1)), some (.int (x2))], [va_rf (sm_rv M x0 7)])) rfl ⟨trivial, sm_K.g (kK_0 hS hx0) (sm_sh.rf _), trivial⟩ ?_
  refine sm_w.fld (rK_7 hS hx0) ?_
  obtain ⟨c1, h⟩ := h
  refine sm_w.run t137 sr137 2 6 (M2 := M) (f2 := (12, [some (.ref x0), some (.int (x1)), some (.int (x2))], [va_rf (sm_rv M x0 7), .int (iV M (x0 + 6) (x2 - (1 : Int32)).toNatClampNeg)])) rfl ⟨trivial, trivial, trivial, sm_K.a2 (kK_6 hS hx0) (lK_6 hS hx0) c1, trivial, sm_K.g (kK_0 hS hx0) (sm_sh.rf _), trivial⟩ ?_
  refine sm_w.fld (rK_7 hS hx0) ?_
  obtain ⟨c2, h⟩ := h
  refine sm_w.run t137 sr137 8 5 (M2 := M) (f2 := (17, [some (.ref x0), some (.int (x1)), some (.int (x2))], [.int (((iV M (x0 + 6) (x2 - (1 : Int32)).toNatClampNeg) - (iV M (x0 + 6) x1.toNatClampNeg)) + (1 : Int32))])) rfl ⟨trivial, sm_K.a2 (kK_6 hS hx0) (lK_6 hS hx0) c2, trivial, trivial, trivial, trivial⟩ ?_
  exact sm_w.end t137 sr137 13 (o := .returned (some (.int (((iV M (x0 + 6) (x2 - (1 : Int32)).toNatClampNeg) - (iV M (x0 + 6) x1.toNatClampNeg)) + (1 : Int32))))) (M2 := M) rfl rfl (by decide) (⟨_, rfl, h⟩)
def p137_0 (M : sm_M) (x0 : Nat) (x1 : Int32) (x2 : Int32) : Int32 := ((iV M (x0 + 6) (x2 - (1 : Int32)).toNatClampNeg) - (iV M (x0 + 6) x1.toNatClampNeg)) + (1 : Int32)
def q137_0 (M : sm_M) (x0 : Nat) (x1 : Int32) (x2 : Int32) : Prop := (vp_in (x2 - (1 : Int32)) 601) ∧ (vp_in x1 601)
theorem p137_c {M : sm_M} {x0 : Nat} {x1 : Int32} {x2 : Int32} (hS : SH M) (hx0 : fK x0) (hq : q137_0 M x0 x1 x2) : sm_cI 137 [.ref x0, .int (x1), .int (x2)] M (fun v M2 => v = p137_0 M x0 x1 x2 ∧ M2 = M) := by
  refine g137_0 (K := (fun v M2 => v = p137_0 M x0 x1 x2 ∧ M2 = M)) hS hx0 ?_
  unfold q137_0 at hq
  obtain ⟨d1, hq⟩ := hq
  refine ⟨d1, ?_⟩
  have d2 := hq
  refine ⟨d2, ?_⟩
  exact ⟨rfl, rfl⟩
-- 134 LineSetter.line(II)J
theorem t134 : sP 134 = (3, sp_134, sh_134) := rfl
theorem sr134 : sm_srt sp_134 = true := by decide +kernel
theorem g134_0 {M : sm_M} {x1 : Int32} {x2 : Int32} {K : Int64 → sm_M → Prop} {X : Nat → sm_M → Prop} (hS : SH M)  (h : ((x2 < (0 : Int32) → X M.1 (sm_new M 48 6)) ∧ (¬ x2 < (0 : Int32) → ((x2 ≤ (7 : Int32) → sm_xV 135 [.ref 23, .int (x1)] M X (fun M4 => SH M4 → ((x2 = 0 → K ((iV M4 41 0).toInt64) M4) ∧ (x2 = 1 → K ((iV M4 41 1).toInt64) M4) ∧ (x2 = 2 → K ((iV M4 41 8).toInt64) M4) ∧ (x2 = 3 → K (jV M4 41 2) M4) ∧ (x2 = 4 → ∃ r7, sm_rv M4 23 13 = some r7 ∧ fS r7 ∧ K (p136_0 M4 r7 41) M4) ∧ (x2 = 5 → ∃ r10, sm_rv M4 23 13 = some r10 ∧ fS r10 ∧ (vp_in x1 600) ∧ K (jV M4 (r10 + 13) x1.toNatClampNeg) M4) ∧ (x2 = 6 → ∃ r14, sm_rv M4 23 13 = some r14 ∧ fS r14 ∧ (q137_0 M4 (r14 + 1) (iV M4 41 0) (iV M4 41 1)) ∧ K ((p137_0 M4 (r14 + 1) (iV M4 41 0) (iV M4 41 1)).toInt64) M4) ∧ ((x2 < 0 ∨ 6 < x2) → K ((iV M4 41 9).toInt64) M4)))) ∧ (¬ x2 ≤ (7 : Int32) → X M.1 (sm_new M 48 6)))))) : sm_w 134 (sm_in sP 134 [.ref 23, .int (x1), .int (x2)]) M (yJ X K) := by
  show sm_w 134 (0, [some (.ref 23), some (.int (x1)), some (.int (x2))], []) M (yJ X K)
  refine sm_w.run t134 sr134 0 4 (M2 := M) (f2 := (5, [some (.ref 23), some (.int (x1)), some (.int (x2))], [.int ((7 : Int32)), .int ((0 : Int32)), .int (x2), .ref 23])) rfl ⟨trivial, trivial, trivial, trivial, trivial⟩ ?_
  refine sm_w.zV t134 sr134 4 (i := 79) (as := [.ref 23, .int (x2), .int ((0 : Int32)), .int ((7 : Int32))]) (g := (5, [some (.ref 23), some (.int (x1)), some (.int (x2))], [])) rfl ⟨by decide, by decide, (Nat.le_of_ble_eq_true rfl), (sm_K.g (k_23 hS) (sm_sh.rf _)).1, (sm_K.g (k_23 hS) (sm_sh.rf _)).2, (Nat.le_of_ble_eq_true rfl)⟩ (Nat.le_of_ble_eq_true rfl) (by decide) rfl (fun r M2 h => Or.inl ⟨r, rfl, h⟩) (sm_xV.s2 (by decide) hS (g79_0 (K := fun M1 => sm_xV 135 [.ref 23, .int (x1)] M1 X (fun M4 => SH M4 → ((x2 = 0 → K ((iV M4 41 0).toInt64) M4) ∧ (x2 = 1 → K ((iV M4 41 1).toInt64) M4) ∧ (x2 = 2 → K ((iV M4 41 8).toInt64) M4) ∧ (x2 = 3 → K (jV M4 41 2) M4) ∧ (x2 = 4 → ∃ r7, sm_rv M4 23 13 = some r7 ∧ fS r7 ∧ K (p136_0 M4 r7 41) M4) ∧ (x2 = 5 → ∃ r10, sm_rv M4 23 13 = some r10 ∧ fS r10 ∧ (vp_in x1 600) ∧ K (jV M4 (r10 + 13) x1.toNatClampNeg) M4) ∧ (x2 = 6 → ∃ r14, sm_rv M4 23 13 = some r14 ∧ fS r14 ∧ (q137_0 M4 (r14 + 1) (iV M4 41 0) (iV M4 41 1)) ∧ K ((p137_0 M4 (r14 + 1) (iV M4 41 0) (iV M4 41 1)).toInt64) M4) ∧ ((x2 < 0 ∨ 6 < x2) → K ((iV M4 41 9).toInt64) M4)))) hS h)) (fun M1 h => ?_)
  obtain ⟨hS3, h⟩ := h
  refine sm_w.run t134 sr134 5 2 (M2 := M1) (f2 := (10, [some (.ref 23), some (.int (x1)), some (.int (x2))], [.int (x1), .ref 23])) rfl ⟨trivial, trivial, trivial⟩ ?_
  refine sm_w.zV t134 sr134 7 (i := 135) (as := [.ref 23, .int (x1)]) (g := (10, [some (.ref 23), some (.int (x1)), some (.int (x2))], [])) rfl ⟨by decide, by decide, (Nat.le_of_ble_eq_true rfl), (sm_K.g (k_23 hS3) (sm_sh.rf _)).1, (sm_K.g (k_23 hS3) (sm_sh.rf _)).2, (Nat.le_of_ble_eq_true rfl)⟩ (Nat.le_of_ble_eq_true rfl) (by decide) rfl (fun r M2 h => Or.inl ⟨r, rfl, h⟩) (sm_xV.s (by decide) hS3 h) (fun M4 h => ?_)
  obtain ⟨hS6, h⟩ := h
  refine sm_w.run t134 sr134 8 1 (M2 := M4) (f2 := (14, [some (.ref 23), some (.int (x1)), some (.int (x2))], [.int (x2)])) rfl ⟨trivial, trivial⟩ ?_
  refine sm_w.tsw t134 sr134 9 6 (x := x2) (ls := [some (.ref 23), some (.int (x1)), some (.int (x2))]) (st := []) rfl ⟨rfl, rfl, by decide⟩ (fun hc => ?_) (fun i hi hc => ?_)
  · have h := h.2.2.2.2.2.2.2 hc
    refine sm_w.run t134 sr134 53 2 (M2 := M4) (f2 := (143, [some (.ref 23), some (.int (x1)), some (.int (x2))], [va_rf (sm_rv M4 23 8)])) rfl ⟨trivial, sm_K.g (k_23 hS6) (sm_sh.rf _), trivial⟩ ?_
    refine sm_w.fld (r_23_8 hS6) ?_
    refine sm_w.run t134 sr134 55 2 (M2 := M4) (f2 := (147, [some (.ref 23), some (.int (x1)), some (.int (x2))], [.long ((iV M4 41 9).toInt64)])) rfl ⟨sm_K.g (kL_0 hS6 fL_41) (sm_sh.rf _), trivial, trivial⟩ ?_
    exact sm_w.end t134 sr134 57 (o := .returned (some (.long ((iV M4 41 9).toInt64)))) (M2 := M4) rfl trivial (by decide) (Or.inr ⟨_, rfl, h⟩)
  · match i, hi, hc with
    | 0, _, hc =>
      have h := h.1 hc
      refine sm_w.run t134 sr134 10 2 (M2 := M4) (f2 := (60, [some (.ref 23), some (.int (x1)), some (.int (x2))], [va_rf (sm_rv M4 23 8)])) rfl ⟨trivial, sm_K.g (k_23 hS6) (sm_sh.rf _), trivial⟩ ?_
      refine sm_w.fld (r_23_8 hS6) ?_
      refine sm_w.run t134 sr134 12 2 (M2 := M4) (f2 := (64, [some (.ref 23), some (.int (x1)), some (.int (x2))], [.long ((iV M4 41 0).toInt64)])) rfl ⟨sm_K.g (kL_0 hS6 fL_41) (sm_sh.rf _), trivial, trivial⟩ ?_
      exact sm_w.end t134 sr134 14 (o := .returned (some (.long ((iV M4 41 0).toInt64)))) (M2 := M4) rfl trivial (by decide) (Or.inr ⟨_, rfl, h⟩)
    | 1, _, hc =>
      have h := h.2.1 hc
      refine sm_w.run t134 sr134 15 2 (M2 := M4) (f2 := (69, [some (.ref 23), some (.int (x1)), some (.int (x2))], [va_rf (sm_rv M4 23 8)])) rfl ⟨trivial, sm_K.g (k_23 hS6) (sm_sh.rf _), trivial⟩ ?_
      refine sm_w.fld (r_23_8 hS6) ?_
      refine sm_w.run t134 sr134 17 2 (M2 := M4) (f2 := (73, [some (.ref 23), some (.int (x1)), some (.int (x2))], [.long ((iV M4 41 1).toInt64)])) rfl ⟨sm_K.g (kL_0 hS6 fL_41) (sm_sh.rf _), trivial, trivial⟩ ?_
      exact sm_w.end t134 sr134 19 (o := .returned (some (.long ((iV M4 41 1).toInt64)))) (M2 := M4) rfl trivial (by decide) (Or.inr ⟨_, rfl, h⟩)
    | 2, _, hc =>
      have h := h.2.2.1 hc
      refine sm_w.run t134 sr134 20 2 (M2 := M4) (f2 := (78, [some (.ref 23), some (.int (x1)), some (.int (x2))], [va_rf (sm_rv M4 23 8)])) rfl ⟨trivial, sm_K.g (k_23 hS6) (sm_sh.rf _), trivial⟩ ?_
      refine sm_w.fld (r_23_8 hS6) ?_
      refine sm_w.run t134 sr134 22 2 (M2 := M4) (f2 := (82, [some (.ref 23), some (.int (x1)), some (.int (x2))], [.long ((iV M4 41 8).toInt64)])) rfl ⟨sm_K.g (kL_0 hS6 fL_41) (sm_sh.rf _), trivial, trivial⟩ ?_
      exact sm_w.end t134 sr134 24 (o := .returned (some (.long ((iV M4 41 8).toInt64)))) (M2 := M4) rfl trivial (by decide) (Or.inr ⟨_, rfl, h⟩)
    | 3, _, hc =>
      have h := h.2.2.2.1 hc
      refine sm_w.run t134 sr134 25 2 (M2 := M4) (f2 := (87, [some (.ref 23), some (.int (x1)), some (.int (x2))], [va_rf (sm_rv M4 23 8)])) rfl ⟨trivial, sm_K.g (k_23 hS6) (sm_sh.rf _), trivial⟩ ?_
      refine sm_w.fld (r_23_8 hS6) ?_
      refine sm_w.run t134 sr134 27 1 (M2 := M4) (f2 := (90, [some (.ref 23), some (.int (x1)), some (.int (x2))], [.long (jV M4 41 2)])) rfl ⟨sm_K.g (kL_0 hS6 fL_41) (sm_sh.rf _), trivial⟩ ?_
      exact sm_w.end t134 sr134 28 (o := .returned (some (.long (jV M4 41 2)))) (M2 := M4) rfl trivial (by decide) (Or.inr ⟨_, rfl, h⟩)
    | 4, _, hc =>
      have h := h.2.2.2.2.1 hc
      refine sm_w.run t134 sr134 29 2 (M2 := M4) (f2 := (95, [some (.ref 23), some (.int (x1)), some (.int (x2))], [va_rf (sm_rv M4 23 13)])) rfl ⟨trivial, sm_K.g (k_23 hS6) (sm_sh.rf _), trivial⟩ ?_
      obtain ⟨r7, e8, h9, h⟩ := h
      refine sm_w.fld e8 ?_
      refine sm_w.run t134 sr134 31 2 (M2 := M4) (f2 := (99, [some (.ref 23), some (.int (x1)), some (.int (x2))], [va_rf (sm_rv M4 23 8), .ref r7])) rfl ⟨trivial, sm_K.g (k_23 hS6) (sm_sh.rf _), trivial⟩ ?_
      refine sm_w.fld (r_23_8 hS6) ?_
      refine sm_w.cJ t134 sr134 33 (i := 136) (as := [.ref r7, .ref 41]) (g := (99, [some (.ref 23), some (.int (x1)), some (.int (x2))], [])) rfl ⟨by decide, by decide, (Nat.le_of_ble_eq_true rfl), (sm_K.g (kS_0 hS6 h9) (sm_sh.rf _)).1, (sm_K.g (kS_0 hS6 h9) (sm_sh.rf _)).2, (Nat.le_of_ble_eq_true rfl)⟩ (Nat.le_of_ble_eq_true rfl) (by decide) (p136_c hS6 h9 fL_41) (fun vz M2 hz => ?_)
      obtain ⟨hz1, hz2⟩ := hz
      subst hz1
      have hz2 := hz2.symm
      subst hz2
      exact sm_w.end t134 sr134 34 (o := .returned (some (.long (p136_0 M4 r7 41)))) (M2 := M4) rfl trivial (by decide) (Or.inr ⟨_, rfl, h⟩)
    | 5, _, hc =>
      have h := h.2.2.2.2.2.1 hc
      refine sm_w.run t134 sr134 35 2 (M2 := M4) (f2 := (107, [some (.ref 23), some (.int (x1)), some (.int (x2))], [va_rf (sm_rv M4 23 13)])) rfl ⟨trivial, sm_K.g (k_23 hS6) (sm_sh.rf _), trivial⟩ ?_
      obtain ⟨r10, e11, h12, h⟩ := h
      refine sm_w.fld e11 ?_
      refine sm_w.run t134 sr134 37 1 (M2 := M4) (f2 := (110, [some (.ref 23), some (.int (x1)), some (.int (x2))], [va_rf (sm_rv M4 r10 8)])) rfl ⟨sm_K.g (kS_0 hS6 h12) (sm_sh.rf _), trivial⟩ ?_
      refine sm_w.fld (rS_8 hS6 h12) ?_
      obtain ⟨c13, h⟩ := h
      refine sm_w.run t134 sr134 38 2 (M2 := M4) (f2 := (112, [some (.ref 23), some (.int (x1)), some (.int (x2))], [.long (jV M4 (r10 + 13) x1.toNatClampNeg)])) rfl ⟨trivial, sm_K.a2 (kS_13 hS6 h12) (lS_13 hS6 h12) c13, trivial⟩ ?_
      exact sm_w.end t134 sr134 40 (o := .returned (some (.long (jV M4 (r10 + 13) x1.toNatClampNeg)))) (M2 := M4) rfl trivial (by decide) (Or.inr ⟨_, rfl, h⟩)
    | 6, _, hc =>
      have h := h.2.2.2.2.2.2.1 hc
      refine sm_w.run t134 sr134 41 2 (M2 := M4) (f2 := (117, [some (.ref 23), some (.int (x1)), some (.int (x2))], [va_rf (sm_rv M4 23 13)])) rfl ⟨trivial, sm_K.g (k_23 hS6) (sm_sh.rf _), trivial⟩ ?_
      obtain ⟨r14, e15, h16, h⟩ := h
      refine sm_w.fld e15 ?_
      refine sm_w.run t134 sr134 43 1 (M2 := M4) (f2 := (120, [some (.ref 23), some (.int (x1)), some (.int (x2))], [va_rf (sm_rv M4 r14 0)])) rfl ⟨sm_K.g (kS_0 hS6 h16) (sm_sh.rf _), trivial⟩ ?_
      refine sm_w.fld (rS_0 hS6 h16) ?_
      refine sm_w.run t134 sr134 44 2 (M2 := M4) (f2 := (124, [some (.ref 23), some (.int (x1)), some (.int (x2))], [va_rf (sm_rv M4 23 8), .ref (r14 + 1)])) rfl ⟨trivial, sm_K.g (k_23 hS6) (sm_sh.rf _), trivial⟩ ?_
      refine sm_w.fld (r_23_8 hS6) ?_
      refine sm_w.run t134 sr134 46 3 (M2 := M4) (f2 := (131, [some (.ref 23), some (.int (x1)), some (.int (x2))], [va_rf (sm_rv M4 23 8), .int (iV M4 41 0), .ref (r14 + 1)])) rfl ⟨sm_K.g (kL_0 hS6 fL_41) (sm_sh.rf _), trivial, sm_K.g (k_23 hS6) (sm_sh.rf _), trivial⟩ ?_
      refine sm_w.fld (r_23_8 hS6) ?_
      obtain ⟨c17, h⟩ := h
      refine sm_w.run t134 sr134 49 1 (M2 := M4) (f2 := (134, [some (.ref 23), some (.int (x1)), some (.int (x2))], [.int (iV M4 41 1), .int (iV M4 41 0), .ref (r14 + 1)])) rfl ⟨sm_K.g (kL_0 hS6 fL_41) (sm_sh.rf _), trivial⟩ ?_
      refine sm_w.cI t134 sr134 50 (i := 137) (as := [.ref (r14 + 1), .int (iV M4 41 0), .int (iV M4 41 1)]) (g := (134, [some (.ref 23), some (.int (x1)), some (.int (x2))], [])) rfl ⟨by decide, by decide, (Nat.le_of_ble_eq_true rfl), (sm_K.g (kK_0 hS6 (fS_1 h16)) (sm_sh.rf _)).1, (sm_K.g (kK_0 hS6 (fS_1 h16)) (sm_sh.rf _)).2, (Nat.le_of_ble_eq_true rfl)⟩ (Nat.le_of_ble_eq_true rfl) (by decide) (p137_c hS6 (fS_1 h16) c17) (fun vz M2 hz => ?_)
      obtain ⟨hz1, hz2⟩ := hz
      subst hz1
      have hz2 := hz2.symm
      subst hz2
      refine sm_w.run t134 sr134 51 1 (M2 := M4) (f2 := (138, [some (.ref 23), some (.int (x1)), some (.int (x2))], [.long ((p137_0 M4 (r14 + 1) (iV M4 41 0) (iV M4 41 1)).toInt64)])) rfl ⟨trivial, trivial⟩ ?_
      exact sm_w.end t134 sr134 52 (o := .returned (some (.long ((p137_0 M4 (r14 + 1) (iV M4 41 0) (iV M4 41 1)).toInt64)))) (M2 := M4) rfl trivial (by decide) (Or.inr ⟨_, rfl, h⟩)
    | k + 7, hi, _ => exact absurd hi (by omega)
-- 133 LineSetterLaw.line(LLineSetter;II[J)I
theorem t133 : sP 133 = (5, sp_133, sh_133) := rfl
theorem sr133 : sm_srt sp_133 = true := by decide +kernel
theorem g133_0 {M : sm_M} {x1 : Int32} {x2 : Int32} {K : Int32 → sm_M → Prop} (hS : SH M)  (h : sm_xJ 134 [.ref 23, .int (x1), .int (x2)] M (fun r0 M0 => (sm_kd M0 r0 = 48 ∧ SH M0 ∧ K (1 : Int32) M0) ∨ (sm_kd M0 r0 = 49 ∧ SH M0 ∧ K (2 : Int32) M0)) (fun v2 M1 => SH M1 → (vp_in (0 : Int32) 1) ∧ ∀ M5, SH M5 → M5 = sm_wJ M1 164 (0 : Int32).toNatClampNeg v2 → K (0 : Int32) M5)) : sm_w 133 (sm_in sP 133 [.ref 23, .int (x1), .int (x2), .ref 164]) M (rI K) := by
  show sm_w 133 (0, [some (.ref 23), some (.int (x1)), some (.int (x2)), some (.ref 164), none], []) M (rI K)
  refine sm_w.run t133 sr133 0 5 (M2 := M) (f2 := (5, [some (.ref 23), some (.int (x1)), some (.int (x2)), some (.ref 164), none], [.int (x2), .int (x1), .ref 23, .int ((0 : Int32)), .ref 164])) rfl ⟨trivial, trivial, trivial, trivial, trivial, trivial⟩ ?_
  refine sm_w.yJ t133 sr133 5 (i := 134) (as := [.ref 23, .int (x1), .int (x2)]) (g := (5, [some (.ref 23), some (.int (x1)), some (.int (x2)), some (.ref 164), none], [.int ((0 : Int32)), .ref 164])) rfl ⟨by decide, by decide, (Nat.le_of_ble_eq_true rfl), (sm_K.g (k_23 hS) (sm_sh.rf _)).1, (sm_K.g (k_23 hS) (sm_sh.rf _)).2, (Nat.le_of_ble_eq_true rfl)⟩ (Nat.le_of_ble_eq_true rfl) (by decide) (sm_xJ.s (by decide) hS h) (fun r0 M0 h => ?_) (fun v2 M1 h => ?_)
  · rcases h with ⟨hk, hS0, h⟩ | ⟨hk, hS0, h⟩
    · refine ⟨12, by rw [hk]; rfl, ?_⟩
      refine sm_w.run t133 sr133 8 2 (M2 := M0) (f2 := (15, [some (.ref 23), some (.int (x1)), some (.int (x2)), some (.ref 164), some (.ref r0)], [.int ((1 : Int32))])) rfl ⟨(Nat.le_of_ble_eq_true rfl), trivial, trivial⟩ ?_
      exact sm_w.end t133 sr133 10 (o := .returned (some (.int ((1 : Int32))))) (M2 := M0) rfl rfl (by decide) (⟨_, rfl, h⟩)
    · refine ⟨16, by rw [hk]; rfl, ?_⟩
      refine sm_w.run t133 sr133 11 2 (M2 := M0) (f2 := (19, [some (.ref 23), some (.int (x1)), some (.int (x2)), some (.ref 164), some (.ref r0)], [.int ((2 : Int32))])) rfl ⟨(Nat.le_of_ble_eq_true rfl), trivial, trivial⟩ ?_
      exact sm_w.end t133 sr133 13 (o := .returned (some (.int ((2 : Int32))))) (M2 := M0) rfl rfl (by decide) (⟨_, rfl, h⟩)
  · obtain ⟨hS3, h⟩ := h
    obtain ⟨c4, h⟩ := h
    refine sm_w.run t133 sr133 6 1 (M2 := sm_wJ M1 164 (0 : Int32).toNatClampNeg v2) (f2 := (9, [some (.ref 23), some (.int (x1)), some (.int (x2)), some (.ref 164), none], [])) rfl ⟨sm_K.s2 (k_164 hS3) (l_164 hS3) c4, trivial⟩ ?_
    have hS6 : SH (sm_wJ M1 164 (0 : Int32).toNatClampNeg v2) := SH.wJ hS3 _ _ _
    have h := h _ hS6 rfl
    generalize sm_wJ M1 164 (0 : Int32).toNatClampNeg v2 = M5 at h hS6 ⊢
    refine sm_w.run t133 sr133 7 1 (M2 := M5) (f2 := (20, [some (.ref 23), some (.int (x1)), some (.int (x2)), some (.ref 164), none], [])) rfl ⟨trivial, trivial⟩ ?_
    refine sm_w.run t133 sr133 14 1 (M2 := M5) (f2 := (21, [some (.ref 23), some (.int (x1)), some (.int (x2)), some (.ref 164), none], [.int ((0 : Int32))])) rfl ⟨trivial, trivial⟩ ?_
    exact sm_w.end t133 sr133 15 (o := .returned (some (.int ((0 : Int32))))) (M2 := M5) rfl rfl (by decide) (⟨_, rfl, h⟩)
-- 141 LineSetter$Breaks.glueBehind(II)I
theorem t141 : sP 141 = (4, sp_141, sh_141) := rfl
theorem sr141 : sm_srt sp_141 = true := by decide +kernel
theorem g141_0 {M : sm_M} {x0 : Nat} {x1 : Int32} {x2 : Int32} {K : Int32 → sm_M → Prop} (hS : SH M) (hx0 : fK x0) (h : sm_w 141 (4, [some (.ref x0), some (.int (x1)), some (.int (x2)), some (.int (x1 + (1 : Int32)))], []) M (rI K)) : sm_w 141 (sm_in sP 141 [.ref x0, .int (x1), .int (x2)]) M (rI K) := by
  show sm_w 141 (0, [some (.ref x0), some (.int (x1)), some (.int (x2)), none], []) M (rI K)
  refine sm_w.run t141 sr141 0 4 (M2 := M) (f2 := (4, [some (.ref x0), some (.int (x1)), some (.int (x2)), some (.int (x1 + (1 : Int32)))], [])) rfl ⟨trivial, trivial, trivial, (Nat.le_of_ble_eq_true rfl), trivial⟩ ?_
  exact h
theorem g141_1 {M : sm_M} {x0 : Nat} {x1 : Int32} {x2 : Int32} {x3 : Int32} {K : Int32 → sm_M → Prop} (hS : SH M) (hx0 : fK x0) (h : (((iV M x0 3) < x3 → K x1 M) ∧ (¬ (iV M x0 3) < x3 → (vp_in x3 601) ∧ (((iV M (x0 + 3) x3.toNatClampNeg) = 0 → (vp_in x3 601) ∧ (vp_in x1 601) ∧ ((((iV M (x0 + 6) x3.toNatClampNeg) - (iV M (x0 + 6) x1.toNatClampNeg)) = x2 → K x3 M) ∧ (¬ ((iV M (x0 + 6) x3.toNatClampNeg) - (iV M (x0 + 6) x1.toNatClampNeg)) = x2 → sm_w 141 (4, [some (.ref x0), some (.int (x1)), some (.int (x2)), some (.int (x3 + (1 : Int32)))], []) M (rI K)))) ∧ (¬ (iV M (x0 + 3) x3.toNatClampNeg) = 0 → sm_w 141 (4, [some (.ref x0), some (.int (x1)), some (.int (x2)), some (.int (x3 + (1 : Int32)))], []) M (rI K)))))) : sm_w 141 (4, [some (.ref x0), some (.int (x1)), some (.int (x2)), some (.int (x3))], []) M (rI K) := by
  refine sm_w.run t141 sr141 4 4 (M2 := M) (f2 := (if (iV M x0 3) < x3 then 46 else 12, [some (.ref x0), some (.int (x1)), some (.int (x2)), some (.int (x3))], [])) rfl ⟨trivial, trivial, sm_K.g (kK_0 hS hx0) (sm_sh.rf _), trivial, trivial⟩ ?_
  refine sm_w.ite (fun hc => ?_) (fun hc => ?_)
  · have h := h.1 hc
    refine sm_w.run t141 sr141 28 1 (M2 := M) (f2 := (47, [some (.ref x0), some (.int (x1)), some (.int (x2)), some (.int (x3))], [.int (x1)])) rfl ⟨trivial, trivial⟩ ?_
    exact sm_w.end t141 sr141 29 (o := .returned (some (.int (x1)))) (M2 := M) rfl rfl (by decide) (⟨_, rfl, h⟩)
  · have h := h.2 hc
    refine sm_w.run t141 sr141 8 2 (M2 := M) (f2 := (16, [some (.ref x0), some (.int (x1)), some (.int (x2)), some (.int (x3))], [va_rf (sm_rv M x0 4)])) rfl ⟨trivial, sm_K.g (kK_0 hS hx0) (sm_sh.rf _), trivial⟩ ?_
    refine sm_w.fld (rK_4 hS hx0) ?_
    obtain ⟨c1, h⟩ := h
    refine sm_w.run t141 sr141 10 3 (M2 := M) (f2 := (if (iV M (x0 + 3) x3.toNatClampNeg) = 0 then 21 else 40, [some (.ref x0), some (.int (x1)), some (.int (x2)), some (.int (x3))], [])) rfl ⟨trivial, sm_K.a2 (kK_3 hS hx0) (lK_3 hS hx0) c1, trivial, trivial⟩ ?_
    refine sm_w.ite (fun hc => ?_) (fun hc => ?_)
    · have h := h.1 hc
      refine sm_w.run t141 sr141 13 2 (M2 := M) (f2 := (25, [some (.ref x0), some (.int (x1)), some (.int (x2)), some (.int (x3))], [va_rf (sm_rv M x0 7)])) rfl ⟨trivial, sm_K.g (kK_0 hS hx0) (sm_sh.rf _), trivial⟩ ?_
      refine sm_w.fld (rK_7 hS hx0) ?_
      obtain ⟨c2, h⟩ := h
      refine sm_w.run t141 sr141 15 4 (M2 := M) (f2 := (31, [some (.ref x0), some (.int (x1)), some (.int (x2)), some (.int (x3))], [va_rf (sm_rv M x0 7), .int (iV M (x0 + 6) x3.toNatClampNeg)])) rfl ⟨trivial, sm_K.a2 (kK_6 hS hx0) (lK_6 hS hx0) c2, trivial, sm_K.g (kK_0 hS hx0) (sm_sh.rf _), trivial⟩ ?_
      refine sm_w.fld (rK_7 hS hx0) ?_
      obtain ⟨c3, h⟩ := h
      refine sm_w.run t141 sr141 19 5 (M2 := M) (f2 := (if ((iV M (x0 + 6) x3.toNatClampNeg) - (iV M (x0 + 6) x1.toNatClampNeg)) = x2 then 38 else 40, [some (.ref x0), some (.int (x1)), some (.int (x2)), some (.int (x3))], [])) rfl ⟨trivial, sm_K.a2 (kK_6 hS hx0) (lK_6 hS hx0) c3, trivial, trivial, trivial, trivial⟩ ?_
      refine sm_w.ite (fun hc => ?_) (fun hc => ?_)
      · have h := h.1 hc
        refine sm_w.run t141 sr141 24 1 (M2 := M) (f2 := (39, [some (.ref x0), some (.int (x1)), some (.int (x2)), some (.int (x3))], [.int (x3)])) rfl ⟨trivial, trivial⟩ ?_
        exact sm_w.end t141 sr141 25 (o := .returned (some (.int (x3)))) (M2 := M) rfl rfl (by decide) (⟨_, rfl, h⟩)
      · have h := h.2 hc
        refine sm_w.run t141 sr141 26 2 (M2 := M) (f2 := (4, [some (.ref x0), some (.int (x1)), some (.int (x2)), some (.int (x3 + (1 : Int32)))], [])) rfl ⟨(Nat.le_of_ble_eq_true rfl), trivial, trivial⟩ ?_
        exact h
    · have h := h.2 hc
      refine sm_w.run t141 sr141 26 2 (M2 := M) (f2 := (4, [some (.ref x0), some (.int (x1)), some (.int (x2)), some (.int (x3 + (1 : Int32)))], [])) rfl ⟨(Nat.le_of_ble_eq_true rfl), trivial, trivial⟩ ?_
      exact h
