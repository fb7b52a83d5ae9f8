/-! METHODS by their segments. -/
-- 202 LineSetterModel.places(I)V
theorem t202 : sP 202 = (7, sp_202, sh_202) := rfl
theorem sr202 : sm_srt sp_202 = true := by decide +kernel
theorem g202_0 {M : sm_M} {x1 : Int32} {K : sm_M → Prop} (hS : SH M)  (h : (vp_in (0 : Int32) 4100) ∧ ∀ M2, SH M2 → M2 = sm_wI M 143 (0 : Int32).toNatClampNeg (46 : Int32) → (vp_in (x1 + (1 : Int32)) 4100) ∧ ∀ M5, SH M5 → M5 = sm_wI M2 143 (x1 + (1 : Int32)).toNatClampNeg (46 : Int32) → sm_w 202 (20, [some (.ref 116), some (.int (x1)), some (.int ((0 : Int32))), none, none, none, none], []) M5 (rV K)) : sm_w 202 (sm_in sP 202 [.ref 116, .int (x1)]) M (rV K) := by
  show sm_w 202 (0, [some (.ref 116), some (.int (x1)), none, none, none, none, none], []) M (rV K)
  refine sm_w.run t202 sr202 0 2 (M2 := M) (f2 := (4, [some (.ref 116), some (.int (x1)), none, none, none, none, none], [va_rf (sm_rv M 116 51)])) rfl ⟨trivial, sm_K.g (k_116 hS) (sm_sh.rf _), trivial⟩ ?_
  refine sm_w.fld (r_116_51 hS) ?_
  obtain ⟨c1, h⟩ := h
  refine sm_w.run t202 sr202 2 3 (M2 := sm_wI M 143 (0 : Int32).toNatClampNeg (46 : Int32)) (f2 := (8, [some (.ref 116), some (.int (x1)), none, none, none, none, none], [])) rfl ⟨trivial, trivial, sm_K.s2 (k_143 hS) (l_143 hS) c1, trivial⟩ ?_
  have hS3 : SH (sm_wI M 143 (0 : Int32).toNatClampNeg (46 : Int32)) := SH.wI hS _ _ _
  have h := h _ hS3 rfl
  generalize sm_wI M 143 (0 : Int32).toNatClampNeg (46 : Int32) = M2 at h hS3 ⊢
  refine sm_w.run t202 sr202 5 2 (M2 := M2) (f2 := (12, [some (.ref 116), some (.int (x1)), none, none, none, none, none], [va_rf (sm_rv M2 116 51)])) rfl ⟨trivial, sm_K.g (k_116 hS3) (sm_sh.rf _), trivial⟩ ?_
  refine sm_w.fld (r_116_51 hS3) ?_
  obtain ⟨c4, h⟩ := h
  refine sm_w.run t202 sr202 7 5 (M2 := sm_wI M2 143 (x1 + (1 : Int32)).toNatClampNeg (46 : Int32)) (f2 := (18, [some (.ref 116), some (.int (x1)), none, none, none, none, none], [])) rfl ⟨trivial, trivial, trivial, trivial, sm_K.s2 (k_143 hS3) (l_143 hS3) c4, trivial⟩ ?_
  have hS6 : SH (sm_wI M2 143 (x1 + (1 : Int32)).toNatClampNeg (46 : Int32)) := SH.wI hS3 _ _ _
  have h := h _ hS6 rfl
  generalize sm_wI M2 143 (x1 + (1 : Int32)).toNatClampNeg (46 : Int32) = M5 at h hS6 ⊢
  refine sm_w.run t202 sr202 12 2 (M2 := M5) (f2 := (20, [some (.ref 116), some (.int (x1)), some (.int ((0 : Int32))), none, none, none, none], [])) rfl ⟨trivial, (Nat.le_of_ble_eq_true rfl), trivial⟩ ?_
  exact h
theorem g202_1 {M : sm_M} {x1 : Int32} {x2 : Int32} {K : sm_M → Prop} (hS : SH M)  (h : ((x1 < x2 → sm_w 202 (40, [some (.ref 116), some (.int (x1)), some (.int ((0 : Int32))), none, none, none, none], []) M (rV K)) ∧ (¬ x1 < x2 → (vp_in x2 4100) ∧ ∀ M2, SH M2 → M2 = sm_wI M 145 x2.toNatClampNeg ((0 : Int32) &&& 1) → sm_w 202 (20, [some (.ref 116), some (.int (x1)), some (.int (x2 + (1 : Int32))), none, none, none, none], []) M2 (rV K)))) : sm_w 202 (20, [some (.ref 116), some (.int (x1)), some (.int (x2)), none, none, none, none], []) M (rV K) := by
  refine sm_w.run t202 sr202 14 3 (M2 := M) (f2 := (if x1 < x2 then 38 else 25, [some (.ref 116), some (.int (x1)), some (.int (x2)), none, none, none, none], [])) rfl ⟨trivial, trivial, trivial, trivial⟩ ?_
  refine sm_w.ite (fun hc => ?_) (fun hc => ?_)
  · have h := h.1 hc
    refine sm_w.run t202 sr202 24 2 (M2 := M) (f2 := (40, [some (.ref 116), some (.int (x1)), some (.int ((0 : Int32))), none, none, none, none], [])) rfl ⟨trivial, (Nat.le_of_ble_eq_true rfl), trivial⟩ ?_
    exact h
  · have h := h.2 hc
    refine sm_w.run t202 sr202 17 2 (M2 := M) (f2 := (29, [some (.ref 116), some (.int (x1)), some (.int (x2)), none, none, none, none], [va_rf (sm_rv M 116 53)])) rfl ⟨trivial, sm_K.g (k_116 hS) (sm_sh.rf _), trivial⟩ ?_
    refine sm_w.fld (r_116_53 hS) ?_
    obtain ⟨c1, h⟩ := h
    refine sm_w.run t202 sr202 19 3 (M2 := sm_wI M 145 x2.toNatClampNeg ((0 : Int32) &&& 1)) (f2 := (32, [some (.ref 116), some (.int (x1)), some (.int (x2)), none, none, none, none], [])) rfl ⟨trivial, trivial, sm_K.s2 (k_145 hS) (l_145 hS) c1, trivial⟩ ?_
    have hS3 : SH (sm_wI M 145 x2.toNatClampNeg ((0 : Int32) &&& 1)) := SH.wI hS _ _ _
    have h := h _ hS3 rfl
    generalize sm_wI M 145 x2.toNatClampNeg ((0 : Int32) &&& 1) = M2 at h hS3 ⊢
    refine sm_w.run t202 sr202 22 2 (M2 := M2) (f2 := (20, [some (.ref 116), some (.int (x1)), some (.int (x2 + (1 : Int32))), none, none, none, none], [])) rfl ⟨(Nat.le_of_ble_eq_true rfl), trivial, trivial⟩ ?_
    exact h
theorem g202_2 {M : sm_M} {x1 : Int32} {x2 : Int32} {K : sm_M → Prop} (hS : SH M)  (h : (((iV M 116 44) ≤ x2 → sm_w 202 (191, [some (.ref 116), some (.int (x1)), some (.int ((0 : Int32))), none, none, none, none], []) M (rV K)) ∧ (¬ (iV M 116 44) ≤ x2 → (vp_in x2 120) ∧ (((iV M 139 x2.toNatClampNeg) = x1 → sm_w 202 (67, [some (.ref 116), some (.int (x1)), some (.int (x2)), some (.int ((1 : Int32))), some (.int ((0 : Int32))), none, none], []) M (rV K)) ∧ (¬ (iV M 139 x2.toNatClampNeg) = x1 → sm_w 202 (67, [some (.ref 116), some (.int (x1)), some (.int (x2)), some (.int ((0 : Int32))), some (.int ((0 : Int32))), none, none], []) M (rV K)))))) : sm_w 202 (40, [some (.ref 116), some (.int (x1)), some (.int (x2)), none, none, none, none], []) M (rV K) := by
  refine sm_w.run t202 sr202 26 4 (M2 := M) (f2 := (if (iV M 116 44) ≤ x2 then 189 else 48, [some (.ref 116), some (.int (x1)), some (.int (x2)), none, none, none, none], [])) rfl ⟨trivial, trivial, sm_K.g (k_116 hS) (sm_sh.rf _), trivial, trivial⟩ ?_
  refine sm_w.ite (fun hc => ?_) (fun hc => ?_)
  · have h := h.1 hc
    refine sm_w.run t202 sr202 107 2 (M2 := M) (f2 := (191, [some (.ref 116), some (.int (x1)), some (.int ((0 : Int32))), none, none, none, none], [])) rfl ⟨trivial, (Nat.le_of_ble_eq_true rfl), trivial⟩ ?_
    exact h
  · have h := h.2 hc
    refine sm_w.run t202 sr202 30 2 (M2 := M) (f2 := (52, [some (.ref 116), some (.int (x1)), some (.int (x2)), none, none, none, none], [va_rf (sm_rv M 116 41)])) rfl ⟨trivial, sm_K.g (k_116 hS) (sm_sh.rf _), trivial⟩ ?_
    refine sm_w.fld (r_116_41 hS) ?_
    obtain ⟨c1, h⟩ := h
    refine sm_w.run t202 sr202 32 4 (M2 := M) (f2 := (if (iV M 139 x2.toNatClampNeg) = x1 then 58 else 62, [some (.ref 116), some (.int (x1)), some (.int (x2)), none, none, none, none], [])) rfl ⟨trivial, sm_K.a2 (k_139 hS) (l_139 hS) c1, trivial, trivial, trivial⟩ ?_
    refine sm_w.ite (fun hc => ?_) (fun hc => ?_)
    · have h := h.1 hc
      refine sm_w.run t202 sr202 36 2 (M2 := M) (f2 := (63, [some (.ref 116), some (.int (x1)), some (.int (x2)), none, none, none, none], [.int ((1 : Int32))])) rfl ⟨trivial, trivial, trivial⟩ ?_
      refine sm_w.run t202 sr202 39 3 (M2 := M) (f2 := (67, [some (.ref 116), some (.int (x1)), some (.int (x2)), some (.int ((1 : Int32))), some (.int ((0 : Int32))), none, none], [])) rfl ⟨(Nat.le_of_ble_eq_true rfl), trivial, (Nat.le_of_ble_eq_true rfl), trivial⟩ ?_
      exact h
    · have h := h.2 hc
      refine sm_w.run t202 sr202 38 4 (M2 := M) (f2 := (67, [some (.ref 116), some (.int (x1)), some (.int (x2)), some (.int ((0 : Int32))), some (.int ((0 : Int32))), none, none], [])) rfl ⟨trivial, (Nat.le_of_ble_eq_true rfl), trivial, (Nat.le_of_ble_eq_true rfl), trivial⟩ ?_
      exact h
theorem g202_3 {M : sm_M} {x1 : Int32} {x2 : Int32} {x3 : Int32} {x4 : Int32} {K : sm_M → Prop} (hS : SH M)  (h : ((x1 ≤ x4 → ((x3 = 0 → sm_w 202 (40, [some (.ref 116), some (.int (x1)), some (.int (x2 + (1 : Int32))), none, none, none, none], []) M (rV K)) ∧ (¬ x3 = 0 → sm_w 202 (123, [some (.ref 116), some (.int (x1)), some (.int (x2)), none, some (.int ((0 : Int32))), none, none], []) M (rV K)))) ∧ (¬ x1 ≤ x4 → ((x3 = 0 → ((x3 = 0 → sm_w 202 (40, [some (.ref 116), some (.int (x1)), some (.int (x2 + (1 : Int32))), none, none, none, none], []) M (rV K)) ∧ (¬ x3 = 0 → sm_w 202 (123, [some (.ref 116), some (.int (x1)), some (.int (x2)), none, some (.int ((0 : Int32))), none, none], []) M (rV K)))) ∧ (¬ x3 = 0 → (vp_in (((32 : Int32) * x2) + x4) 3840) ∧ (vp_in (x4 + (1 : Int32)) 4100) ∧ (((iV M 138 (((32 : Int32) * x2) + x4).toNatClampNeg) = (iV M 143 (x4 + (1 : Int32)).toNatClampNeg) → sm_w 202 (67, [some (.ref 116), some (.int (x1)), some (.int (x2)), some (.int ((1 : Int32))), some (.int (x4 + (1 : Int32))), none, none], []) M (rV K)) ∧ (¬ (iV M 138 (((32 : Int32) * x2) + x4).toNatClampNeg) = (iV M 143 (x4 + (1 : Int32)).toNatClampNeg) → sm_w 202 (67, [some (.ref 116), some (.int (x1)), some (.int (x2)), some (.int ((0 : Int32))), some (.int (x4 + (1 : Int32))), none, none], []) M (rV K)))))))) : sm_w 202 (67, [some (.ref 116), some (.int (x1)), some (.int (x2)), some (.int (x3)), some (.int (x4)), none, none], []) M (rV K) := by
  refine sm_w.run t202 sr202 42 3 (M2 := M) (f2 := (if x1 ≤ x4 then 113 else 73, [some (.ref 116), some (.int (x1)), some (.int (x2)), some (.int (x3)), some (.int (x4)), none, none], [])) rfl ⟨trivial, trivial, trivial, trivial⟩ ?_
  refine sm_w.ite (fun hc => ?_) (fun hc => ?_)
  · have h := h.1 hc
    refine sm_w.run t202 sr202 68 2 (M2 := M) (f2 := (if x3 = 0 then 117 else 120, [some (.ref 116), some (.int (x1)), some (.int (x2)), some (.int (x3)), some (.int (x4)), none, none], [])) rfl ⟨trivial, trivial, trivial⟩ ?_
    refine sm_w.ite (fun hc => ?_) (fun hc => ?_)
    · have h := h.1 hc
      refine sm_w.run t202 sr202 70 1 (M2 := M) (f2 := (183, [some (.ref 116), some (.int (x1)), some (.int (x2)), some (.int (x3)), some (.int (x4)), none, none], [])) rfl ⟨trivial, trivial⟩ ?_
      refine sm_w.run t202 sr202 105 2 (M2 := M) (f2 := (40, [some (.ref 116), some (.int (x1)), some (.int (x2 + (1 : Int32))), some (.int (x3)), some (.int (x4)), none, none], [])) rfl ⟨(Nat.le_of_ble_eq_true rfl), trivial, trivial⟩ ?_
      refine sm_w.weak (ls := [some (.ref 116), some (.int (x1)), some (.int (x2 + (1 : Int32))), none, none, none, none]) (sm_leI [true, true, true, false, false, false, false] rfl) ?_
      exact h
    · have h := h.2 hc
      refine sm_w.run t202 sr202 71 2 (M2 := M) (f2 := (123, [some (.ref 116), some (.int (x1)), some (.int (x2)), some (.int (x3)), some (.int ((0 : Int32))), none, none], [])) rfl ⟨trivial, (Nat.le_of_ble_eq_true rfl), trivial⟩ ?_
      refine sm_w.weak (ls := [some (.ref 116), some (.int (x1)), some (.int (x2)), none, some (.int ((0 : Int32))), none, none]) (sm_leI [true, true, true, false, true, false, false] rfl) ?_
      exact h
  · have h := h.2 hc
    refine sm_w.run t202 sr202 45 2 (M2 := M) (f2 := (if x3 = 0 then 113 else 77, [some (.ref 116), some (.int (x1)), some (.int (x2)), some (.int (x3)), some (.int (x4)), none, none], [])) rfl ⟨trivial, trivial, trivial⟩ ?_
    refine sm_w.ite (fun hc => ?_) (fun hc => ?_)
    · have h := h.1 hc
      refine sm_w.run t202 sr202 68 2 (M2 := M) (f2 := (if x3 = 0 then 117 else 120, [some (.ref 116), some (.int (x1)), some (.int (x2)), some (.int (x3)), some (.int (x4)), none, none], [])) rfl ⟨trivial, trivial, trivial⟩ ?_
      refine sm_w.ite (fun hc => ?_) (fun hc => ?_)
      · have h := h.1 hc
        refine sm_w.run t202 sr202 70 1 (M2 := M) (f2 := (183, [some (.ref 116), some (.int (x1)), some (.int (x2)), some (.int (x3)), some (.int (x4)), none, none], [])) rfl ⟨trivial, trivial⟩ ?_
        refine sm_w.run t202 sr202 105 2 (M2 := M) (f2 := (40, [some (.ref 116), some (.int (x1)), some (.int (x2 + (1 : Int32))), some (.int (x3)), some (.int (x4)), none, none], [])) rfl ⟨(Nat.le_of_ble_eq_true rfl), trivial, trivial⟩ ?_
        refine sm_w.weak (ls := [some (.ref 116), some (.int (x1)), some (.int (x2 + (1 : Int32))), none, none, none, none]) (sm_leI [true, true, true, false, false, false, false] rfl) ?_
        exact h
      · have h := h.2 hc
        refine sm_w.run t202 sr202 71 2 (M2 := M) (f2 := (123, [some (.ref 116), some (.int (x1)), some (.int (x2)), some (.int (x3)), some (.int ((0 : Int32))), none, none], [])) rfl ⟨trivial, (Nat.le_of_ble_eq_true rfl), trivial⟩ ?_
        refine sm_w.weak (ls := [some (.ref 116), some (.int (x1)), some (.int (x2)), none, some (.int ((0 : Int32))), none, none]) (sm_leI [true, true, true, false, true, false, false] rfl) ?_
        exact h
    · have h := h.2 hc
      refine sm_w.run t202 sr202 47 2 (M2 := M) (f2 := (81, [some (.ref 116), some (.int (x1)), some (.int (x2)), some (.int (x3)), some (.int (x4)), none, none], [va_rf (sm_rv M 116 40)])) rfl ⟨trivial, sm_K.g (k_116 hS) (sm_sh.rf _), trivial⟩ ?_
      refine sm_w.fld (r_116_40 hS) ?_
      obtain ⟨c1, h⟩ := h
      refine sm_w.run t202 sr202 49 8 (M2 := M) (f2 := (93, [some (.ref 116), some (.int (x1)), some (.int (x2)), some (.int (x3)), some (.int (x4)), none, none], [va_rf (sm_rv M 116 51), .int (iV M 138 (((32 : Int32) * x2) + x4).toNatClampNeg)])) rfl ⟨trivial, trivial, trivial, trivial, trivial, sm_K.a2 (k_138 hS) (l_138 hS) c1, trivial, sm_K.g (k_116 hS) (sm_sh.rf _), trivial⟩ ?_
      refine sm_w.fld (r_116_51 hS) ?_
      obtain ⟨c2, h⟩ := h
      refine sm_w.run t202 sr202 57 5 (M2 := M) (f2 := (if (iV M 138 (((32 : Int32) * x2) + x4).toNatClampNeg) = (iV M 143 (x4 + (1 : Int32)).toNatClampNeg) then 101 else 105, [some (.ref 116), some (.int (x1)), some (.int (x2)), some (.int (x3)), some (.int (x4)), none, none], [])) rfl ⟨trivial, trivial, trivial, sm_K.a2 (k_143 hS) (l_143 hS) c2, trivial, trivial⟩ ?_
      refine sm_w.ite (fun hc => ?_) (fun hc => ?_)
      · have h := h.1 hc
        refine sm_w.run t202 sr202 62 2 (M2 := M) (f2 := (106, [some (.ref 116), some (.int (x1)), some (.int (x2)), some (.int (x3)), some (.int (x4)), none, none], [.int ((1 : Int32))])) rfl ⟨trivial, trivial, trivial⟩ ?_
        refine sm_w.run t202 sr202 65 3 (M2 := M) (f2 := (67, [some (.ref 116), some (.int (x1)), some (.int (x2)), some (.int ((1 : Int32))), some (.int (x4 + (1 : Int32))), none, none], [])) rfl ⟨(Nat.le_of_ble_eq_true rfl), (Nat.le_of_ble_eq_true rfl), trivial, trivial⟩ ?_
        exact h
      · have h := h.2 hc
        refine sm_w.run t202 sr202 64 4 (M2 := M) (f2 := (67, [some (.ref 116), some (.int (x1)), some (.int (x2)), some (.int ((0 : Int32))), some (.int (x4 + (1 : Int32))), none, none], [])) rfl ⟨trivial, (Nat.le_of_ble_eq_true rfl), (Nat.le_of_ble_eq_true rfl), trivial, trivial⟩ ?_
        exact h
theorem g202_4 {M : sm_M} {x1 : Int32} {x2 : Int32} {x4 : Int32} {K : sm_M → Prop} (hS : SH M)  (h : ((x1 ≤ x4 → K M) ∧ (¬ x1 ≤ x4 → (vp_in (((32 : Int32) * x2) + x4) 3840) ∧ (((iV M 140 (((32 : Int32) * x2) + x4).toNatClampNeg) = 0 → (vp_in x4 4100) ∧ ∀ M3, SH M3 → M3 = sm_wI M 145 x4.toNatClampNeg ((0 : Int32) &&& 1) → sm_w 202 (123, [some (.ref 116), some (.int (x1)), some (.int (x2)), none, some (.int (x4 + (1 : Int32))), none, none], []) M3 (rV K)) ∧ (¬ (iV M 140 (((32 : Int32) * x2) + x4).toNatClampNeg) = 0 → ((x4 < (iV M 116 33) → (vp_in x4 4100) ∧ ∀ M6, SH M6 → M6 = sm_wI M 145 x4.toNatClampNeg ((0 : Int32) &&& 1) → sm_w 202 (123, [some (.ref 116), some (.int (x1)), some (.int (x2)), none, some (.int (x4 + (1 : Int32))), none, none], []) M6 (rV K)) ∧ (¬ x4 < (iV M 116 33) → (((x1 - x4) < (iV M 116 34) → (vp_in x4 4100) ∧ ∀ M9, SH M9 → M9 = sm_wI M 145 x4.toNatClampNeg ((0 : Int32) &&& 1) → sm_w 202 (123, [some (.ref 116), some (.int (x1)), some (.int (x2)), none, some (.int (x4 + (1 : Int32))), none, none], []) M9 (rV K)) ∧ (¬ (x1 - x4) < (iV M 116 34) → (vp_in x4 4100) ∧ ∀ M12, SH M12 → M12 = sm_wI M 145 x4.toNatClampNeg ((1 : Int32) &&& 1) → sm_w 202 (123, [some (.ref 116), some (.int (x1)), some (.int (x2)), none, some (.int (x4 + (1 : Int32))), none, none], []) M12 (rV K)))))))))) : sm_w 202 (123, [some (.ref 116), some (.int (x1)), some (.int (x2)), none, some (.int (x4)), none, none], []) M (rV K) := by
  refine sm_w.run t202 sr202 73 3 (M2 := M) (f2 := (if x1 ≤ x4 then 182 else 129, [some (.ref 116), some (.int (x1)), some (.int (x2)), none, some (.int (x4)), none, none], [])) rfl ⟨trivial, trivial, trivial, trivial⟩ ?_
  refine sm_w.ite (fun hc => ?_) (fun hc => ?_)
  · have h := h.1 hc
    exact sm_w.end t202 sr202 104 (o := .returned none) (M2 := M) rfl trivial (by decide) (⟨rfl, h⟩)
  · have h := h.2 hc
    refine sm_w.run t202 sr202 76 2 (M2 := M) (f2 := (133, [some (.ref 116), some (.int (x1)), some (.int (x2)), none, some (.int (x4)), none, none], [va_rf (sm_rv M 116 53)])) rfl ⟨trivial, sm_K.g (k_116 hS) (sm_sh.rf _), trivial⟩ ?_
    refine sm_w.fld (r_116_53 hS) ?_
    refine sm_w.run t202 sr202 78 3 (M2 := M) (f2 := (139, [some (.ref 116), some (.int (x1)), some (.int (x2)), none, some (.int (x4)), none, none], [va_rf (sm_rv M 116 42), .int (x4), .ref 145])) rfl ⟨trivial, trivial, sm_K.g (k_116 hS) (sm_sh.rf _), trivial⟩ ?_
    refine sm_w.fld (r_116_42 hS) ?_
    obtain ⟨c1, h⟩ := h
    refine sm_w.run t202 sr202 81 7 (M2 := M) (f2 := (if (iV M 140 (((32 : Int32) * x2) + x4).toNatClampNeg) = 0 then 174 else 150, [some (.ref 116), some (.int (x1)), some (.int (x2)), none, some (.int (x4)), none, none], [.int (x4), .ref 145])) rfl ⟨trivial, trivial, trivial, trivial, trivial, sm_K.a2 (k_140 hS) (l_140 hS) c1, trivial, trivial⟩ ?_
    refine sm_w.ite (fun hc => ?_) (fun hc => ?_)
    · have h := h.1 hc
      obtain ⟨c2, h⟩ := h
      refine sm_w.run t202 sr202 100 2 (M2 := sm_wI M 145 x4.toNatClampNeg ((0 : Int32) &&& 1)) (f2 := (176, [some (.ref 116), some (.int (x1)), some (.int (x2)), none, some (.int (x4)), none, none], [])) rfl ⟨trivial, sm_K.s2 (k_145 hS) (l_145 hS) c2, trivial⟩ ?_
      have hS4 : SH (sm_wI M 145 x4.toNatClampNeg ((0 : Int32) &&& 1)) := SH.wI hS _ _ _
      have h := h _ hS4 rfl
      generalize sm_wI M 145 x4.toNatClampNeg ((0 : Int32) &&& 1) = M3 at h hS4 ⊢
      refine sm_w.run t202 sr202 102 2 (M2 := M3) (f2 := (123, [some (.ref 116), some (.int (x1)), some (.int (x2)), none, some (.int (x4 + (1 : Int32))), none, none], [])) rfl ⟨(Nat.le_of_ble_eq_true rfl), trivial, trivial⟩ ?_
      exact h
    · have h := h.2 hc
      refine sm_w.run t202 sr202 88 4 (M2 := M) (f2 := (if x4 < (iV M 116 33) then 174 else 159, [some (.ref 116), some (.int (x1)), some (.int (x2)), none, some (.int (x4)), none, none], [.int (x4), .ref 145])) rfl ⟨trivial, trivial, sm_K.g (k_116 hS) (sm_sh.rf _), trivial, trivial⟩ ?_
      refine sm_w.ite (fun hc => ?_) (fun hc => ?_)
      · have h := h.1 hc
        obtain ⟨c5, h⟩ := h
        refine sm_w.run t202 sr202 100 2 (M2 := sm_wI M 145 x4.toNatClampNeg ((0 : Int32) &&& 1)) (f2 := (176, [some (.ref 116), some (.int (x1)), some (.int (x2)), none, some (.int (x4)), none, none], [])) rfl ⟨trivial, sm_K.s2 (k_145 hS) (l_145 hS) c5, trivial⟩ ?_
        have hS7 : SH (sm_wI M 145 x4.toNatClampNeg ((0 : Int32) &&& 1)) := SH.wI hS _ _ _
        have h := h _ hS7 rfl
        generalize sm_wI M 145 x4.toNatClampNeg ((0 : Int32) &&& 1) = M6 at h hS7 ⊢
        refine sm_w.run t202 sr202 102 2 (M2 := M6) (f2 := (123, [some (.ref 116), some (.int (x1)), some (.int (x2)), none, some (.int (x4 + (1 : Int32))), none, none], [])) rfl ⟨(Nat.le_of_ble_eq_true rfl), trivial, trivial⟩ ?_
        exact h
      · have h := h.2 hc
        refine sm_w.run t202 sr202 92 6 (M2 := M) (f2 := (if (x1 - x4) < (iV M 116 34) then 174 else 170, [some (.ref 116), some (.int (x1)), some (.int (x2)), none, some (.int (x4)), none, none], [.int (x4), .ref 145])) rfl ⟨trivial, trivial, trivial, trivial, sm_K.g (k_116 hS) (sm_sh.rf _), trivial, trivial⟩ ?_
        refine sm_w.ite (fun hc => ?_) (fun hc => ?_)
        · have h := h.1 hc
          obtain ⟨c8, h⟩ := h
          refine sm_w.run t202 sr202 100 2 (M2 := sm_wI M 145 x4.toNatClampNeg ((0 : Int32) &&& 1)) (f2 := (176, [some (.ref 116), some (.int (x1)), some (.int (x2)), none, some (.int (x4)), none, none], [])) rfl ⟨trivial, sm_K.s2 (k_145 hS) (l_145 hS) c8, trivial⟩ ?_
          have hS10 : SH (sm_wI M 145 x4.toNatClampNeg ((0 : Int32) &&& 1)) := SH.wI hS _ _ _
          have h := h _ hS10 rfl
          generalize sm_wI M 145 x4.toNatClampNeg ((0 : Int32) &&& 1) = M9 at h hS10 ⊢
          refine sm_w.run t202 sr202 102 2 (M2 := M9) (f2 := (123, [some (.ref 116), some (.int (x1)), some (.int (x2)), none, some (.int (x4 + (1 : Int32))), none, none], [])) rfl ⟨(Nat.le_of_ble_eq_true rfl), trivial, trivial⟩ ?_
          exact h
        · have h := h.2 hc
          refine sm_w.run t202 sr202 98 2 (M2 := M) (f2 := (175, [some (.ref 116), some (.int (x1)), some (.int (x2)), none, some (.int (x4)), none, none], [.int ((1 : Int32)), .int (x4), .ref 145])) rfl ⟨trivial, trivial, trivial⟩ ?_
          obtain ⟨c11, h⟩ := h
          refine sm_w.run t202 sr202 101 1 (M2 := sm_wI M 145 x4.toNatClampNeg ((1 : Int32) &&& 1)) (f2 := (176, [some (.ref 116), some (.int (x1)), some (.int (x2)), none, some (.int (x4)), none, none], [])) rfl ⟨sm_K.s2 (k_145 hS) (l_145 hS) c11, trivial⟩ ?_
          have hS13 : SH (sm_wI M 145 x4.toNatClampNeg ((1 : Int32) &&& 1)) := SH.wI hS _ _ _
          have h := h _ hS13 rfl
          generalize sm_wI M 145 x4.toNatClampNeg ((1 : Int32) &&& 1) = M12 at h hS13 ⊢
          refine sm_w.run t202 sr202 102 2 (M2 := M12) (f2 := (123, [some (.ref 116), some (.int (x1)), some (.int (x2)), none, some (.int (x4 + (1 : Int32))), none, none], [])) rfl ⟨(Nat.le_of_ble_eq_true rfl), trivial, trivial⟩ ?_
          exact h
theorem g202_5 {M : sm_M} {x1 : Int32} {x2 : Int32} {K : sm_M → Prop} (hS : SH M)  (h : (((x1 + (2 : Int32)) < x2 → sm_w 202 (213, [some (.ref 116), some (.int (x1)), some (.int ((0 : Int32))), none, none, none, none], []) M (rV K)) ∧ (¬ (x1 + (2 : Int32)) < x2 → (vp_in x2 4100) ∧ ∀ M2, SH M2 → M2 = sm_wI M 144 x2.toNatClampNeg (0 : Int32) → sm_w 202 (191, [some (.ref 116), some (.int (x1)), some (.int (x2 + (1 : Int32))), none, none, none, none], []) M2 (rV K)))) : sm_w 202 (191, [some (.ref 116), some (.int (x1)), some (.int (x2)), none, none, none, none], []) M (rV K) := by
  refine sm_w.run t202 sr202 109 5 (M2 := M) (f2 := (if (x1 + (2 : Int32)) < x2 then 211 else 198, [some (.ref 116), some (.int (x1)), some (.int (x2)), none, none, none, none], [])) rfl ⟨trivial, trivial, trivial, trivial, trivial, trivial⟩ ?_
  refine sm_w.ite (fun hc => ?_) (fun hc => ?_)
  · have h := h.1 hc
    refine sm_w.run t202 sr202 121 2 (M2 := M) (f2 := (213, [some (.ref 116), some (.int (x1)), some (.int ((0 : Int32))), none, none, none, none], [])) rfl ⟨trivial, (Nat.le_of_ble_eq_true rfl), trivial⟩ ?_
    exact h
  · have h := h.2 hc
    refine sm_w.run t202 sr202 114 2 (M2 := M) (f2 := (202, [some (.ref 116), some (.int (x1)), some (.int (x2)), none, none, none, none], [va_rf (sm_rv M 116 52)])) rfl ⟨trivial, sm_K.g (k_116 hS) (sm_sh.rf _), trivial⟩ ?_
    refine sm_w.fld (r_116_52 hS) ?_
    obtain ⟨c1, h⟩ := h
    refine sm_w.run t202 sr202 116 3 (M2 := sm_wI M 144 x2.toNatClampNeg (0 : Int32)) (f2 := (205, [some (.ref 116), some (.int (x1)), some (.int (x2)), none, none, none, none], [])) rfl ⟨trivial, trivial, sm_K.s2 (k_144 hS) (l_144 hS) c1, trivial⟩ ?_
    have hS3 : SH (sm_wI M 144 x2.toNatClampNeg (0 : Int32)) := SH.wI hS _ _ _
    have h := h _ hS3 rfl
    generalize sm_wI M 144 x2.toNatClampNeg (0 : Int32) = M2 at h hS3 ⊢
    refine sm_w.run t202 sr202 119 2 (M2 := M2) (f2 := (191, [some (.ref 116), some (.int (x1)), some (.int (x2 + (1 : Int32))), none, none, none, none], [])) rfl ⟨(Nat.le_of_ble_eq_true rfl), trivial, trivial⟩ ?_
    exact h
theorem g202_6 {M : sm_M} {x1 : Int32} {x2 : Int32} {K : sm_M → Prop} (hS : SH M)  (h : (((iV M 116 43) ≤ x2 → sm_w 202 (380, [some (.ref 116), some (.int (x1)), some (.int ((1 : Int32))), none, none, none, none], []) M (rV K)) ∧ (¬ (iV M 116 43) ≤ x2 → (vp_in x2 600) ∧ sm_w 202 (231, [some (.ref 116), some (.int (x1)), some (.int (x2)), some (.int (iV M 136 x2.toNatClampNeg)), some (.int ((0 : Int32))), none, none], []) M (rV K)))) : sm_w 202 (213, [some (.ref 116), some (.int (x1)), some (.int (x2)), none, none, none, none], []) M (rV K) := by
  refine sm_w.run t202 sr202 123 4 (M2 := M) (f2 := (if (iV M 116 43) ≤ x2 then 378 else 221, [some (.ref 116), some (.int (x1)), some (.int (x2)), none, none, none, none], [])) rfl ⟨trivial, trivial, sm_K.g (k_116 hS) (sm_sh.rf _), trivial, trivial⟩ ?_
  refine sm_w.ite (fun hc => ?_) (fun hc => ?_)
  · have h := h.1 hc
    refine sm_w.run t202 sr202 214 2 (M2 := M) (f2 := (380, [some (.ref 116), some (.int (x1)), some (.int ((1 : Int32))), none, none, none, none], [])) rfl ⟨trivial, (Nat.le_of_ble_eq_true rfl), trivial⟩ ?_
    exact h
  · have h := h.2 hc
    refine sm_w.run t202 sr202 127 2 (M2 := M) (f2 := (225, [some (.ref 116), some (.int (x1)), some (.int (x2)), none, none, none, none], [va_rf (sm_rv M 116 38)])) rfl ⟨trivial, sm_K.g (k_116 hS) (sm_sh.rf _), trivial⟩ ?_
    refine sm_w.fld (r_116_38 hS) ?_
    obtain ⟨c1, h⟩ := h
    refine sm_w.run t202 sr202 129 5 (M2 := M) (f2 := (231, [some (.ref 116), some (.int (x1)), some (.int (x2)), some (.int (iV M 136 x2.toNatClampNeg)), some (.int ((0 : Int32))), none, none], [])) rfl ⟨trivial, sm_K.a2 (k_136 hS) (l_136 hS) c1, (Nat.le_of_ble_eq_true rfl), trivial, (Nat.le_of_ble_eq_true rfl), trivial⟩ ?_
    exact h
theorem g202_7 {M : sm_M} {x1 : Int32} {x2 : Int32} {x3 : Int32} {x4 : Int32} {K : sm_M → Prop} (hS : SH M)  (h : (((x1 + (2 : Int32)) < (x4 + x3) → sm_w 202 (213, [some (.ref 116), some (.int (x1)), some (.int (x2 + (1 : Int32))), none, none, none, none], []) M (rV K)) ∧ (¬ (x1 + (2 : Int32)) < (x4 + x3) → sm_w 202 (247, [some (.ref 116), some (.int (x1)), some (.int (x2)), some (.int (x3)), some (.int (x4)), some (.int ((1 : Int32))), some (.int ((0 : Int32)))], []) M (rV K)))) : sm_w 202 (231, [some (.ref 116), some (.int (x1)), some (.int (x2)), some (.int (x3)), some (.int (x4)), none, none], []) M (rV K) := by
  refine sm_w.run t202 sr202 134 7 (M2 := M) (f2 := (if (x1 + (2 : Int32)) < (x4 + x3) then 372 else 241, [some (.ref 116), some (.int (x1)), some (.int (x2)), some (.int (x3)), some (.int (x4)), none, none], [])) rfl ⟨trivial, trivial, trivial, trivial, trivial, trivial, trivial, trivial⟩ ?_
  refine sm_w.ite (fun hc => ?_) (fun hc => ?_)
  · have h := h.1 hc
    refine sm_w.run t202 sr202 212 2 (M2 := M) (f2 := (213, [some (.ref 116), some (.int (x1)), some (.int (x2 + (1 : Int32))), some (.int (x3)), some (.int (x4)), none, none], [])) rfl ⟨(Nat.le_of_ble_eq_true rfl), trivial, trivial⟩ ?_
    refine sm_w.weak (ls := [some (.ref 116), some (.int (x1)), some (.int (x2 + (1 : Int32))), none, none, none, none]) (sm_leI [true, true, true, false, false, false, false] rfl) ?_
    exact h
  · have h := h.2 hc
    refine sm_w.run t202 sr202 141 4 (M2 := M) (f2 := (247, [some (.ref 116), some (.int (x1)), some (.int (x2)), some (.int (x3)), some (.int (x4)), some (.int ((1 : Int32))), some (.int ((0 : Int32)))], [])) rfl ⟨trivial, (Nat.le_of_ble_eq_true rfl), trivial, (Nat.le_of_ble_eq_true rfl), trivial⟩ ?_
    exact h
theorem g202_8 {M : sm_M} {x1 : Int32} {x2 : Int32} {x3 : Int32} {x4 : Int32} {x5 : Int32} {x6 : Int32} {K : sm_M → Prop} (hS : SH M)  (h : ((x3 ≤ x6 → ((x5 = 0 → sm_w 202 (231, [some (.ref 116), some (.int (x1)), some (.int (x2)), some (.int (x3)), some (.int (x4 + (1 : Int32))), none, none], []) M (rV K)) ∧ (¬ x5 = 0 → sm_w 202 (307, [some (.ref 116), some (.int (x1)), some (.int (x2)), some (.int (x3)), some (.int (x4)), none, some (.int ((0 : Int32)))], []) M (rV K)))) ∧ (¬ x3 ≤ x6 → ((x5 = 0 → ((x5 = 0 → sm_w 202 (231, [some (.ref 116), some (.int (x1)), some (.int (x2)), some (.int (x3)), some (.int (x4 + (1 : Int32))), none, none], []) M (rV K)) ∧ (¬ x5 = 0 → sm_w 202 (307, [some (.ref 116), some (.int (x1)), some (.int (x2)), some (.int (x3)), some (.int (x4)), none, some (.int ((0 : Int32)))], []) M (rV K)))) ∧ (¬ x5 = 0 → (vp_in (((16 : Int32) * x2) + x6) 9600) ∧ (vp_in (x4 + x6) 4100) ∧ (((iV M 135 (((16 : Int32) * x2) + x6).toNatClampNeg) = (iV M 143 (x4 + x6).toNatClampNeg) → sm_w 202 (247, [some (.ref 116), some (.int (x1)), some (.int (x2)), some (.int (x3)), some (.int (x4)), some (.int ((1 : Int32))), some (.int (x6 + (1 : Int32)))], []) M (rV K)) ∧ (¬ (iV M 135 (((16 : Int32) * x2) + x6).toNatClampNeg) = (iV M 143 (x4 + x6).toNatClampNeg) → sm_w 202 (247, [some (.ref 116), some (.int (x1)), some (.int (x2)), some (.int (x3)), some (.int (x4)), some (.int ((0 : Int32))), some (.int (x6 + (1 : Int32)))], []) M (rV K)))))))) : sm_w 202 (247, [some (.ref 116), some (.int (x1)), some (.int (x2)), some (.int (x3)), some (.int (x4)), some (.int (x5)), some (.int (x6))], []) M (rV K) := by
  refine sm_w.run t202 sr202 145 3 (M2 := M) (f2 := (if x3 ≤ x6 then 296 else 253, [some (.ref 116), some (.int (x1)), some (.int (x2)), some (.int (x3)), some (.int (x4)), some (.int (x5)), some (.int (x6))], [])) rfl ⟨trivial, trivial, trivial, trivial⟩ ?_
  refine sm_w.ite (fun hc => ?_) (fun hc => ?_)
  · have h := h.1 hc
    refine sm_w.run t202 sr202 171 2 (M2 := M) (f2 := (if x5 = 0 then 301 else 304, [some (.ref 116), some (.int (x1)), some (.int (x2)), some (.int (x3)), some (.int (x4)), some (.int (x5)), some (.int (x6))], [])) rfl ⟨trivial, trivial, trivial⟩ ?_
    refine sm_w.ite (fun hc => ?_) (fun hc => ?_)
    · have h := h.1 hc
      refine sm_w.run t202 sr202 173 1 (M2 := M) (f2 := (366, [some (.ref 116), some (.int (x1)), some (.int (x2)), some (.int (x3)), some (.int (x4)), some (.int (x5)), some (.int (x6))], [])) rfl ⟨trivial, trivial⟩ ?_
      refine sm_w.run t202 sr202 210 2 (M2 := M) (f2 := (231, [some (.ref 116), some (.int (x1)), some (.int (x2)), some (.int (x3)), some (.int (x4 + (1 : Int32))), some (.int (x5)), some (.int (x6))], [])) rfl ⟨(Nat.le_of_ble_eq_true rfl), trivial, trivial⟩ ?_
      refine sm_w.weak (ls := [some (.ref 116), some (.int (x1)), some (.int (x2)), some (.int (x3)), some (.int (x4 + (1 : Int32))), none, none]) (sm_leI [true, true, true, true, true, false, false] rfl) ?_
      exact h
    · have h := h.2 hc
      refine sm_w.run t202 sr202 174 2 (M2 := M) (f2 := (307, [some (.ref 116), some (.int (x1)), some (.int (x2)), some (.int (x3)), some (.int (x4)), some (.int (x5)), some (.int ((0 : Int32)))], [])) rfl ⟨trivial, (Nat.le_of_ble_eq_true rfl), trivial⟩ ?_
      refine sm_w.weak (ls := [some (.ref 116), some (.int (x1)), some (.int (x2)), some (.int (x3)), some (.int (x4)), none, some (.int ((0 : Int32)))]) (sm_leI [true, true, true, true, true, false, true] rfl) ?_
      exact h
  · have h := h.2 hc
    refine sm_w.run t202 sr202 148 2 (M2 := M) (f2 := (if x5 = 0 then 296 else 258, [some (.ref 116), some (.int (x1)), some (.int (x2)), some (.int (x3)), some (.int (x4)), some (.int (x5)), some (.int (x6))], [])) rfl ⟨trivial, trivial, trivial⟩ ?_
    refine sm_w.ite (fun hc => ?_) (fun hc => ?_)
    · have h := h.1 hc
      refine sm_w.run t202 sr202 171 2 (M2 := M) (f2 := (if x5 = 0 then 301 else 304, [some (.ref 116), some (.int (x1)), some (.int (x2)), some (.int (x3)), some (.int (x4)), some (.int (x5)), some (.int (x6))], [])) rfl ⟨trivial, trivial, trivial⟩ ?_
      refine sm_w.ite (fun hc => ?_) (fun hc => ?_)
      · have h := h.1 hc
        refine sm_w.run t202 sr202 173 1 (M2 := M) (f2 := (366, [some (.ref 116), some (.int (x1)), some (.int (x2)), some (.int (x3)), some (.int (x4)), some (.int (x5)), some (.int (x6))], [])) rfl ⟨trivial, trivial⟩ ?_
        refine sm_w.run t202 sr202 210 2 (M2 := M) (f2 := (231, [some (.ref 116), some (.int (x1)), some (.int (x2)), some (.int (x3)), some (.int (x4 + (1 : Int32))), some (.int (x5)), some (.int (x6))], [])) rfl ⟨(Nat.le_of_ble_eq_true rfl), trivial, trivial⟩ ?_
        refine sm_w.weak (ls := [some (.ref 116), some (.int (x1)), some (.int (x2)), some (.int (x3)), some (.int (x4 + (1 : Int32))), none, none]) (sm_leI [true, true, true, true, true, false, false] rfl) ?_
        exact h
      · have h := h.2 hc
        refine sm_w.run t202 sr202 174 2 (M2 := M) (f2 := (307, [some (.ref 116), some (.int (x1)), some (.int (x2)), some (.int (x3)), some (.int (x4)), some (.int (x5)), some (.int ((0 : Int32)))], [])) rfl ⟨trivial, (Nat.le_of_ble_eq_true rfl), trivial⟩ ?_
        refine sm_w.weak (ls := [some (.ref 116), some (.int (x1)), some (.int (x2)), some (.int (x3)), some (.int (x4)), none, some (.int ((0 : Int32)))]) (sm_leI [true, true, true, true, true, false, true] rfl) ?_
        exact h
    · have h := h.2 hc
      refine sm_w.run t202 sr202 150 2 (M2 := M) (f2 := (262, [some (.ref 116), some (.int (x1)), some (.int (x2)), some (.int (x3)), some (.int (x4)), some (.int (x5)), some (.int (x6))], [va_rf (sm_rv M 116 37)])) rfl ⟨trivial, sm_K.g (k_116 hS) (sm_sh.rf _), trivial⟩ ?_
      refine sm_w.fld (r_116_37 hS) ?_
      obtain ⟨c1, h⟩ := h
      refine sm_w.run t202 sr202 152 8 (M2 := M) (f2 := (274, [some (.ref 116), some (.int (x1)), some (.int (x2)), some (.int (x3)), some (.int (x4)), some (.int (x5)), some (.int (x6))], [va_rf (sm_rv M 116 51), .int (iV M 135 (((16 : Int32) * x2) + x6).toNatClampNeg)])) rfl ⟨trivial, trivial, trivial, trivial, trivial, sm_K.a2 (k_135 hS) (l_135 hS) c1, trivial, sm_K.g (k_116 hS) (sm_sh.rf _), trivial⟩ ?_
      refine sm_w.fld (r_116_51 hS) ?_
      obtain ⟨c2, h⟩ := h
      refine sm_w.run t202 sr202 160 5 (M2 := M) (f2 := (if (iV M 135 (((16 : Int32) * x2) + x6).toNatClampNeg) = (iV M 143 (x4 + x6).toNatClampNeg) then 283 else 287, [some (.ref 116), some (.int (x1)), some (.int (x2)), some (.int (x3)), some (.int (x4)), some (.int (x5)), some (.int (x6))], [])) rfl ⟨trivial, trivial, trivial, sm_K.a2 (k_143 hS) (l_143 hS) c2, trivial, trivial⟩ ?_
      refine sm_w.ite (fun hc => ?_) (fun hc => ?_)
      · have h := h.1 hc
        refine sm_w.run t202 sr202 165 2 (M2 := M) (f2 := (288, [some (.ref 116), some (.int (x1)), some (.int (x2)), some (.int (x3)), some (.int (x4)), some (.int (x5)), some (.int (x6))], [.int ((1 : Int32))])) rfl ⟨trivial, trivial, trivial⟩ ?_
        refine sm_w.run t202 sr202 168 3 (M2 := M) (f2 := (247, [some (.ref 116), some (.int (x1)), some (.int (x2)), some (.int (x3)), some (.int (x4)), some (.int ((1 : Int32))), some (.int (x6 + (1 : Int32)))], [])) rfl ⟨(Nat.le_of_ble_eq_true rfl), (Nat.le_of_ble_eq_true rfl), trivial, trivial⟩ ?_
        exact h
      · have h := h.2 hc
        refine sm_w.run t202 sr202 167 4 (M2 := M) (f2 := (247, [some (.ref 116), some (.int (x1)), some (.int (x2)), some (.int (x3)), some (.int (x4)), some (.int ((0 : Int32))), some (.int (x6 + (1 : Int32)))], [])) rfl ⟨trivial, (Nat.le_of_ble_eq_true rfl), (Nat.le_of_ble_eq_true rfl), trivial, trivial⟩ ?_
        exact h
theorem g202_9 {M : sm_M} {x1 : Int32} {x2 : Int32} {x3 : Int32} {x4 : Int32} {x6 : Int32} {K : sm_M → Prop} (hS : SH M)  (h : ((x3 < x6 → sm_w 202 (231, [some (.ref 116), some (.int (x1)), some (.int (x2)), some (.int (x3)), some (.int (x4 + (1 : Int32))), none, none], []) M (rV K)) ∧ (¬ x3 < x6 → (vp_in (((17 : Int32) * x2) + x6) 10200) ∧ (vp_in (x4 + x6) 4100) ∧ (((iV M 137 (((17 : Int32) * x2) + x6).toNatClampNeg) ≤ (iV M 144 (x4 + x6).toNatClampNeg) → sm_w 202 (307, [some (.ref 116), some (.int (x1)), some (.int (x2)), some (.int (x3)), some (.int (x4)), none, some (.int (x6 + (1 : Int32)))], []) M (rV K)) ∧ (¬ (iV M 137 (((17 : Int32) * x2) + x6).toNatClampNeg) ≤ (iV M 144 (x4 + x6).toNatClampNeg) → (vp_in (((17 : Int32) * x2) + x6) 10200) ∧ (vp_in (x4 + x6) 4100) ∧ ∀ M5, SH M5 → M5 = sm_wI M 144 (x4 + x6).toNatClampNeg (iV M 137 (((17 : Int32) * x2) + x6).toNatClampNeg) → sm_w 202 (307, [some (.ref 116), some (.int (x1)), some (.int (x2)), some (.int (x3)), some (.int (x4)), none, some (.int (x6 + (1 : Int32)))], []) M5 (rV K)))))) : sm_w 202 (307, [some (.ref 116), some (.int (x1)), some (.int (x2)), some (.int (x3)), some (.int (x4)), none, some (.int (x6))], []) M (rV K) := by
  refine sm_w.run t202 sr202 176 3 (M2 := M) (f2 := (if x3 < x6 then 366 else 313, [some (.ref 116), some (.int (x1)), some (.int (x2)), some (.int (x3)), some (.int (x4)), none, some (.int (x6))], [])) rfl ⟨trivial, trivial, trivial, trivial⟩ ?_
  refine sm_w.ite (fun hc => ?_) (fun hc => ?_)
  · have h := h.1 hc
    refine sm_w.run t202 sr202 210 2 (M2 := M) (f2 := (231, [some (.ref 116), some (.int (x1)), some (.int (x2)), some (.int (x3)), some (.int (x4 + (1 : Int32))), none, some (.int (x6))], [])) rfl ⟨(Nat.le_of_ble_eq_true rfl), trivial, trivial⟩ ?_
    refine sm_w.weak (ls := [some (.ref 116), some (.int (x1)), some (.int (x2)), some (.int (x3)), some (.int (x4 + (1 : Int32))), none, none]) (sm_leI [true, true, true, true, true, false, false] rfl) ?_
    exact h
  · have h := h.2 hc
    refine sm_w.run t202 sr202 179 2 (M2 := M) (f2 := (317, [some (.ref 116), some (.int (x1)), some (.int (x2)), some (.int (x3)), some (.int (x4)), none, some (.int (x6))], [va_rf (sm_rv M 116 39)])) rfl ⟨trivial, sm_K.g (k_116 hS) (sm_sh.rf _), trivial⟩ ?_
    refine sm_w.fld (r_116_39 hS) ?_
    obtain ⟨c1, h⟩ := h
    refine sm_w.run t202 sr202 181 8 (M2 := M) (f2 := (329, [some (.ref 116), some (.int (x1)), some (.int (x2)), some (.int (x3)), some (.int (x4)), none, some (.int (x6))], [va_rf (sm_rv M 116 52), .int (iV M 137 (((17 : Int32) * x2) + x6).toNatClampNeg)])) rfl ⟨trivial, trivial, trivial, trivial, trivial, sm_K.a2 (k_137 hS) (l_137 hS) c1, trivial, sm_K.g (k_116 hS) (sm_sh.rf _), trivial⟩ ?_
    refine sm_w.fld (r_116_52 hS) ?_
    obtain ⟨c2, h⟩ := h
    refine sm_w.run t202 sr202 189 5 (M2 := M) (f2 := (if (iV M 137 (((17 : Int32) * x2) + x6).toNatClampNeg) ≤ (iV M 144 (x4 + x6).toNatClampNeg) then 360 else 338, [some (.ref 116), some (.int (x1)), some (.int (x2)), some (.int (x3)), some (.int (x4)), none, some (.int (x6))], [])) rfl ⟨trivial, trivial, trivial, sm_K.a2 (k_144 hS) (l_144 hS) c2, trivial, trivial⟩ ?_
    refine sm_w.ite (fun hc => ?_) (fun hc => ?_)
    · have h := h.1 hc
      refine sm_w.run t202 sr202 208 2 (M2 := M) (f2 := (307, [some (.ref 116), some (.int (x1)), some (.int (x2)), some (.int (x3)), some (.int (x4)), none, some (.int (x6 + (1 : Int32)))], [])) rfl ⟨(Nat.le_of_ble_eq_true rfl), trivial, trivial⟩ ?_
      exact h
    · have h := h.2 hc
      refine sm_w.run t202 sr202 194 2 (M2 := M) (f2 := (342, [some (.ref 116), some (.int (x1)), some (.int (x2)), some (.int (x3)), some (.int (x4)), none, some (.int (x6))], [va_rf (sm_rv M 116 52)])) rfl ⟨trivial, sm_K.g (k_116 hS) (sm_sh.rf _), trivial⟩ ?_
      refine sm_w.fld (r_116_52 hS) ?_
      refine sm_w.run t202 sr202 196 5 (M2 := M) (f2 := (351, [some (.ref 116), some (.int (x1)), some (.int (x2)), some (.int (x3)), some (.int (x4)), none, some (.int (x6))], [va_rf (sm_rv M 116 39), .int (x4 + x6), .ref 144])) rfl ⟨trivial, trivial, trivial, trivial, sm_K.g (k_116 hS) (sm_sh.rf _), trivial⟩ ?_
      refine sm_w.fld (r_116_39 hS) ?_
      obtain ⟨c3, c4, h⟩ := h
      refine sm_w.run t202 sr202 201 7 (M2 := sm_wI M 144 (x4 + x6).toNatClampNeg (iV M 137 (((17 : Int32) * x2) + x6).toNatClampNeg)) (f2 := (360, [some (.ref 116), some (.int (x1)), some (.int (x2)), some (.int (x3)), some (.int (x4)), none, some (.int (x6))], [])) rfl ⟨trivial, trivial, trivial, trivial, trivial, sm_K.a2 (k_137 hS) (l_137 hS) c3, sm_K.s2 (k_144 hS) (l_144 hS) c4, trivial⟩ ?_
      have hS6 : SH (sm_wI M 144 (x4 + x6).toNatClampNeg (iV M 137 (((17 : Int32) * x2) + x6).toNatClampNeg)) := SH.wI hS _ _ _
      have h := h _ hS6 rfl
      generalize sm_wI M 144 (x4 + x6).toNatClampNeg (iV M 137 (((17 : Int32) * x2) + x6).toNatClampNeg) = M5 at h hS6 ⊢
      refine sm_w.run t202 sr202 208 2 (M2 := M5) (f2 := (307, [some (.ref 116), some (.int (x1)), some (.int (x2)), some (.int (x3)), some (.int (x4)), none, some (.int (x6 + (1 : Int32)))], [])) rfl ⟨(Nat.le_of_ble_eq_true rfl), trivial, trivial⟩ ?_
      exact h
theorem g202_10 {M : sm_M} {x1 : Int32} {x2 : Int32} {K : sm_M → Prop} (hS : SH M)  (h : ((x1 ≤ x2 → K M) ∧ (¬ x1 ≤ x2 → (vp_in (x2 + (1 : Int32)) 4100) ∧ ((((iV M 144 (x2 + (1 : Int32)).toNatClampNeg) - (iV M 144 (x2 + (1 : Int32)).toNatClampNeg) / (2 : Int32) * (2 : Int32)) = (1 : Int32) → ((x2 < (iV M 116 33) → (vp_in x2 4100) ∧ ∀ M3, SH M3 → M3 = sm_wI M 145 x2.toNatClampNeg ((0 : Int32) &&& 1) → sm_w 202 (380, [some (.ref 116), some (.int (x1)), some (.int (x2 + (1 : Int32))), none, none, none, none], []) M3 (rV K)) ∧ (¬ x2 < (iV M 116 33) → (((x1 - x2) < (iV M 116 34) → (vp_in x2 4100) ∧ ∀ M6, SH M6 → M6 = sm_wI M 145 x2.toNatClampNeg ((0 : Int32) &&& 1) → sm_w 202 (380, [some (.ref 116), some (.int (x1)), some (.int (x2 + (1 : Int32))), none, none, none, none], []) M6 (rV K)) ∧ (¬ (x1 - x2) < (iV M 116 34) → (vp_in x2 4100) ∧ ∀ M9, SH M9 → M9 = sm_wI M 145 x2.toNatClampNeg ((1 : Int32) &&& 1) → sm_w 202 (380, [some (.ref 116), some (.int (x1)), some (.int (x2 + (1 : Int32))), none, none, none, none], []) M9 (rV K)))))) ∧ (¬ ((iV M 144 (x2 + (1 : Int32)).toNatClampNeg) - (iV M 144 (x2 + (1 : Int32)).toNatClampNeg) / (2 : Int32) * (2 : Int32)) = (1 : Int32) → (vp_in x2 4100) ∧ ∀ M12, SH M12 → M12 = sm_wI M 145 x2.toNatClampNeg ((0 : Int32) &&& 1) → sm_w 202 (380, [some (.ref 116), some (.int (x1)), some (.int (x2 + (1 : Int32))), none, none, none, none], []) M12 (rV K)))))) : sm_w 202 (380, [some (.ref 116), some (.int (x1)), some (.int (x2)), none, none, none, none], []) M (rV K) := by
  refine sm_w.run t202 sr202 216 3 (M2 := M) (f2 := (if x1 ≤ x2 then 434 else 385, [some (.ref 116), some (.int (x1)), some (.int (x2)), none, none, none, none], [])) rfl ⟨trivial, trivial, trivial, trivial⟩ ?_
  refine sm_w.ite (fun hc => ?_) (fun hc => ?_)
  · have h := h.1 hc
    exact sm_w.end t202 sr202 248 (o := .returned none) (M2 := M) rfl trivial (by decide) (⟨rfl, h⟩)
  · have h := h.2 hc
    refine sm_w.run t202 sr202 219 2 (M2 := M) (f2 := (389, [some (.ref 116), some (.int (x1)), some (.int (x2)), none, none, none, none], [va_rf (sm_rv M 116 53)])) rfl ⟨trivial, sm_K.g (k_116 hS) (sm_sh.rf _), trivial⟩ ?_
    refine sm_w.fld (r_116_53 hS) ?_
    refine sm_w.run t202 sr202 221 3 (M2 := M) (f2 := (394, [some (.ref 116), some (.int (x1)), some (.int (x2)), none, none, none, none], [va_rf (sm_rv M 116 52), .int (x2), .ref 145])) rfl ⟨trivial, trivial, sm_K.g (k_116 hS) (sm_sh.rf _), trivial⟩ ?_
    refine sm_w.fld (r_116_52 hS) ?_
    obtain ⟨c1, h⟩ := h
    refine sm_w.run t202 sr202 224 8 (M2 := M) (f2 := (if ((iV M 144 (x2 + (1 : Int32)).toNatClampNeg) - (iV M 144 (x2 + (1 : Int32)).toNatClampNeg) / (2 : Int32) * (2 : Int32)) = (1 : Int32) then 404 else 426, [some (.ref 116), some (.int (x1)), some (.int (x2)), none, none, none, none], [.int (x2), .ref 145])) rfl ⟨trivial, trivial, trivial, sm_K.a2 (k_144 hS) (l_144 hS) c1, trivial, by decide, trivial, trivial, trivial⟩ ?_
    refine sm_w.ite (fun hc => ?_) (fun hc => ?_)
    · have h := h.1 hc
      refine sm_w.run t202 sr202 232 4 (M2 := M) (f2 := (if x2 < (iV M 116 33) then 426 else 412, [some (.ref 116), some (.int (x1)), some (.int (x2)), none, none, none, none], [.int (x2), .ref 145])) rfl ⟨trivial, trivial, sm_K.g (k_116 hS) (sm_sh.rf _), trivial, trivial⟩ ?_
      refine sm_w.ite (fun hc => ?_) (fun hc => ?_)
      · have h := h.1 hc
        obtain ⟨c2, h⟩ := h
        refine sm_w.run t202 sr202 244 2 (M2 := sm_wI M 145 x2.toNatClampNeg ((0 : Int32) &&& 1)) (f2 := (428, [some (.ref 116), some (.int (x1)), some (.int (x2)), none, none, none, none], [])) rfl ⟨trivial, sm_K.s2 (k_145 hS) (l_145 hS) c2, trivial⟩ ?_
        have hS4 : SH (sm_wI M 145 x2.toNatClampNeg ((0 : Int32) &&& 1)) := SH.wI hS _ _ _
        have h := h _ hS4 rfl
        generalize sm_wI M 145 x2.toNatClampNeg ((0 : Int32) &&& 1) = M3 at h hS4 ⊢
        refine sm_w.run t202 sr202 246 2 (M2 := M3) (f2 := (380, [some (.ref 116), some (.int (x1)), some (.int (x2 + (1 : Int32))), none, none, none, none], [])) rfl ⟨(Nat.le_of_ble_eq_true rfl), trivial, trivial⟩ ?_
        exact h
      · have h := h.2 hc
        refine sm_w.run t202 sr202 236 6 (M2 := M) (f2 := (if (x1 - x2) < (iV M 116 34) then 426 else 422, [some (.ref 116), some (.int (x1)), some (.int (x2)), none, none, none, none], [.int (x2), .ref 145])) rfl ⟨trivial, trivial, trivial, trivial, sm_K.g (k_116 hS) (sm_sh.rf _), trivial, trivial⟩ ?_
        refine sm_w.ite (fun hc => ?_) (fun hc => ?_)
        · have h := h.1 hc
          obtain ⟨c5, h⟩ := h
          refine sm_w.run t202 sr202 244 2 (M2 := sm_wI M 145 x2.toNatClampNeg ((0 : Int32) &&& 1)) (f2 := (428, [some (.ref 116), some (.int (x1)), some (.int (x2)), none, none, none, none], [])) rfl ⟨trivial, sm_K.s2 (k_145 hS) (l_145 hS) c5, trivial⟩ ?_
          have hS7 : SH (sm_wI M 145 x2.toNatClampNeg ((0 : Int32) &&& 1)) := SH.wI hS _ _ _
          have h := h _ hS7 rfl
          generalize sm_wI M 145 x2.toNatClampNeg ((0 : Int32) &&& 1) = M6 at h hS7 ⊢
          refine sm_w.run t202 sr202 246 2 (M2 := M6) (f2 := (380, [some (.ref 116), some (.int (x1)), some (.int (x2 + (1 : Int32))), none, none, none, none], [])) rfl ⟨(Nat.le_of_ble_eq_true rfl), trivial, trivial⟩ ?_
          exact h
        · have h := h.2 hc
          refine sm_w.run t202 sr202 242 2 (M2 := M) (f2 := (427, [some (.ref 116), some (.int (x1)), some (.int (x2)), none, none, none, none], [.int ((1 : Int32)), .int (x2), .ref 145])) rfl ⟨trivial, trivial, trivial⟩ ?_
          obtain ⟨c8, h⟩ := h
          refine sm_w.run t202 sr202 245 1 (M2 := sm_wI M 145 x2.toNatClampNeg ((1 : Int32) &&& 1)) (f2 := (428, [some (.ref 116), some (.int (x1)), some (.int (x2)), none, none, none, none], [])) rfl ⟨sm_K.s2 (k_145 hS) (l_145 hS) c8, trivial⟩ ?_
          have hS10 : SH (sm_wI M 145 x2.toNatClampNeg ((1 : Int32) &&& 1)) := SH.wI hS _ _ _
          have h := h _ hS10 rfl
          generalize sm_wI M 145 x2.toNatClampNeg ((1 : Int32) &&& 1) = M9 at h hS10 ⊢
          refine sm_w.run t202 sr202 246 2 (M2 := M9) (f2 := (380, [some (.ref 116), some (.int (x1)), some (.int (x2 + (1 : Int32))), none, none, none, none], [])) rfl ⟨(Nat.le_of_ble_eq_true rfl), trivial, trivial⟩ ?_
          exact h
    · have h := h.2 hc
      obtain ⟨c11, h⟩ := h
      refine sm_w.run t202 sr202 244 2 (M2 := sm_wI M 145 x2.toNatClampNeg ((0 : Int32) &&& 1)) (f2 := (428, [some (.ref 116), some (.int (x1)), some (.int (x2)), none, none, none, none], [])) rfl ⟨trivial, sm_K.s2 (k_145 hS) (l_145 hS) c11, trivial⟩ ?_
      have hS13 : SH (sm_wI M 145 x2.toNatClampNeg ((0 : Int32) &&& 1)) := SH.wI hS _ _ _
      have h := h _ hS13 rfl
      generalize sm_wI M 145 x2.toNatClampNeg ((0 : Int32) &&& 1) = M12 at h hS13 ⊢
      refine sm_w.run t202 sr202 246 2 (M2 := M12) (f2 := (380, [some (.ref 116), some (.int (x1)), some (.int (x2 + (1 : Int32))), none, none, none, none], [])) rfl ⟨(Nat.le_of_ble_eq_true rfl), trivial, trivial⟩ ?_
      exact h
