/-! METHODS by their segments. -/
-- 199 LineSetterModel.findPlaces(Z)V
theorem t199 : sP 199 = (5, sp_199, sh_199) := rfl
theorem sr199 : sm_srt sp_199 = true := by decide +kernel
theorem g199_0 {M : sm_M} {x1 : Int32} {K : sm_M → Prop} (hS : SH M)  (h : sm_w 199 (2, [some (.ref 116), some (.int (x1)), some (.int ((0 : Int32))), none, none], []) M (rV K)) : sm_w 199 (sm_in sP 199 [.ref 116, .int (x1)]) M (rV K) := by
  show sm_w 199 (0, [some (.ref 116), some (.int (x1)), none, none, none], []) M (rV K)
  refine sm_w.run t199 sr199 0 2 (M2 := M) (f2 := (2, [some (.ref 116), some (.int (x1)), some (.int ((0 : Int32))), none, none], [])) rfl ⟨trivial, (Nat.le_of_ble_eq_true rfl), trivial⟩ ?_
  exact h
theorem g199_1 {M : sm_M} {x1 : Int32} {x2 : Int32} {K : sm_M → Prop} (hS : SH M)  (h : (((iV M 116 56) < x2 → sm_w 199 (25, [some (.ref 116), some (.int (x1)), some (.int ((0 : Int32))), none, none], []) M (rV K)) ∧ (¬ (iV M 116 56) < x2 → (vp_in x2 4002) ∧ ∀ M2, SH M2 → M2 = sm_wI M 157 x2.toNatClampNeg ((0 : Int32) &&& 1) → sm_w 199 (2, [some (.ref 116), some (.int (x1)), some (.int (x2 + (1 : Int32))), none, none], []) M2 (rV K)))) : sm_w 199 (2, [some (.ref 116), some (.int (x1)), some (.int (x2)), none, none], []) M (rV K) := by
  refine sm_w.run t199 sr199 2 4 (M2 := M) (f2 := (if (iV M 116 56) < x2 then 23 else 10, [some (.ref 116), some (.int (x1)), some (.int (x2)), none, none], [])) rfl ⟨trivial, trivial, sm_K.g (k_116 hS) (sm_sh.rf _), trivial, trivial⟩ ?_
  refine sm_w.ite (fun hc => ?_) (fun hc => ?_)
  · have h := h.1 hc
    refine sm_w.run t199 sr199 13 2 (M2 := M) (f2 := (25, [some (.ref 116), some (.int (x1)), some (.int ((0 : Int32))), none, none], [])) rfl ⟨trivial, (Nat.le_of_ble_eq_true rfl), trivial⟩ ?_
    exact h
  · have h := h.2 hc
    refine sm_w.run t199 sr199 6 2 (M2 := M) (f2 := (14, [some (.ref 116), some (.int (x1)), some (.int (x2)), none, none], [va_rf (sm_rv M 116 77)])) rfl ⟨trivial, sm_K.g (k_116 hS) (sm_sh.rf _), trivial⟩ ?_
    refine sm_w.fld (r_116_77 hS) ?_
    obtain ⟨c1, h⟩ := h
    refine sm_w.run t199 sr199 8 3 (M2 := sm_wI M 157 x2.toNatClampNeg ((0 : Int32) &&& 1)) (f2 := (17, [some (.ref 116), some (.int (x1)), some (.int (x2)), none, none], [])) rfl ⟨trivial, trivial, sm_K.s2 (k_157 hS) (l_157 hS) c1, trivial⟩ ?_
    have hS3 : SH (sm_wI M 157 x2.toNatClampNeg ((0 : Int32) &&& 1)) := SH.wI hS _ _ _
    have h := h _ hS3 rfl
    generalize sm_wI M 157 x2.toNatClampNeg ((0 : Int32) &&& 1) = M2 at h hS3 ⊢
    refine sm_w.run t199 sr199 11 2 (M2 := M2) (f2 := (2, [some (.ref 116), some (.int (x1)), some (.int (x2 + (1 : Int32))), none, none], [])) rfl ⟨(Nat.le_of_ble_eq_true rfl), trivial, trivial⟩ ?_
    exact h
theorem g199_2 {M : sm_M} {x1 : Int32} {x2 : Int32} {K : sm_M → Prop} (hS : SH M)  (h : (((iV M 116 56) ≤ x2 → K M) ∧ (¬ (iV M 116 56) ≤ x2 → ((x1 = 0 → K M) ∧ (¬ x1 = 0 → (vp_in x2 4001) ∧ (((p200_0 M (iV M 146 x2.toNatClampNeg)) = 0 → sm_w 199 (25, [some (.ref 116), some (.int (x1)), some (.int (x2 + (1 : Int32))), none, none], []) M (rV K)) ∧ (¬ (p200_0 M (iV M 146 x2.toNatClampNeg)) = 0 → sm_w 199 (57, [some (.ref 116), some (.int (x1)), some (.int (x2)), some (.int (x2)), none], []) M (rV K)))))))) : sm_w 199 (25, [some (.ref 116), some (.int (x1)), some (.int (x2)), none, none], []) M (rV K) := by
  refine sm_w.run t199 sr199 15 4 (M2 := M) (f2 := (if (iV M 116 56) ≤ x2 then 147 else 33, [some (.ref 116), some (.int (x1)), some (.int (x2)), none, none], [])) rfl ⟨trivial, trivial, sm_K.g (k_116 hS) (sm_sh.rf _), trivial, trivial⟩ ?_
  refine sm_w.ite (fun hc => ?_) (fun hc => ?_)
  · have h := h.1 hc
    exact sm_w.end t199 sr199 83 (o := .returned none) (M2 := M) rfl trivial (by decide) (⟨rfl, h⟩)
  · have h := h.2 hc
    refine sm_w.run t199 sr199 19 2 (M2 := M) (f2 := (if x1 = 0 then 147 else 37, [some (.ref 116), some (.int (x1)), some (.int (x2)), none, none], [])) rfl ⟨trivial, trivial, trivial⟩ ?_
    refine sm_w.ite (fun hc => ?_) (fun hc => ?_)
    · have h := h.1 hc
      exact sm_w.end t199 sr199 83 (o := .returned none) (M2 := M) rfl trivial (by decide) (⟨rfl, h⟩)
    · have h := h.2 hc
      refine sm_w.run t199 sr199 21 2 (M2 := M) (f2 := (41, [some (.ref 116), some (.int (x1)), some (.int (x2)), none, none], [va_rf (sm_rv M 116 54)])) rfl ⟨trivial, sm_K.g (k_116 hS) (sm_sh.rf _), trivial⟩ ?_
      refine sm_w.fld (r_116_54 hS) ?_
      obtain ⟨c1, h⟩ := h
      refine sm_w.run t199 sr199 23 2 (M2 := M) (f2 := (43, [some (.ref 116), some (.int (x1)), some (.int (x2)), none, none], [.int (iV M 146 x2.toNatClampNeg)])) rfl ⟨trivial, sm_K.a2 (k_146 hS) (l_146 hS) c1, trivial⟩ ?_
      refine sm_w.cI t199 sr199 25 (i := 200) (as := [.int (iV M 146 x2.toNatClampNeg)]) (g := (43, [some (.ref 116), some (.int (x1)), some (.int (x2)), none, none], [])) rfl ⟨(Nat.le_of_ble_eq_true rfl), (Nat.le_of_ble_eq_true rfl)⟩ (Nat.le_of_ble_eq_true rfl) (by decide) (p200_c hS) (fun vz M2 hz => ?_)
      obtain ⟨hz1, hz2⟩ := hz
      subst hz1
      have hz2 := hz2.symm
      subst hz2
      refine sm_w.run t199 sr199 26 1 (M2 := M) (f2 := (if (p200_0 M (iV M 146 x2.toNatClampNeg)) = 0 then 49 else 55, [some (.ref 116), some (.int (x1)), some (.int (x2)), none, none], [])) rfl ⟨trivial, trivial⟩ ?_
      refine sm_w.ite (fun hc => ?_) (fun hc => ?_)
      · have h := h.1 hc
        refine sm_w.run t199 sr199 27 2 (M2 := M) (f2 := (25, [some (.ref 116), some (.int (x1)), some (.int (x2 + (1 : Int32))), none, none], [])) rfl ⟨(Nat.le_of_ble_eq_true rfl), trivial, trivial⟩ ?_
        exact h
      · have h := h.2 hc
        refine sm_w.run t199 sr199 29 2 (M2 := M) (f2 := (57, [some (.ref 116), some (.int (x1)), some (.int (x2)), some (.int (x2)), none], [])) rfl ⟨trivial, (Nat.le_of_ble_eq_true rfl), trivial⟩ ?_
        exact h
theorem g199_3 {M : sm_M} {x1 : Int32} {x2 : Int32} {x3 : Int32} {K : sm_M → Prop} (hS : SH M)  (h : (((iV M 116 56) ≤ x3 → sm_cV 202 [.ref 116, .int (x3 - x2)] M (fun M1 => SH M1 → sm_w 199 (112, [some (.ref 116), some (.int (x1)), some (.int (x2)), some (.int (x3)), some (.int ((1 : Int32)))], []) M1 (rV K))) ∧ (¬ (iV M 116 56) ≤ x3 → (vp_in x3 4001) ∧ (((p200_0 M (iV M 146 x3.toNatClampNeg)) = 0 → sm_cV 202 [.ref 116, .int (x3 - x2)] M (fun M5 => SH M5 → sm_w 199 (112, [some (.ref 116), some (.int (x1)), some (.int (x2)), some (.int (x3)), some (.int ((1 : Int32)))], []) M5 (rV K))) ∧ (¬ (p200_0 M (iV M 146 x3.toNatClampNeg)) = 0 → (vp_in x3 4001) ∧ (vp_in ((x3 - x2) + (1 : Int32)) 4100) ∧ ∀ M10, SH M10 → M10 = sm_wI M 143 ((x3 - x2) + (1 : Int32)).toNatClampNeg (p201_0 M (iV M 146 x3.toNatClampNeg)) → sm_w 199 (57, [some (.ref 116), some (.int (x1)), some (.int (x2)), some (.int (x3 + (1 : Int32))), none], []) M10 (rV K)))))) : sm_w 199 (57, [some (.ref 116), some (.int (x1)), some (.int (x2)), some (.int (x3)), none], []) M (rV K) := by
  refine sm_w.run t199 sr199 31 4 (M2 := M) (f2 := (if (iV M 116 56) ≤ x3 then 102 else 65, [some (.ref 116), some (.int (x1)), some (.int (x2)), some (.int (x3)), none], [])) rfl ⟨trivial, trivial, sm_K.g (k_116 hS) (sm_sh.rf _), trivial, trivial⟩ ?_
  refine sm_w.ite (fun hc => ?_) (fun hc => ?_)
  · have h := h.1 hc
    refine sm_w.run t199 sr199 56 4 (M2 := M) (f2 := (106, [some (.ref 116), some (.int (x1)), some (.int (x2)), some (.int (x3)), none], [.int (x3 - x2), .ref 116])) rfl ⟨trivial, trivial, trivial, trivial, trivial⟩ ?_
    refine sm_w.cV t199 sr199 60 (i := 202) (as := [.ref 116, .int (x3 - x2)]) (g := (106, [some (.ref 116), some (.int (x1)), some (.int (x2)), some (.int (x3)), none], [])) rfl ⟨by decide, by decide, (Nat.le_of_ble_eq_true rfl), (sm_K.g (k_116 hS) (sm_sh.rf _)).1, (sm_K.g (k_116 hS) (sm_sh.rf _)).2, (Nat.le_of_ble_eq_true rfl)⟩ (Nat.le_of_ble_eq_true rfl) (by decide) (sm_cV.s (by decide) hS h) (fun M1 h => ?_)
    obtain ⟨hS3, h⟩ := h
    refine sm_w.run t199 sr199 61 2 (M2 := M1) (f2 := (112, [some (.ref 116), some (.int (x1)), some (.int (x2)), some (.int (x3)), some (.int ((1 : Int32)))], [])) rfl ⟨trivial, (Nat.le_of_ble_eq_true rfl), trivial⟩ ?_
    exact h
  · have h := h.2 hc
    refine sm_w.run t199 sr199 35 2 (M2 := M) (f2 := (69, [some (.ref 116), some (.int (x1)), some (.int (x2)), some (.int (x3)), none], [va_rf (sm_rv M 116 54)])) rfl ⟨trivial, sm_K.g (k_116 hS) (sm_sh.rf _), trivial⟩ ?_
    refine sm_w.fld (r_116_54 hS) ?_
    obtain ⟨c4, h⟩ := h
    refine sm_w.run t199 sr199 37 2 (M2 := M) (f2 := (71, [some (.ref 116), some (.int (x1)), some (.int (x2)), some (.int (x3)), none], [.int (iV M 146 x3.toNatClampNeg)])) rfl ⟨trivial, sm_K.a2 (k_146 hS) (l_146 hS) c4, trivial⟩ ?_
    refine sm_w.cI t199 sr199 39 (i := 200) (as := [.int (iV M 146 x3.toNatClampNeg)]) (g := (71, [some (.ref 116), some (.int (x1)), some (.int (x2)), some (.int (x3)), none], [])) rfl ⟨(Nat.le_of_ble_eq_true rfl), (Nat.le_of_ble_eq_true rfl)⟩ (Nat.le_of_ble_eq_true rfl) (by decide) (p200_c hS) (fun vz M2 hz => ?_)
    obtain ⟨hz1, hz2⟩ := hz
    subst hz1
    have hz2 := hz2.symm
    subst hz2
    refine sm_w.run t199 sr199 40 1 (M2 := M) (f2 := (if (p200_0 M (iV M 146 x3.toNatClampNeg)) = 0 then 102 else 77, [some (.ref 116), some (.int (x1)), some (.int (x2)), some (.int (x3)), none], [])) rfl ⟨trivial, trivial⟩ ?_
    refine sm_w.ite (fun hc => ?_) (fun hc => ?_)
    · have h := h.1 hc
      refine sm_w.run t199 sr199 56 4 (M2 := M) (f2 := (106, [some (.ref 116), some (.int (x1)), some (.int (x2)), some (.int (x3)), none], [.int (x3 - x2), .ref 116])) rfl ⟨trivial, trivial, trivial, trivial, trivial⟩ ?_
      refine sm_w.cV t199 sr199 60 (i := 202) (as := [.ref 116, .int (x3 - x2)]) (g := (106, [some (.ref 116), some (.int (x1)), some (.int (x2)), some (.int (x3)), none], [])) rfl ⟨by decide, by decide, (Nat.le_of_ble_eq_true rfl), (sm_K.g (k_116 hS) (sm_sh.rf _)).1, (sm_K.g (k_116 hS) (sm_sh.rf _)).2, (Nat.le_of_ble_eq_true rfl)⟩ (Nat.le_of_ble_eq_true rfl) (by decide) (sm_cV.s (by decide) hS h) (fun M5 h => ?_)
      obtain ⟨hS7, h⟩ := h
      refine sm_w.run t199 sr199 61 2 (M2 := M5) (f2 := (112, [some (.ref 116), some (.int (x1)), some (.int (x2)), some (.int (x3)), some (.int ((1 : Int32)))], [])) rfl ⟨trivial, (Nat.le_of_ble_eq_true rfl), trivial⟩ ?_
      exact h
    · have h := h.2 hc
      refine sm_w.run t199 sr199 41 2 (M2 := M) (f2 := (81, [some (.ref 116), some (.int (x1)), some (.int (x2)), some (.int (x3)), none], [va_rf (sm_rv M 116 51)])) rfl ⟨trivial, sm_K.g (k_116 hS) (sm_sh.rf _), trivial⟩ ?_
      refine sm_w.fld (r_116_51 hS) ?_
      refine sm_w.run t199 sr199 43 7 (M2 := M) (f2 := (90, [some (.ref 116), some (.int (x1)), some (.int (x2)), some (.int (x3)), none], [va_rf (sm_rv M 116 54), .int ((x3 - x2) + (1 : Int32)), .ref 143])) rfl ⟨trivial, trivial, trivial, trivial, trivial, trivial, sm_K.g (k_116 hS) (sm_sh.rf _), trivial⟩ ?_
      refine sm_w.fld (r_116_54 hS) ?_
      obtain ⟨c8, h⟩ := h
      refine sm_w.run t199 sr199 50 2 (M2 := M) (f2 := (92, [some (.ref 116), some (.int (x1)), some (.int (x2)), some (.int (x3)), none], [.int (iV M 146 x3.toNatClampNeg), .int ((x3 - x2) + (1 : Int32)), .ref 143])) rfl ⟨trivial, sm_K.a2 (k_146 hS) (l_146 hS) c8, trivial⟩ ?_
      refine sm_w.cI t199 sr199 52 (i := 201) (as := [.int (iV M 146 x3.toNatClampNeg)]) (g := (92, [some (.ref 116), some (.int (x1)), some (.int (x2)), some (.int (x3)), none], [.int ((x3 - x2) + (1 : Int32)), .ref 143])) rfl ⟨(Nat.le_of_ble_eq_true rfl), (Nat.le_of_ble_eq_true rfl)⟩ (Nat.le_of_ble_eq_true rfl) (by decide) (p201_c hS) (fun vz M2 hz => ?_)
      obtain ⟨hz1, hz2⟩ := hz
      subst hz1
      have hz2 := hz2.symm
      subst hz2
      obtain ⟨c9, h⟩ := h
      refine sm_w.run t199 sr199 53 1 (M2 := sm_wI M 143 ((x3 - x2) + (1 : Int32)).toNatClampNeg (p201_0 M (iV M 146 x3.toNatClampNeg))) (f2 := (96, [some (.ref 116), some (.int (x1)), some (.int (x2)), some (.int (x3)), none], [])) rfl ⟨sm_K.s2 (k_143 hS) (l_143 hS) c9, trivial⟩ ?_
      have hS11 : SH (sm_wI M 143 ((x3 - x2) + (1 : Int32)).toNatClampNeg (p201_0 M (iV M 146 x3.toNatClampNeg))) := SH.wI hS _ _ _
      have h := h _ hS11 rfl
      generalize sm_wI M 143 ((x3 - x2) + (1 : Int32)).toNatClampNeg (p201_0 M (iV M 146 x3.toNatClampNeg)) = M10 at h hS11 ⊢
      refine sm_w.run t199 sr199 54 2 (M2 := M10) (f2 := (57, [some (.ref 116), some (.int (x1)), some (.int (x2)), some (.int (x3 + (1 : Int32))), none], [])) rfl ⟨(Nat.le_of_ble_eq_true rfl), trivial, trivial⟩ ?_
      exact h
theorem g199_4 {M : sm_M} {x1 : Int32} {x2 : Int32} {x3 : Int32} {x4 : Int32} {K : sm_M → Prop} (hS : SH M)  (h : (((x3 - x2) ≤ x4 → sm_w 199 (25, [some (.ref 116), some (.int (x1)), some (.int (x3)), none, none], []) M (rV K)) ∧ (¬ (x3 - x2) ≤ x4 → (vp_in x4 4100) ∧ (vp_in (x2 + x4) 4002) ∧ ∀ M3, SH M3 → M3 = sm_wI M 157 (x2 + x4).toNatClampNeg ((iV M 145 x4.toNatClampNeg) &&& 1) → sm_w 199 (112, [some (.ref 116), some (.int (x1)), some (.int (x2)), some (.int (x3)), some (.int (x4 + (1 : Int32)))], []) M3 (rV K)))) : sm_w 199 (112, [some (.ref 116), some (.int (x1)), some (.int (x2)), some (.int (x3)), some (.int (x4))], []) M (rV K) := by
  refine sm_w.run t199 sr199 63 5 (M2 := M) (f2 := (if (x3 - x2) ≤ x4 then 142 else 120, [some (.ref 116), some (.int (x1)), some (.int (x2)), some (.int (x3)), some (.int (x4))], [])) rfl ⟨trivial, trivial, trivial, trivial, trivial, trivial⟩ ?_
  refine sm_w.ite (fun hc => ?_) (fun hc => ?_)
  · have h := h.1 hc
    refine sm_w.run t199 sr199 80 3 (M2 := M) (f2 := (25, [some (.ref 116), some (.int (x1)), some (.int (x3)), some (.int (x3)), some (.int (x4))], [])) rfl ⟨trivial, (Nat.le_of_ble_eq_true rfl), trivial, trivial⟩ ?_
    refine sm_w.weak (ls := [some (.ref 116), some (.int (x1)), some (.int (x3)), none, none]) (sm_leI [true, true, true, false, false] rfl) ?_
    exact h
  · have h := h.2 hc
    refine sm_w.run t199 sr199 68 2 (M2 := M) (f2 := (124, [some (.ref 116), some (.int (x1)), some (.int (x2)), some (.int (x3)), some (.int (x4))], [va_rf (sm_rv M 116 77)])) rfl ⟨trivial, sm_K.g (k_116 hS) (sm_sh.rf _), trivial⟩ ?_
    refine sm_w.fld (r_116_77 hS) ?_
    refine sm_w.run t199 sr199 70 5 (M2 := M) (f2 := (132, [some (.ref 116), some (.int (x1)), some (.int (x2)), some (.int (x3)), some (.int (x4))], [va_rf (sm_rv M 116 53), .int (x2 + x4), .ref 157])) rfl ⟨trivial, trivial, trivial, trivial, sm_K.g (k_116 hS) (sm_sh.rf _), trivial⟩ ?_
    refine sm_w.fld (r_116_53 hS) ?_
    obtain ⟨c1, c2, h⟩ := h
    refine sm_w.run t199 sr199 75 3 (M2 := sm_wI M 157 (x2 + x4).toNatClampNeg ((iV M 145 x4.toNatClampNeg) &&& 1)) (f2 := (136, [some (.ref 116), some (.int (x1)), some (.int (x2)), some (.int (x3)), some (.int (x4))], [])) rfl ⟨trivial, sm_K.a2 (k_145 hS) (l_145 hS) c1, sm_K.s2 (k_157 hS) (l_157 hS) c2, trivial⟩ ?_
    have hS4 : SH (sm_wI M 157 (x2 + x4).toNatClampNeg ((iV M 145 x4.toNatClampNeg) &&& 1)) := SH.wI hS _ _ _
    have h := h _ hS4 rfl
    generalize sm_wI M 157 (x2 + x4).toNatClampNeg ((iV M 145 x4.toNatClampNeg) &&& 1) = M3 at h hS4 ⊢
    refine sm_w.run t199 sr199 78 2 (M2 := M3) (f2 := (112, [some (.ref 116), some (.int (x1)), some (.int (x2)), some (.int (x3)), some (.int (x4 + (1 : Int32)))], [])) rfl ⟨(Nat.le_of_ble_eq_true rfl), trivial, trivial⟩ ?_
    exact h
-- 204 LineSetterModel.breakOf(I)I
theorem t204 : sP 204 = (2, sp_204, sh_204) := rfl
theorem sr204 : sm_srt sp_204 = true := by decide +kernel
theorem g204_0 {M : sm_M} {x1 : Int32} {K : Int32 → sm_M → Prop} (hS : SH M)  (h : ((x1 = (iV M 116 56) → K (3 : Int32) M) ∧ (¬ x1 = (iV M 116 56) → (vp_in x1 4001) ∧ (((iV M 146 x1.toNatClampNeg) = (32 : Int32) → K (0 : Int32) M) ∧ (¬ (iV M 146 x1.toNatClampNeg) = (32 : Int32) → (vp_in x1 4002) ∧ (((iV M 157 x1.toNatClampNeg) = 0 → ((x1 ≤ 0 → K (-1 : Int32) M) ∧ (¬ x1 ≤ 0 → (vp_in (x1 - (1 : Int32)) 4001) ∧ (((iV M 146 (x1 - (1 : Int32)).toNatClampNeg) = (45 : Int32) → (vp_in x1 4001) ∧ (((iV M 146 x1.toNatClampNeg) = (32 : Int32) → K (-1 : Int32) M) ∧ (¬ (iV M 146 x1.toNatClampNeg) = (32 : Int32) → K (2 : Int32) M))) ∧ (¬ (iV M 146 (x1 - (1 : Int32)).toNatClampNeg) = (45 : Int32) → K (-1 : Int32) M))))) ∧ (¬ (iV M 157 x1.toNatClampNeg) = 0 → K (1 : Int32) M))))))) : sm_w 204 (sm_in sP 204 [.ref 116, .int (x1)]) M (rI K) := by
  show sm_w 204 (0, [some (.ref 116), some (.int (x1))], []) M (rI K)
  refine sm_w.run t204 sr204 0 4 (M2 := M) (f2 := (if x1 = (iV M 116 56) then 8 else 10, [some (.ref 116), some (.int (x1))], [])) rfl ⟨trivial, trivial, sm_K.g (k_116 hS) (sm_sh.rf _), trivial, trivial⟩ ?_
  refine sm_w.ite (fun hc => ?_) (fun hc => ?_)
  · have h := h.1 hc
    refine sm_w.run t204 sr204 4 1 (M2 := M) (f2 := (9, [some (.ref 116), some (.int (x1))], [.int ((3 : Int32))])) rfl ⟨trivial, trivial⟩ ?_
    exact sm_w.end t204 sr204 5 (o := .returned (some (.int ((3 : Int32))))) (M2 := M) rfl rfl (by decide) (⟨_, rfl, h⟩)
  · have h := h.2 hc
    refine sm_w.run t204 sr204 6 2 (M2 := M) (f2 := (14, [some (.ref 116), some (.int (x1))], [va_rf (sm_rv M 116 54)])) rfl ⟨trivial, sm_K.g (k_116 hS) (sm_sh.rf _), trivial⟩ ?_
    refine sm_w.fld (r_116_54 hS) ?_
    obtain ⟨c1, h⟩ := h
    refine sm_w.run t204 sr204 8 4 (M2 := M) (f2 := (if (iV M 146 x1.toNatClampNeg) = (32 : Int32) then 21 else 23, [some (.ref 116), some (.int (x1))], [])) rfl ⟨trivial, sm_K.a2 (k_146 hS) (l_146 hS) c1, trivial, trivial, trivial⟩ ?_
    refine sm_w.ite (fun hc => ?_) (fun hc => ?_)
    · have h := h.1 hc
      refine sm_w.run t204 sr204 12 1 (M2 := M) (f2 := (22, [some (.ref 116), some (.int (x1))], [.int ((0 : Int32))])) rfl ⟨trivial, trivial⟩ ?_
      exact sm_w.end t204 sr204 13 (o := .returned (some (.int ((0 : Int32))))) (M2 := M) rfl rfl (by decide) (⟨_, rfl, h⟩)
    · have h := h.2 hc
      refine sm_w.run t204 sr204 14 2 (M2 := M) (f2 := (27, [some (.ref 116), some (.int (x1))], [va_rf (sm_rv M 116 77)])) rfl ⟨trivial, sm_K.g (k_116 hS) (sm_sh.rf _), trivial⟩ ?_
      refine sm_w.fld (r_116_77 hS) ?_
      obtain ⟨c2, h⟩ := h
      refine sm_w.run t204 sr204 16 3 (M2 := M) (f2 := (if (iV M 157 x1.toNatClampNeg) = 0 then 34 else 32, [some (.ref 116), some (.int (x1))], [])) rfl ⟨trivial, sm_K.a2 (k_157 hS) (l_157 hS) c2, trivial, trivial⟩ ?_
      refine sm_w.ite (fun hc => ?_) (fun hc => ?_)
      · have h := h.1 hc
        refine sm_w.run t204 sr204 21 2 (M2 := M) (f2 := (if x1 ≤ 0 then 66 else 38, [some (.ref 116), some (.int (x1))], [])) rfl ⟨trivial, trivial, trivial⟩ ?_
        refine sm_w.ite (fun hc => ?_) (fun hc => ?_)
        · have h := h.1 hc
          refine sm_w.run t204 sr204 39 1 (M2 := M) (f2 := (67, [some (.ref 116), some (.int (x1))], [.int ((-1 : Int32))])) rfl ⟨trivial, trivial⟩ ?_
          exact sm_w.end t204 sr204 40 (o := .returned (some (.int ((-1 : Int32))))) (M2 := M) rfl rfl (by decide) (⟨_, rfl, h⟩)
        · have h := h.2 hc
          refine sm_w.run t204 sr204 23 2 (M2 := M) (f2 := (42, [some (.ref 116), some (.int (x1))], [va_rf (sm_rv M 116 54)])) rfl ⟨trivial, sm_K.g (k_116 hS) (sm_sh.rf _), trivial⟩ ?_
          refine sm_w.fld (r_116_54 hS) ?_
          obtain ⟨c3, h⟩ := h
          refine sm_w.run t204 sr204 25 6 (M2 := M) (f2 := (if (iV M 146 (x1 - (1 : Int32)).toNatClampNeg) = (45 : Int32) then 51 else 66, [some (.ref 116), some (.int (x1))], [])) rfl ⟨trivial, trivial, trivial, sm_K.a2 (k_146 hS) (l_146 hS) c3, trivial, trivial, trivial⟩ ?_
          refine sm_w.ite (fun hc => ?_) (fun hc => ?_)
          · have h := h.1 hc
            refine sm_w.run t204 sr204 31 2 (M2 := M) (f2 := (55, [some (.ref 116), some (.int (x1))], [va_rf (sm_rv M 116 54)])) rfl ⟨trivial, sm_K.g (k_116 hS) (sm_sh.rf _), trivial⟩ ?_
            refine sm_w.fld (r_116_54 hS) ?_
            obtain ⟨c4, h⟩ := h
            refine sm_w.run t204 sr204 33 4 (M2 := M) (f2 := (if (iV M 146 x1.toNatClampNeg) = (32 : Int32) then 66 else 62, [some (.ref 116), some (.int (x1))], [])) rfl ⟨trivial, sm_K.a2 (k_146 hS) (l_146 hS) c4, trivial, trivial, trivial⟩ ?_
            refine sm_w.ite (fun hc => ?_) (fun hc => ?_)
            · have h := h.1 hc
              refine sm_w.run t204 sr204 39 1 (M2 := M) (f2 := (67, [some (.ref 116), some (.int (x1))], [.int ((-1 : Int32))])) rfl ⟨trivial, trivial⟩ ?_
              exact sm_w.end t204 sr204 40 (o := .returned (some (.int ((-1 : Int32))))) (M2 := M) rfl rfl (by decide) (⟨_, rfl, h⟩)
            · have h := h.2 hc
              refine sm_w.run t204 sr204 37 2 (M2 := M) (f2 := (67, [some (.ref 116), some (.int (x1))], [.int ((2 : Int32))])) rfl ⟨trivial, trivial, trivial⟩ ?_
              exact sm_w.end t204 sr204 40 (o := .returned (some (.int ((2 : Int32))))) (M2 := M) rfl rfl (by decide) (⟨_, rfl, h⟩)
          · have h := h.2 hc
            refine sm_w.run t204 sr204 39 1 (M2 := M) (f2 := (67, [some (.ref 116), some (.int (x1))], [.int ((-1 : Int32))])) rfl ⟨trivial, trivial⟩ ?_
            exact sm_w.end t204 sr204 40 (o := .returned (some (.int ((-1 : Int32))))) (M2 := M) rfl rfl (by decide) (⟨_, rfl, h⟩)
      · have h := h.2 hc
        refine sm_w.run t204 sr204 19 1 (M2 := M) (f2 := (33, [some (.ref 116), some (.int (x1))], [.int ((1 : Int32))])) rfl ⟨trivial, trivial⟩ ?_
        exact sm_w.end t204 sr204 20 (o := .returned (some (.int ((1 : Int32))))) (M2 := M) rfl rfl (by decide) (⟨_, rfl, h⟩)
def p204_0 (M : sm_M) (x1 : Int32) : Int32 := if x1 = (iV M 116 56) then (3 : Int32) else (if (iV M 146 x1.toNatClampNeg) = (32 : Int32) then (0 : Int32) else (if (iV M 157 x1.toNatClampNeg) = 0 then (if x1 ≤ 0 then (-1 : Int32) else (if (iV M 146 (x1 - (1 : Int32)).toNatClampNeg) = (45 : Int32) then (if (iV M 146 x1.toNatClampNeg) = (32 : Int32) then (-1 : Int32) else (2 : Int32)) else (-1 : Int32))) else (1 : Int32)))
def q204_0 (M : sm_M) (x1 : Int32) : Prop := ((x1 = (iV M 116 56) → True) ∧ (¬ x1 = (iV M 116 56) → (vp_in x1 4001) ∧ (((iV M 146 x1.toNatClampNeg) = (32 : Int32) → True) ∧ (¬ (iV M 146 x1.toNatClampNeg) = (32 : Int32) → (vp_in x1 4002) ∧ (((iV M 157 x1.toNatClampNeg) = 0 → ((x1 ≤ 0 → True) ∧ (¬ x1 ≤ 0 → (vp_in (x1 - (1 : Int32)) 4001) ∧ (((iV M 146 (x1 - (1 : Int32)).toNatClampNeg) = (45 : Int32) → (vp_in x1 4001)) ∧ (¬ (iV M 146 (x1 - (1 : Int32)).toNatClampNeg) = (45 : Int32) → True))))) ∧ (¬ (iV M 157 x1.toNatClampNeg) = 0 → True))))))
theorem p204_c {M : sm_M} {x1 : Int32} (hS : SH M)  (hq : q204_0 M x1) : sm_cI 204 [.ref 116, .int (x1)] M (fun v M2 => v = p204_0 M x1 ∧ M2 = M) := by
  refine g204_0 (K := (fun v M2 => v = p204_0 M x1 ∧ M2 = M)) hS ?_
  unfold q204_0 at hq
  refine ⟨fun e1 => ?_, fun e1 => ?_⟩
  · refine ⟨?_, rfl⟩
    unfold p204_0
    rw [if_pos e1]
  · have hq := hq.2 e1
    obtain ⟨d2, hq⟩ := hq
    refine ⟨d2, ?_⟩
    refine ⟨fun e3 => ?_, fun e3 => ?_⟩
    · refine ⟨?_, rfl⟩
      unfold p204_0
      rw [if_neg e1, if_pos e3]
    · have hq := hq.2 e3
      obtain ⟨d4, hq⟩ := hq
      refine ⟨d4, ?_⟩
      refine ⟨fun e5 => ?_, fun e5 => ?_⟩
      · have hq := hq.1 e5
        refine ⟨fun e6 => ?_, fun e6 => ?_⟩
        · refine ⟨?_, rfl⟩
          unfold p204_0
          rw [if_neg e1, if_neg e3, if_pos e5, if_pos e6]
        · have hq := hq.2 e6
          obtain ⟨d7, hq⟩ := hq
          refine ⟨d7, ?_⟩
          refine ⟨fun e8 => ?_, fun e8 => ?_⟩
          · have hq := hq.1 e8
            have d9 := hq
            refine ⟨d9, ?_⟩
            refine ⟨fun e10 => ?_, fun e10 => ?_⟩
            · refine ⟨?_, rfl⟩
              unfold p204_0
              rw [if_neg e1, if_neg e3, if_pos e5, if_neg e6, if_pos e8, if_pos e10]
            · refine ⟨?_, rfl⟩
              unfold p204_0
              rw [if_neg e1, if_neg e3, if_pos e5, if_neg e6, if_pos e8, if_neg e10]
          · refine ⟨?_, rfl⟩
            unfold p204_0
            rw [if_neg e1, if_neg e3, if_pos e5, if_neg e6, if_neg e8]
      · refine ⟨?_, rfl⟩
        unfold p204_0
        rw [if_neg e1, if_neg e3, if_neg e5]
-- 203 LineSetterModel.countBreaks()I
theorem t203 : sP 203 = (3, sp_203, sh_203) := rfl
theorem sr203 : sm_srt sp_203 = true := by decide +kernel
theorem g203_0 {M : sm_M}  {K : Int32 → sm_M → Prop} (hS : SH M)  (h : sm_w 203 (4, [some (.ref 116), some (.int ((0 : Int32))), some (.int ((1 : Int32)))], []) M (rI K)) : sm_w 203 (sm_in sP 203 [.ref 116]) M (rI K) := by
  show sm_w 203 (0, [some (.ref 116), none, none], []) M (rI K)
  refine sm_w.run t203 sr203 0 4 (M2 := M) (f2 := (4, [some (.ref 116), some (.int ((0 : Int32))), some (.int ((1 : Int32)))], [])) rfl ⟨trivial, (Nat.le_of_ble_eq_true rfl), trivial, (Nat.le_of_ble_eq_true rfl), trivial⟩ ?_
  exact h
theorem g203_1 {M : sm_M} {x1 : Int32} {x2 : Int32} {K : Int32 → sm_M → Prop} (hS : SH M)  (h : (((iV M 116 56) < x2 → K x1 M) ∧ (¬ (iV M 116 56) < x2 → (q204_0 M x2) ∧ (((p204_0 M x2) < 0 → sm_w 203 (4, [some (.ref 116), some (.int (x1 + (0 : Int32))), some (.int (x2 + (1 : Int32)))], []) M (rI K)) ∧ (¬ (p204_0 M x2) < 0 → sm_w 203 (4, [some (.ref 116), some (.int (x1 + (1 : Int32))), some (.int (x2 + (1 : Int32)))], []) M (rI K)))))) : sm_w 203 (4, [some (.ref 116), some (.int (x1)), some (.int (x2))], []) M (rI K) := by
  refine sm_w.run t203 sr203 4 4 (M2 := M) (f2 := (if (iV M 116 56) < x2 then 34 else 12, [some (.ref 116), some (.int (x1)), some (.int (x2))], [])) rfl ⟨trivial, trivial, sm_K.g (k_116 hS) (sm_sh.rf _), trivial, trivial⟩ ?_
  refine sm_w.ite (fun hc => ?_) (fun hc => ?_)
  · have h := h.1 hc
    refine sm_w.run t203 sr203 20 1 (M2 := M) (f2 := (35, [some (.ref 116), some (.int (x1)), some (.int (x2))], [.int (x1)])) rfl ⟨trivial, trivial⟩ ?_
    exact sm_w.end t203 sr203 21 (o := .returned (some (.int (x1)))) (M2 := M) rfl rfl (by decide) (⟨_, rfl, h⟩)
  · have h := h.2 hc
    obtain ⟨c1, h⟩ := h
    refine sm_w.run t203 sr203 8 3 (M2 := M) (f2 := (15, [some (.ref 116), some (.int (x1)), some (.int (x2))], [.int (x2), .ref 116, .int (x1)])) rfl ⟨trivial, trivial, trivial, trivial⟩ ?_
    refine sm_w.cI t203 sr203 11 (i := 204) (as := [.ref 116, .int (x2)]) (g := (15, [some (.ref 116), some (.int (x1)), some (.int (x2))], [.int (x1)])) rfl ⟨by decide, by decide, (Nat.le_of_ble_eq_true rfl), (sm_K.g (k_116 hS) (sm_sh.rf _)).1, (sm_K.g (k_116 hS) (sm_sh.rf _)).2, (Nat.le_of_ble_eq_true rfl)⟩ (Nat.le_of_ble_eq_true rfl) (by decide) (p204_c hS c1) (fun vz M2 hz => ?_)
    obtain ⟨hz1, hz2⟩ := hz
    subst hz1
    have hz2 := hz2.symm
    subst hz2
    refine sm_w.run t203 sr203 12 1 (M2 := M) (f2 := (if (p204_0 M x2) < 0 then 25 else 21, [some (.ref 116), some (.int (x1)), some (.int (x2))], [.int (x1)])) rfl ⟨trivial, trivial⟩ ?_
    refine sm_w.ite (fun hc => ?_) (fun hc => ?_)
    · have h := h.1 hc
      refine sm_w.run t203 sr203 15 5 (M2 := M) (f2 := (4, [some (.ref 116), some (.int (x1 + (0 : Int32))), some (.int (x2 + (1 : Int32)))], [])) rfl ⟨trivial, trivial, (Nat.le_of_ble_eq_true rfl), (Nat.le_of_ble_eq_true rfl), trivial, trivial⟩ ?_
      exact h
    · have h := h.2 hc
      refine sm_w.run t203 sr203 13 2 (M2 := M) (f2 := (26, [some (.ref 116), some (.int (x1)), some (.int (x2))], [.int ((1 : Int32)), .int (x1)])) rfl ⟨trivial, trivial, trivial⟩ ?_
      refine sm_w.run t203 sr203 16 4 (M2 := M) (f2 := (4, [some (.ref 116), some (.int (x1 + (1 : Int32))), some (.int (x2 + (1 : Int32)))], [])) rfl ⟨trivial, (Nat.le_of_ble_eq_true rfl), (Nat.le_of_ble_eq_true rfl), trivial, trivial⟩ ?_
      exact h
