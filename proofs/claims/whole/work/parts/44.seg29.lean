/-! METHODS by their segments. -/
-- 185 LineSetterModel.oneException(II)V
theorem t185 : sP 185 = (7, sp_185, sh_185) := rfl
theorem sr185 : sm_srt sp_185 = true := by decide +kernel
theorem g185_0 {M : sm_M} {x1 : Int32} {x2 : Int32} {K : sm_M → Prop} (hS : SH M)  (h : (((x2 - x1) ≤ (1 : Int32) → sm_w 185 (19, [some (.ref 116), some (.int (x1)), some (.int (x2)), some (.int ((0 : Int32))), some (.int ((0 : Int32))), some (.int ((0 : Int32))), none], []) M (rV K)) ∧ (¬ (x2 - x1) ≤ (1 : Int32) → sm_w 185 (19, [some (.ref 116), some (.int (x1)), some (.int (x2)), some (.int ((0 : Int32))), some (.int ((1 : Int32))), some (.int ((0 : Int32))), none], []) M (rV K)))) : sm_w 185 (sm_in sP 185 [.ref 116, .int (x1), .int (x2)]) M (rV K) := by
  show sm_w 185 (0, [some (.ref 116), some (.int (x1)), some (.int (x2)), none, none, none, none], []) M (rV K)
  refine sm_w.run t185 sr185 0 7 (M2 := M) (f2 := (if (x2 - x1) ≤ (1 : Int32) then 13 else 9, [some (.ref 116), some (.int (x1)), some (.int (x2)), some (.int ((0 : Int32))), none, none, none], [])) rfl ⟨trivial, (Nat.le_of_ble_eq_true rfl), trivial, trivial, trivial, trivial, trivial, trivial⟩ ?_
  refine sm_w.ite (fun hc => ?_) (fun hc => ?_)
  · have h := h.1 hc
    refine sm_w.run t185 sr185 9 4 (M2 := M) (f2 := (19, [some (.ref 116), some (.int (x1)), some (.int (x2)), some (.int ((0 : Int32))), some (.int ((0 : Int32))), some (.int ((0 : Int32))), none], [])) rfl ⟨trivial, (Nat.le_of_ble_eq_true rfl), trivial, (Nat.le_of_ble_eq_true rfl), trivial⟩ ?_
    exact h
  · have h := h.2 hc
    refine sm_w.run t185 sr185 7 2 (M2 := M) (f2 := (14, [some (.ref 116), some (.int (x1)), some (.int (x2)), some (.int ((0 : Int32))), none, none, none], [.int ((1 : Int32))])) rfl ⟨trivial, trivial, trivial⟩ ?_
    refine sm_w.run t185 sr185 10 3 (M2 := M) (f2 := (19, [some (.ref 116), some (.int (x1)), some (.int (x2)), some (.int ((0 : Int32))), some (.int ((1 : Int32))), some (.int ((0 : Int32))), none], [])) rfl ⟨(Nat.le_of_ble_eq_true rfl), trivial, (Nat.le_of_ble_eq_true rfl), trivial⟩ ?_
    exact h
theorem g185_1 {M : sm_M} {x1 : Int32} {x2 : Int32} {x3 : Int32} {x4 : Int32} {x5 : Int32} {K : sm_M → Prop} (hS : SH M)  (h : (((40 : Int32) ≤ x5 → sm_w 185 (45, [some (.ref 116), some (.int (x1)), some (.int (x2)), some (.int (x3)), some (.int (x4)), some (.int (x1 + (1 : Int32))), none], []) M (rV K)) ∧ (¬ (40 : Int32) ≤ x5 → (vp_in x5 40) ∧ ∀ M2, SH M2 → M2 = sm_wI M 142 x5.toNatClampNeg (0 : Int32) → sm_w 185 (19, [some (.ref 116), some (.int (x1)), some (.int (x2)), some (.int (x3)), some (.int (x4)), some (.int (x5 + (1 : Int32))), none], []) M2 (rV K)))) : sm_w 185 (19, [some (.ref 116), some (.int (x1)), some (.int (x2)), some (.int (x3)), some (.int (x4)), some (.int (x5)), none], []) M (rV K) := by
  refine sm_w.run t185 sr185 13 3 (M2 := M) (f2 := (if (40 : Int32) ≤ x5 then 40 else 26, [some (.ref 116), some (.int (x1)), some (.int (x2)), some (.int (x3)), some (.int (x4)), some (.int (x5)), none], [])) rfl ⟨trivial, trivial, trivial, trivial⟩ ?_
  refine sm_w.ite (fun hc => ?_) (fun hc => ?_)
  · have h := h.1 hc
    refine sm_w.run t185 sr185 23 4 (M2 := M) (f2 := (45, [some (.ref 116), some (.int (x1)), some (.int (x2)), some (.int (x3)), some (.int (x4)), some (.int (x1 + (1 : Int32))), none], [])) rfl ⟨trivial, trivial, trivial, (Nat.le_of_ble_eq_true rfl), trivial⟩ ?_
    exact h
  · have h := h.2 hc
    refine sm_w.run t185 sr185 16 2 (M2 := M) (f2 := (30, [some (.ref 116), some (.int (x1)), some (.int (x2)), some (.int (x3)), some (.int (x4)), some (.int (x5)), none], [va_rf (sm_rv M 116 48)])) rfl ⟨trivial, sm_K.g (k_116 hS) (sm_sh.rf _), trivial⟩ ?_
    refine sm_w.fld (r_116_48 hS) ?_
    obtain ⟨c1, h⟩ := h
    refine sm_w.run t185 sr185 18 3 (M2 := sm_wI M 142 x5.toNatClampNeg (0 : Int32)) (f2 := (34, [some (.ref 116), some (.int (x1)), some (.int (x2)), some (.int (x3)), some (.int (x4)), some (.int (x5)), none], [])) rfl ⟨trivial, trivial, sm_K.s2 (k_142 hS) (l_142 hS) c1, trivial⟩ ?_
    have hS3 : SH (sm_wI M 142 x5.toNatClampNeg (0 : Int32)) := SH.wI hS _ _ _
    have h := h _ hS3 rfl
    generalize sm_wI M 142 x5.toNatClampNeg (0 : Int32) = M2 at h hS3 ⊢
    refine sm_w.run t185 sr185 21 2 (M2 := M2) (f2 := (19, [some (.ref 116), some (.int (x1)), some (.int (x2)), some (.int (x3)), some (.int (x4)), some (.int (x5 + (1 : Int32))), none], [])) rfl ⟨(Nat.le_of_ble_eq_true rfl), trivial, trivial⟩ ?_
    exact h
theorem g185_2 {M : sm_M} {x1 : Int32} {x2 : Int32} {x3 : Int32} {x4 : Int32} {x5 : Int32} {K : sm_M → Prop} (hS : SH M)  (h : ((x2 ≤ x5 → ((x4 = 0 → sm_cV 177 [.ref 116, .int (x1)] M (fun M1 => SH M1 → K M1)) ∧ (¬ x4 = 0 → sm_w 185 (172, [some (.ref 116), some (.int (x1)), none, some (.int (x3)), none, some (.int ((0 : Int32))), none], []) M (rV K)))) ∧ (¬ x2 ≤ x5 → ((x4 = 0 → ((x4 = 0 → sm_cV 177 [.ref 116, .int (x1)] M (fun M4 => SH M4 → K M4)) ∧ (¬ x4 = 0 → sm_w 185 (172, [some (.ref 116), some (.int (x1)), none, some (.int (x3)), none, some (.int ((0 : Int32))), none], []) M (rV K)))) ∧ (¬ x4 = 0 → (vp_in x5 8192) ∧ (((p173_0 M (iV M 118 x5.toNatClampNeg)) = 0 → (((iV M 118 x5.toNatClampNeg) = (45 : Int32) → ((x3 ≤ 0 → sm_w 185 (137, [some (.ref 116), some (.int (x1)), some (.int (x2)), some (.int (x3)), none, some (.int (x5)), none], []) M (rV K)) ∧ (¬ x3 ≤ 0 → (vp_in x3 40) ∧ (((iV M 142 x3.toNatClampNeg) = 0 → ((x2 ≤ (x5 + (1 : Int32)) → sm_w 185 (137, [some (.ref 116), some (.int (x1)), some (.int (x2)), some (.int (x3)), none, some (.int (x5)), none], []) M (rV K)) ∧ (¬ x2 ≤ (x5 + (1 : Int32)) → sm_w 185 (138, [some (.ref 116), some (.int (x1)), some (.int (x2)), some (.int (x3)), none, some (.int (x5)), none], [.int ((1 : Int32))]) M (rV K)))) ∧ (¬ (iV M 142 x3.toNatClampNeg) = 0 → sm_w 185 (137, [some (.ref 116), some (.int (x1)), some (.int (x2)), some (.int (x3)), none, some (.int (x5)), none], []) M (rV K)))))) ∧ (¬ (iV M 118 x5.toNatClampNeg) = (45 : Int32) → sm_w 185 (137, [some (.ref 116), some (.int (x1)), some (.int (x2)), some (.int (x3)), none, some (.int (x5)), none], []) M (rV K)))) ∧ (¬ (p173_0 M (iV M 118 x5.toNatClampNeg)) = 0 → (((30 : Int32) ≤ x3 → sm_w 185 (84, [some (.ref 116), some (.int (x1)), some (.int (x2)), some (.int (x3)), none, some (.int (x5)), some (.int (iV M 118 x5.toNatClampNeg))], [.int ((0 : Int32))]) M (rV K)) ∧ (¬ (30 : Int32) ≤ x3 → sm_w 185 (84, [some (.ref 116), some (.int (x1)), some (.int (x2)), some (.int (x3)), none, some (.int (x5)), some (.int (iV M 118 x5.toNatClampNeg))], [.int ((1 : Int32))]) M (rV K)))))))))) : sm_w 185 (45, [some (.ref 116), some (.int (x1)), some (.int (x2)), some (.int (x3)), some (.int (x4)), some (.int (x5)), none], []) M (rV K) := by
  refine sm_w.run t185 sr185 27 3 (M2 := M) (f2 := (if x2 ≤ x5 then 158 else 51, [some (.ref 116), some (.int (x1)), some (.int (x2)), some (.int (x3)), some (.int (x4)), some (.int (x5)), none], [])) rfl ⟨trivial, trivial, trivial, trivial⟩ ?_
  refine sm_w.ite (fun hc => ?_) (fun hc => ?_)
  · have h := h.1 hc
    refine sm_w.run t185 sr185 84 2 (M2 := M) (f2 := (if x4 = 0 then 163 else 169, [some (.ref 116), some (.int (x1)), some (.int (x2)), some (.int (x3)), some (.int (x4)), some (.int (x5)), none], [])) rfl ⟨trivial, trivial, trivial⟩ ?_
    refine sm_w.ite (fun hc => ?_) (fun hc => ?_)
    · have h := h.1 hc
      refine sm_w.run t185 sr185 86 2 (M2 := M) (f2 := (165, [some (.ref 116), some (.int (x1)), some (.int (x2)), some (.int (x3)), some (.int (x4)), some (.int (x5)), none], [.int (x1), .ref 116])) rfl ⟨trivial, trivial, trivial⟩ ?_
      refine sm_w.cV t185 sr185 88 (i := 177) (as := [.ref 116, .int (x1)]) (g := (165, [some (.ref 116), some (.int (x1)), some (.int (x2)), some (.int (x3)), some (.int (x4)), some (.int (x5)), none], [])) rfl ⟨by decide, by decide, (Nat.le_of_ble_eq_true rfl), (sm_K.g (k_116 hS) (sm_sh.rf _)).1, (sm_K.g (k_116 hS) (sm_sh.rf _)).2, (Nat.le_of_ble_eq_true rfl)⟩ (Nat.le_of_ble_eq_true rfl) (by decide) (sm_cV.s (by decide) hS h) (fun M1 h => ?_)
      obtain ⟨hS3, h⟩ := h
      exact sm_w.end t185 sr185 89 (o := .returned none) (M2 := M1) rfl trivial (by decide) (⟨rfl, h⟩)
    · have h := h.2 hc
      refine sm_w.run t185 sr185 90 2 (M2 := M) (f2 := (172, [some (.ref 116), some (.int (x1)), some (.int (x2)), some (.int (x3)), some (.int (x4)), some (.int ((0 : Int32))), none], [])) rfl ⟨trivial, (Nat.le_of_ble_eq_true rfl), trivial⟩ ?_
      refine sm_w.weak (ls := [some (.ref 116), some (.int (x1)), none, some (.int (x3)), none, some (.int ((0 : Int32))), none]) (sm_leI [true, true, false, true, false, true, false] rfl) ?_
      exact h
  · have h := h.2 hc
    refine sm_w.run t185 sr185 30 2 (M2 := M) (f2 := (if x4 = 0 then 158 else 56, [some (.ref 116), some (.int (x1)), some (.int (x2)), some (.int (x3)), some (.int (x4)), some (.int (x5)), none], [])) rfl ⟨trivial, trivial, trivial⟩ ?_
    refine sm_w.ite (fun hc => ?_) (fun hc => ?_)
    · have h := h.1 hc
      refine sm_w.run t185 sr185 84 2 (M2 := M) (f2 := (if x4 = 0 then 163 else 169, [some (.ref 116), some (.int (x1)), some (.int (x2)), some (.int (x3)), some (.int (x4)), some (.int (x5)), none], [])) rfl ⟨trivial, trivial, trivial⟩ ?_
      refine sm_w.ite (fun hc => ?_) (fun hc => ?_)
      · have h := h.1 hc
        refine sm_w.run t185 sr185 86 2 (M2 := M) (f2 := (165, [some (.ref 116), some (.int (x1)), some (.int (x2)), some (.int (x3)), some (.int (x4)), some (.int (x5)), none], [.int (x1), .ref 116])) rfl ⟨trivial, trivial, trivial⟩ ?_
        refine sm_w.cV t185 sr185 88 (i := 177) (as := [.ref 116, .int (x1)]) (g := (165, [some (.ref 116), some (.int (x1)), some (.int (x2)), some (.int (x3)), some (.int (x4)), some (.int (x5)), none], [])) rfl ⟨by decide, by decide, (Nat.le_of_ble_eq_true rfl), (sm_K.g (k_116 hS) (sm_sh.rf _)).1, (sm_K.g (k_116 hS) (sm_sh.rf _)).2, (Nat.le_of_ble_eq_true rfl)⟩ (Nat.le_of_ble_eq_true rfl) (by decide) (sm_cV.s (by decide) hS h) (fun M4 h => ?_)
        obtain ⟨hS6, h⟩ := h
        exact sm_w.end t185 sr185 89 (o := .returned none) (M2 := M4) rfl trivial (by decide) (⟨rfl, h⟩)
      · have h := h.2 hc
        refine sm_w.run t185 sr185 90 2 (M2 := M) (f2 := (172, [some (.ref 116), some (.int (x1)), some (.int (x2)), some (.int (x3)), some (.int (x4)), some (.int ((0 : Int32))), none], [])) rfl ⟨trivial, (Nat.le_of_ble_eq_true rfl), trivial⟩ ?_
        refine sm_w.weak (ls := [some (.ref 116), some (.int (x1)), none, some (.int (x3)), none, some (.int ((0 : Int32))), none]) (sm_leI [true, true, false, true, false, true, false] rfl) ?_
        exact h
    · have h := h.2 hc
      refine sm_w.run t185 sr185 32 2 (M2 := M) (f2 := (60, [some (.ref 116), some (.int (x1)), some (.int (x2)), some (.int (x3)), some (.int (x4)), some (.int (x5)), none], [va_rf (sm_rv M 116 2)])) rfl ⟨trivial, sm_K.g (k_116 hS) (sm_sh.rf _), trivial⟩ ?_
      refine sm_w.fld (r_116_2 hS) ?_
      obtain ⟨c7, h⟩ := h
      refine sm_w.run t185 sr185 34 4 (M2 := M) (f2 := (67, [some (.ref 116), some (.int (x1)), some (.int (x2)), some (.int (x3)), some (.int (x4)), some (.int (x5)), some (.int (iV M 118 x5.toNatClampNeg))], [.int (iV M 118 x5.toNatClampNeg)])) rfl ⟨trivial, sm_K.a2 (k_118 hS) (l_118 hS) c7, (Nat.le_of_ble_eq_true rfl), trivial, trivial⟩ ?_
      refine sm_w.cI t185 sr185 38 (i := 173) (as := [.int (iV M 118 x5.toNatClampNeg)]) (g := (67, [some (.ref 116), some (.int (x1)), some (.int (x2)), some (.int (x3)), some (.int (x4)), some (.int (x5)), some (.int (iV M 118 x5.toNatClampNeg))], [])) rfl ⟨(Nat.le_of_ble_eq_true rfl), (Nat.le_of_ble_eq_true rfl)⟩ (Nat.le_of_ble_eq_true rfl) (by decide) (p173_c hS) (fun vz M2 hz => ?_)
      obtain ⟨hz1, hz2⟩ := hz
      subst hz1
      have hz2 := hz2.symm
      subst hz2
      refine sm_w.run t185 sr185 39 1 (M2 := M) (f2 := (if (p173_0 M (iV M 118 x5.toNatClampNeg)) = 0 then 105 else 73, [some (.ref 116), some (.int (x1)), some (.int (x2)), some (.int (x3)), some (.int (x4)), some (.int (x5)), some (.int (iV M 118 x5.toNatClampNeg))], [])) rfl ⟨trivial, trivial⟩ ?_
      refine sm_w.ite (fun hc => ?_) (fun hc => ?_)
      · have h := h.1 hc
        refine sm_w.run t185 sr185 56 3 (M2 := M) (f2 := (if (iV M 118 x5.toNatClampNeg) = (45 : Int32) then 112 else 137, [some (.ref 116), some (.int (x1)), some (.int (x2)), some (.int (x3)), some (.int (x4)), some (.int (x5)), some (.int (iV M 118 x5.toNatClampNeg))], [])) rfl ⟨trivial, trivial, trivial, trivial⟩ ?_
        refine sm_w.ite (fun hc => ?_) (fun hc => ?_)
        · have h := h.1 hc
          refine sm_w.run t185 sr185 59 2 (M2 := M) (f2 := (if x3 ≤ 0 then 137 else 116, [some (.ref 116), some (.int (x1)), some (.int (x2)), some (.int (x3)), some (.int (x4)), some (.int (x5)), some (.int (iV M 118 x5.toNatClampNeg))], [])) rfl ⟨trivial, trivial, trivial⟩ ?_
          refine sm_w.ite (fun hc => ?_) (fun hc => ?_)
          · have h := h.1 hc
            refine sm_w.weak (ls := [some (.ref 116), some (.int (x1)), some (.int (x2)), some (.int (x3)), none, some (.int (x5)), none]) (sm_leI [true, true, true, true, false, true, false] rfl) ?_
            exact h
          · have h := h.2 hc
            refine sm_w.run t185 sr185 61 2 (M2 := M) (f2 := (120, [some (.ref 116), some (.int (x1)), some (.int (x2)), some (.int (x3)), some (.int (x4)), some (.int (x5)), some (.int (iV M 118 x5.toNatClampNeg))], [va_rf (sm_rv M 116 48)])) rfl ⟨trivial, sm_K.g (k_116 hS) (sm_sh.rf _), trivial⟩ ?_
            refine sm_w.fld (r_116_48 hS) ?_
            obtain ⟨c8, h⟩ := h
            refine sm_w.run t185 sr185 63 3 (M2 := M) (f2 := (if (iV M 142 x3.toNatClampNeg) = 0 then 125 else 137, [some (.ref 116), some (.int (x1)), some (.int (x2)), some (.int (x3)), some (.int (x4)), some (.int (x5)), some (.int (iV M 118 x5.toNatClampNeg))], [])) rfl ⟨trivial, sm_K.a2 (k_142 hS) (l_142 hS) c8, trivial, trivial⟩ ?_
            refine sm_w.ite (fun hc => ?_) (fun hc => ?_)
            · have h := h.1 hc
              refine sm_w.run t185 sr185 66 5 (M2 := M) (f2 := (if x2 ≤ (x5 + (1 : Int32)) then 137 else 133, [some (.ref 116), some (.int (x1)), some (.int (x2)), some (.int (x3)), some (.int (x4)), some (.int (x5)), some (.int (iV M 118 x5.toNatClampNeg))], [])) rfl ⟨trivial, trivial, trivial, trivial, trivial, trivial⟩ ?_
              refine sm_w.ite (fun hc => ?_) (fun hc => ?_)
              · have h := h.1 hc
                refine sm_w.weak (ls := [some (.ref 116), some (.int (x1)), some (.int (x2)), some (.int (x3)), none, some (.int (x5)), none]) (sm_leI [true, true, true, true, false, true, false] rfl) ?_
                exact h
              · have h := h.2 hc
                refine sm_w.run t185 sr185 71 2 (M2 := M) (f2 := (138, [some (.ref 116), some (.int (x1)), some (.int (x2)), some (.int (x3)), some (.int (x4)), some (.int (x5)), some (.int (iV M 118 x5.toNatClampNeg))], [.int ((1 : Int32))])) rfl ⟨trivial, trivial, trivial⟩ ?_
                refine sm_w.weak (ls := [some (.ref 116), some (.int (x1)), some (.int (x2)), some (.int (x3)), none, some (.int (x5)), none]) (sm_leI [true, true, true, true, false, true, false] rfl) ?_
                exact h
            · have h := h.2 hc
              refine sm_w.weak (ls := [some (.ref 116), some (.int (x1)), some (.int (x2)), some (.int (x3)), none, some (.int (x5)), none]) (sm_leI [true, true, true, true, false, true, false] rfl) ?_
              exact h
        · have h := h.2 hc
          refine sm_w.weak (ls := [some (.ref 116), some (.int (x1)), some (.int (x2)), some (.int (x3)), none, some (.int (x5)), none]) (sm_leI [true, true, true, true, false, true, false] rfl) ?_
          exact h
      · have h := h.2 hc
        refine sm_w.run t185 sr185 40 3 (M2 := M) (f2 := (if (30 : Int32) ≤ x3 then 83 else 79, [some (.ref 116), some (.int (x1)), some (.int (x2)), some (.int (x3)), some (.int (x4)), some (.int (x5)), some (.int (iV M 118 x5.toNatClampNeg))], [])) rfl ⟨trivial, trivial, trivial, trivial⟩ ?_
        refine sm_w.ite (fun hc => ?_) (fun hc => ?_)
        · have h := h.1 hc
          refine sm_w.run t185 sr185 45 1 (M2 := M) (f2 := (84, [some (.ref 116), some (.int (x1)), some (.int (x2)), some (.int (x3)), some (.int (x4)), some (.int (x5)), some (.int (iV M 118 x5.toNatClampNeg))], [.int ((0 : Int32))])) rfl ⟨trivial, trivial⟩ ?_
          refine sm_w.weak (ls := [some (.ref 116), some (.int (x1)), some (.int (x2)), some (.int (x3)), none, some (.int (x5)), some (.int (iV M 118 x5.toNatClampNeg))]) (sm_leI [true, true, true, true, false, true, true] rfl) ?_
          exact h
        · have h := h.2 hc
          refine sm_w.run t185 sr185 43 2 (M2 := M) (f2 := (84, [some (.ref 116), some (.int (x1)), some (.int (x2)), some (.int (x3)), some (.int (x4)), some (.int (x5)), some (.int (iV M 118 x5.toNatClampNeg))], [.int ((1 : Int32))])) rfl ⟨trivial, trivial, trivial⟩ ?_
          refine sm_w.weak (ls := [some (.ref 116), some (.int (x1)), some (.int (x2)), some (.int (x3)), none, some (.int (x5)), some (.int (iV M 118 x5.toNatClampNeg))]) (sm_leI [true, true, true, true, false, true, true] rfl) ?_
          exact h
theorem g185_3 {M : sm_M} {x1 : Int32} {x2 : Int32} {x3 : Int32} {x5 : Int32} {x6 : Int32} {s0 : Int32} {K : sm_M → Prop} (hS : SH M)  (h : ((s0 = 0 → sm_w 185 (45, [some (.ref 116), some (.int (x1)), some (.int (x2)), some (.int (x3 + (1 : Int32))), some (.int (s0)), some (.int (x5 + (1 : Int32))), none], []) M (rV K)) ∧ (¬ s0 = 0 → (vp_in x3 40) ∧ ∀ M2, SH M2 → M2 = sm_wI M 141 x3.toNatClampNeg x6 → sm_w 185 (45, [some (.ref 116), some (.int (x1)), some (.int (x2)), some (.int (x3 + (1 : Int32))), some (.int (s0)), some (.int (x5 + (1 : Int32))), none], []) M2 (rV K)))) : sm_w 185 (84, [some (.ref 116), some (.int (x1)), some (.int (x2)), some (.int (x3)), none, some (.int (x5)), some (.int (x6))], [.int (s0)]) M (rV K) := by
  refine sm_w.run t185 sr185 46 3 (M2 := M) (f2 := (if s0 = 0 then 99 else 91, [some (.ref 116), some (.int (x1)), some (.int (x2)), some (.int (x3)), some (.int (s0)), some (.int (x5)), some (.int (x6))], [])) rfl ⟨(Nat.le_of_ble_eq_true rfl), trivial, trivial, trivial⟩ ?_
  refine sm_w.ite (fun hc => ?_) (fun hc => ?_)
  · have h := h.1 hc
    refine sm_w.run t185 sr185 54 2 (M2 := M) (f2 := (152, [some (.ref 116), some (.int (x1)), some (.int (x2)), some (.int (x3 + (1 : Int32))), some (.int (s0)), some (.int (x5)), some (.int (x6))], [])) rfl ⟨(Nat.le_of_ble_eq_true rfl), trivial, trivial⟩ ?_
    refine sm_w.run t185 sr185 82 2 (M2 := M) (f2 := (45, [some (.ref 116), some (.int (x1)), some (.int (x2)), some (.int (x3 + (1 : Int32))), some (.int (s0)), some (.int (x5 + (1 : Int32))), some (.int (x6))], [])) rfl ⟨(Nat.le_of_ble_eq_true rfl), trivial, trivial⟩ ?_
    refine sm_w.weak (ls := [some (.ref 116), some (.int (x1)), some (.int (x2)), some (.int (x3 + (1 : Int32))), some (.int (s0)), some (.int (x5 + (1 : Int32))), none]) (sm_leI [true, true, true, true, true, true, false] rfl) ?_
    exact h
  · have h := h.2 hc
    refine sm_w.run t185 sr185 49 2 (M2 := M) (f2 := (95, [some (.ref 116), some (.int (x1)), some (.int (x2)), some (.int (x3)), some (.int (s0)), some (.int (x5)), some (.int (x6))], [va_rf (sm_rv M 116 47)])) rfl ⟨trivial, sm_K.g (k_116 hS) (sm_sh.rf _), trivial⟩ ?_
    refine sm_w.fld (r_116_47 hS) ?_
    obtain ⟨c1, h⟩ := h
    refine sm_w.run t185 sr185 51 3 (M2 := sm_wI M 141 x3.toNatClampNeg x6) (f2 := (99, [some (.ref 116), some (.int (x1)), some (.int (x2)), some (.int (x3)), some (.int (s0)), some (.int (x5)), some (.int (x6))], [])) rfl ⟨trivial, trivial, sm_K.s2 (k_141 hS) (l_141 hS) c1, trivial⟩ ?_
    have hS3 : SH (sm_wI M 141 x3.toNatClampNeg x6) := SH.wI hS _ _ _
    have h := h _ hS3 rfl
    generalize sm_wI M 141 x3.toNatClampNeg x6 = M2 at h hS3 ⊢
    refine sm_w.run t185 sr185 54 2 (M2 := M2) (f2 := (152, [some (.ref 116), some (.int (x1)), some (.int (x2)), some (.int (x3 + (1 : Int32))), some (.int (s0)), some (.int (x5)), some (.int (x6))], [])) rfl ⟨(Nat.le_of_ble_eq_true rfl), trivial, trivial⟩ ?_
    refine sm_w.run t185 sr185 82 2 (M2 := M2) (f2 := (45, [some (.ref 116), some (.int (x1)), some (.int (x2)), some (.int (x3 + (1 : Int32))), some (.int (s0)), some (.int (x5 + (1 : Int32))), some (.int (x6))], [])) rfl ⟨(Nat.le_of_ble_eq_true rfl), trivial, trivial⟩ ?_
    refine sm_w.weak (ls := [some (.ref 116), some (.int (x1)), some (.int (x2)), some (.int (x3 + (1 : Int32))), some (.int (s0)), some (.int (x5 + (1 : Int32))), none]) (sm_leI [true, true, true, true, true, true, false] rfl) ?_
    exact h
theorem g185_4 {M : sm_M} {x1 : Int32} {x2 : Int32} {x3 : Int32} {x5 : Int32} {K : sm_M → Prop} (hS : SH M)  (h : sm_w 185 (138, [some (.ref 116), some (.int (x1)), some (.int (x2)), some (.int (x3)), none, some (.int (x5)), none], [.int ((0 : Int32))]) M (rV K)) : sm_w 185 (137, [some (.ref 116), some (.int (x1)), some (.int (x2)), some (.int (x3)), none, some (.int (x5)), none], []) M (rV K) := by
  refine sm_w.run t185 sr185 73 1 (M2 := M) (f2 := (138, [some (.ref 116), some (.int (x1)), some (.int (x2)), some (.int (x3)), none, some (.int (x5)), none], [.int ((0 : Int32))])) rfl ⟨trivial, trivial⟩ ?_
  exact h
theorem g185_5 {M : sm_M} {x1 : Int32} {x2 : Int32} {x3 : Int32} {x5 : Int32} {s0 : Int32} {K : sm_M → Prop} (hS : SH M)  (h : ((s0 = 0 → sm_w 185 (45, [some (.ref 116), some (.int (x1)), some (.int (x2)), some (.int (x3)), some (.int (s0)), some (.int (x5 + (1 : Int32))), none], []) M (rV K)) ∧ (¬ s0 = 0 → (vp_in x3 40) ∧ ∀ M2, SH M2 → M2 = sm_wI M 142 x3.toNatClampNeg (1 : Int32) → sm_w 185 (45, [some (.ref 116), some (.int (x1)), some (.int (x2)), some (.int (x3)), some (.int (s0)), some (.int (x5 + (1 : Int32))), none], []) M2 (rV K)))) : sm_w 185 (138, [some (.ref 116), some (.int (x1)), some (.int (x2)), some (.int (x3)), none, some (.int (x5)), none], [.int (s0)]) M (rV K) := by
  refine sm_w.run t185 sr185 74 3 (M2 := M) (f2 := (if s0 = 0 then 152 else 145, [some (.ref 116), some (.int (x1)), some (.int (x2)), some (.int (x3)), some (.int (s0)), some (.int (x5)), none], [])) rfl ⟨(Nat.le_of_ble_eq_true rfl), trivial, trivial, trivial⟩ ?_
  refine sm_w.ite (fun hc => ?_) (fun hc => ?_)
  · have h := h.1 hc
    refine sm_w.run t185 sr185 82 2 (M2 := M) (f2 := (45, [some (.ref 116), some (.int (x1)), some (.int (x2)), some (.int (x3)), some (.int (s0)), some (.int (x5 + (1 : Int32))), none], [])) rfl ⟨(Nat.le_of_ble_eq_true rfl), trivial, trivial⟩ ?_
    exact h
  · have h := h.2 hc
    refine sm_w.run t185 sr185 77 2 (M2 := M) (f2 := (149, [some (.ref 116), some (.int (x1)), some (.int (x2)), some (.int (x3)), some (.int (s0)), some (.int (x5)), none], [va_rf (sm_rv M 116 48)])) rfl ⟨trivial, sm_K.g (k_116 hS) (sm_sh.rf _), trivial⟩ ?_
    refine sm_w.fld (r_116_48 hS) ?_
    obtain ⟨c1, h⟩ := h
    refine sm_w.run t185 sr185 79 3 (M2 := sm_wI M 142 x3.toNatClampNeg (1 : Int32)) (f2 := (152, [some (.ref 116), some (.int (x1)), some (.int (x2)), some (.int (x3)), some (.int (s0)), some (.int (x5)), none], [])) rfl ⟨trivial, trivial, sm_K.s2 (k_142 hS) (l_142 hS) c1, trivial⟩ ?_
    have hS3 : SH (sm_wI M 142 x3.toNatClampNeg (1 : Int32)) := SH.wI hS _ _ _
    have h := h _ hS3 rfl
    generalize sm_wI M 142 x3.toNatClampNeg (1 : Int32) = M2 at h hS3 ⊢
    refine sm_w.run t185 sr185 82 2 (M2 := M2) (f2 := (45, [some (.ref 116), some (.int (x1)), some (.int (x2)), some (.int (x3)), some (.int (s0)), some (.int (x5 + (1 : Int32))), none], [])) rfl ⟨(Nat.le_of_ble_eq_true rfl), trivial, trivial⟩ ?_
    exact h
theorem g185_6 {M : sm_M} {x1 : Int32} {x3 : Int32} {x5 : Int32} {K : sm_M → Prop} (hS : SH M)  (h : (((iV M 116 46) ≤ x5 → ((x5 = (60 : Int32) → sm_cV 177 [.ref 116, .int (x1)] M (fun M1 => SH M1 → K M1)) ∧ (¬ x5 = (60 : Int32) → ((x5 = (iV M 116 46) → ∀ M4, SH M4 → M4 = sm_wI M 116 46 ((iV M 116 46) + (1 : Int32)) → (vp_in (x5 + (60 : Int32)) 120) ∧ ∀ M7, SH M7 → M7 = sm_wI M4 139 (x5 + (60 : Int32)).toNatClampNeg x3 → sm_w 185 (246, [some (.ref 116), none, none, some (.int (x3)), none, some (.int (x5 + (60 : Int32))), some (.int ((0 : Int32)))], []) M7 (rV K)) ∧ (¬ x5 = (iV M 116 46) → (vp_in (x5 + (60 : Int32)) 120) ∧ ∀ M10, SH M10 → M10 = sm_wI M 139 (x5 + (60 : Int32)).toNatClampNeg x3 → sm_w 185 (246, [some (.ref 116), none, none, some (.int (x3)), none, some (.int (x5 + (60 : Int32))), some (.int ((0 : Int32)))], []) M10 (rV K)))))) ∧ (¬ (iV M 116 46) ≤ x5 → sm_cI 186 [.ref 116, .int ((60 : Int32) + x5), .int (x3)] M (fun v13 M12 => SH M12 → ((v13 = 0 → sm_w 185 (172, [some (.ref 116), some (.int (x1)), none, some (.int (x3)), none, some (.int (x5 + (1 : Int32))), none], []) M12 (rV K)) ∧ (¬ v13 = 0 → ((x5 = (60 : Int32) → sm_cV 177 [.ref 116, .int (x1)] M12 (fun M15 => SH M15 → K M15)) ∧ (¬ x5 = (60 : Int32) → ((x5 = (iV M12 116 46) → ∀ M18, SH M18 → M18 = sm_wI M12 116 46 ((iV M12 116 46) + (1 : Int32)) → (vp_in (x5 + (60 : Int32)) 120) ∧ ∀ M21, SH M21 → M21 = sm_wI M18 139 (x5 + (60 : Int32)).toNatClampNeg x3 → sm_w 185 (246, [some (.ref 116), none, none, some (.int (x3)), none, some (.int (x5 + (60 : Int32))), some (.int ((0 : Int32)))], []) M21 (rV K)) ∧ (¬ x5 = (iV M12 116 46) → (vp_in (x5 + (60 : Int32)) 120) ∧ ∀ M24, SH M24 → M24 = sm_wI M12 139 (x5 + (60 : Int32)).toNatClampNeg x3 → sm_w 185 (246, [some (.ref 116), none, none, some (.int (x3)), none, some (.int (x5 + (60 : Int32))), some (.int ((0 : Int32)))], []) M24 (rV K))))))))))) : sm_w 185 (172, [some (.ref 116), some (.int (x1)), none, some (.int (x3)), none, some (.int (x5)), none], []) M (rV K) := by
  refine sm_w.run t185 sr185 92 4 (M2 := M) (f2 := (if (iV M 116 46) ≤ x5 then 200 else 181, [some (.ref 116), some (.int (x1)), none, some (.int (x3)), none, some (.int (x5)), none], [])) rfl ⟨trivial, trivial, sm_K.g (k_116 hS) (sm_sh.rf _), trivial, trivial⟩ ?_
  refine sm_w.ite (fun hc => ?_) (fun hc => ?_)
  · have h := h.1 hc
    refine sm_w.run t185 sr185 105 3 (M2 := M) (f2 := (if x5 = (60 : Int32) then 207 else 213, [some (.ref 116), some (.int (x1)), none, some (.int (x3)), none, some (.int (x5)), none], [])) rfl ⟨trivial, trivial, trivial, trivial⟩ ?_
    refine sm_w.ite (fun hc => ?_) (fun hc => ?_)
    · have h := h.1 hc
      refine sm_w.run t185 sr185 108 2 (M2 := M) (f2 := (209, [some (.ref 116), some (.int (x1)), none, some (.int (x3)), none, some (.int (x5)), none], [.int (x1), .ref 116])) rfl ⟨trivial, trivial, trivial⟩ ?_
      refine sm_w.cV t185 sr185 110 (i := 177) (as := [.ref 116, .int (x1)]) (g := (209, [some (.ref 116), some (.int (x1)), none, some (.int (x3)), none, some (.int (x5)), none], [])) rfl ⟨by decide, by decide, (Nat.le_of_ble_eq_true rfl), (sm_K.g (k_116 hS) (sm_sh.rf _)).1, (sm_K.g (k_116 hS) (sm_sh.rf _)).2, (Nat.le_of_ble_eq_true rfl)⟩ (Nat.le_of_ble_eq_true rfl) (by decide) (sm_cV.s (by decide) hS h) (fun M1 h => ?_)
      obtain ⟨hS3, h⟩ := h
      exact sm_w.end t185 sr185 111 (o := .returned none) (M2 := M1) rfl trivial (by decide) (⟨rfl, h⟩)
    · have h := h.2 hc
      refine sm_w.run t185 sr185 112 4 (M2 := M) (f2 := (if x5 = (iV M 116 46) then 222 else 232, [some (.ref 116), some (.int (x1)), none, some (.int (x3)), none, some (.int (x5)), none], [])) rfl ⟨trivial, trivial, sm_K.g (k_116 hS) (sm_sh.rf _), trivial, trivial⟩ ?_
      refine sm_w.ite (fun hc => ?_) (fun hc => ?_)
      · have h := h.1 hc
        refine sm_w.run t185 sr185 116 6 (M2 := sm_wI M 116 46 ((iV M 116 46) + (1 : Int32))) (f2 := (232, [some (.ref 116), some (.int (x1)), none, some (.int (x3)), none, some (.int (x5)), none], [])) rfl ⟨trivial, rfl, sm_K.g (k_116 hS) (sm_sh.rf _), trivial, trivial, ⟨(sm_K.p (k_116 hS) (sm_sh.rf _)).1, (sm_K.p (k_116 hS) (sm_sh.rf _)).2.1, (sm_K.p (k_116 hS) (sm_sh.rf _)).2.2, Or.inl rfl⟩, trivial⟩ ?_
        have hS5 : SH (sm_wI M 116 46 ((iV M 116 46) + (1 : Int32))) := SH.wI hS _ _ _
        have h := h _ hS5 rfl
        generalize sm_wI M 116 46 ((iV M 116 46) + (1 : Int32)) = M4 at h hS5 ⊢
        refine sm_w.run t185 sr185 122 3 (M2 := M4) (f2 := (239, [some (.ref 116), some (.int (x1)), none, some (.int (x3)), none, some (.int (x5 + (60 : Int32))), none], [va_rf (sm_rv M4 116 41)])) rfl ⟨(Nat.le_of_ble_eq_true rfl), trivial, sm_K.g (k_116 hS5) (sm_sh.rf _), trivial⟩ ?_
        refine sm_w.fld (r_116_41 hS5) ?_
        obtain ⟨c6, h⟩ := h
        refine sm_w.run t185 sr185 125 3 (M2 := sm_wI M4 139 (x5 + (60 : Int32)).toNatClampNeg x3) (f2 := (243, [some (.ref 116), some (.int (x1)), none, some (.int (x3)), none, some (.int (x5 + (60 : Int32))), none], [])) rfl ⟨trivial, trivial, sm_K.s2 (k_139 hS5) (l_139 hS5) c6, trivial⟩ ?_
        have hS8 : SH (sm_wI M4 139 (x5 + (60 : Int32)).toNatClampNeg x3) := SH.wI hS5 _ _ _
        have h := h _ hS8 rfl
        generalize sm_wI M4 139 (x5 + (60 : Int32)).toNatClampNeg x3 = M7 at h hS8 ⊢
        refine sm_w.run t185 sr185 128 2 (M2 := M7) (f2 := (246, [some (.ref 116), some (.int (x1)), none, some (.int (x3)), none, some (.int (x5 + (60 : Int32))), some (.int ((0 : Int32)))], [])) rfl ⟨trivial, (Nat.le_of_ble_eq_true rfl), trivial⟩ ?_
        refine sm_w.weak (ls := [some (.ref 116), none, none, some (.int (x3)), none, some (.int (x5 + (60 : Int32))), some (.int ((0 : Int32)))]) (sm_leI [true, false, false, true, false, true, true] rfl) ?_
        exact h
      · have h := h.2 hc
        refine sm_w.run t185 sr185 122 3 (M2 := M) (f2 := (239, [some (.ref 116), some (.int (x1)), none, some (.int (x3)), none, some (.int (x5 + (60 : Int32))), none], [va_rf (sm_rv M 116 41)])) rfl ⟨(Nat.le_of_ble_eq_true rfl), trivial, sm_K.g (k_116 hS) (sm_sh.rf _), trivial⟩ ?_
        refine sm_w.fld (r_116_41 hS) ?_
        obtain ⟨c9, h⟩ := h
        refine sm_w.run t185 sr185 125 3 (M2 := sm_wI M 139 (x5 + (60 : Int32)).toNatClampNeg x3) (f2 := (243, [some (.ref 116), some (.int (x1)), none, some (.int (x3)), none, some (.int (x5 + (60 : Int32))), none], [])) rfl ⟨trivial, trivial, sm_K.s2 (k_139 hS) (l_139 hS) c9, trivial⟩ ?_
        have hS11 : SH (sm_wI M 139 (x5 + (60 : Int32)).toNatClampNeg x3) := SH.wI hS _ _ _
        have h := h _ hS11 rfl
        generalize sm_wI M 139 (x5 + (60 : Int32)).toNatClampNeg x3 = M10 at h hS11 ⊢
        refine sm_w.run t185 sr185 128 2 (M2 := M10) (f2 := (246, [some (.ref 116), some (.int (x1)), none, some (.int (x3)), none, some (.int (x5 + (60 : Int32))), some (.int ((0 : Int32)))], [])) rfl ⟨trivial, (Nat.le_of_ble_eq_true rfl), trivial⟩ ?_
        refine sm_w.weak (ls := [some (.ref 116), none, none, some (.int (x3)), none, some (.int (x5 + (60 : Int32))), some (.int ((0 : Int32)))]) (sm_leI [true, false, false, true, false, true, true] rfl) ?_
        exact h
  · have h := h.2 hc
    refine sm_w.run t185 sr185 96 5 (M2 := M) (f2 := (188, [some (.ref 116), some (.int (x1)), none, some (.int (x3)), none, some (.int (x5)), none], [.int (x3), .int ((60 : Int32) + x5), .ref 116])) rfl ⟨trivial, trivial, trivial, trivial, trivial, trivial⟩ ?_
    refine sm_w.cI t185 sr185 101 (i := 186) (as := [.ref 116, .int ((60 : Int32) + x5), .int (x3)]) (g := (188, [some (.ref 116), some (.int (x1)), none, some (.int (x3)), none, some (.int (x5)), none], [])) rfl ⟨by decide, by decide, (Nat.le_of_ble_eq_true rfl), (sm_K.g (k_116 hS) (sm_sh.rf _)).1, (sm_K.g (k_116 hS) (sm_sh.rf _)).2, (Nat.le_of_ble_eq_true rfl)⟩ (Nat.le_of_ble_eq_true rfl) (by decide) (sm_cI.s (by decide) hS h) (fun v13 M12 h => ?_)
    obtain ⟨hS14, h⟩ := h
    refine sm_w.run t185 sr185 102 1 (M2 := M12) (f2 := (if v13 = 0 then 194 else 200, [some (.ref 116), some (.int (x1)), none, some (.int (x3)), none, some (.int (x5)), none], [])) rfl ⟨trivial, trivial⟩ ?_
    refine sm_w.ite (fun hc => ?_) (fun hc => ?_)
    · have h := h.1 hc
      refine sm_w.run t185 sr185 103 2 (M2 := M12) (f2 := (172, [some (.ref 116), some (.int (x1)), none, some (.int (x3)), none, some (.int (x5 + (1 : Int32))), none], [])) rfl ⟨(Nat.le_of_ble_eq_true rfl), trivial, trivial⟩ ?_
      exact h
    · have h := h.2 hc
      refine sm_w.run t185 sr185 105 3 (M2 := M12) (f2 := (if x5 = (60 : Int32) then 207 else 213, [some (.ref 116), some (.int (x1)), none, some (.int (x3)), none, some (.int (x5)), none], [])) rfl ⟨trivial, trivial, trivial, trivial⟩ ?_
      refine sm_w.ite (fun hc => ?_) (fun hc => ?_)
      · have h := h.1 hc
        refine sm_w.run t185 sr185 108 2 (M2 := M12) (f2 := (209, [some (.ref 116), some (.int (x1)), none, some (.int (x3)), none, some (.int (x5)), none], [.int (x1), .ref 116])) rfl ⟨trivial, trivial, trivial⟩ ?_
        refine sm_w.cV t185 sr185 110 (i := 177) (as := [.ref 116, .int (x1)]) (g := (209, [some (.ref 116), some (.int (x1)), none, some (.int (x3)), none, some (.int (x5)), none], [])) rfl ⟨by decide, by decide, (Nat.le_of_ble_eq_true rfl), (sm_K.g (k_116 hS14) (sm_sh.rf _)).1, (sm_K.g (k_116 hS14) (sm_sh.rf _)).2, (Nat.le_of_ble_eq_true rfl)⟩ (Nat.le_of_ble_eq_true rfl) (by decide) (sm_cV.s (by decide) hS14 h) (fun M15 h => ?_)
        obtain ⟨hS17, h⟩ := h
        exact sm_w.end t185 sr185 111 (o := .returned none) (M2 := M15) rfl trivial (by decide) (⟨rfl, h⟩)
      · have h := h.2 hc
        refine sm_w.run t185 sr185 112 4 (M2 := M12) (f2 := (if x5 = (iV M12 116 46) then 222 else 232, [some (.ref 116), some (.int (x1)), none, some (.int (x3)), none, some (.int (x5)), none], [])) rfl ⟨trivial, trivial, sm_K.g (k_116 hS14) (sm_sh.rf _), trivial, trivial⟩ ?_
        refine sm_w.ite (fun hc => ?_) (fun hc => ?_)
        · have h := h.1 hc
          refine sm_w.run t185 sr185 116 6 (M2 := sm_wI M12 116 46 ((iV M12 116 46) + (1 : Int32))) (f2 := (232, [some (.ref 116), some (.int (x1)), none, some (.int (x3)), none, some (.int (x5)), none], [])) rfl ⟨trivial, rfl, sm_K.g (k_116 hS14) (sm_sh.rf _), trivial, trivial, ⟨(sm_K.p (k_116 hS14) (sm_sh.rf _)).1, (sm_K.p (k_116 hS14) (sm_sh.rf _)).2.1, (sm_K.p (k_116 hS14) (sm_sh.rf _)).2.2, Or.inl rfl⟩, trivial⟩ ?_
          have hS19 : SH (sm_wI M12 116 46 ((iV M12 116 46) + (1 : Int32))) := SH.wI hS14 _ _ _
          have h := h _ hS19 rfl
          generalize sm_wI M12 116 46 ((iV M12 116 46) + (1 : Int32)) = M18 at h hS19 ⊢
          refine sm_w.run t185 sr185 122 3 (M2 := M18) (f2 := (239, [some (.ref 116), some (.int (x1)), none, some (.int (x3)), none, some (.int (x5 + (60 : Int32))), none], [va_rf (sm_rv M18 116 41)])) rfl ⟨(Nat.le_of_ble_eq_true rfl), trivial, sm_K.g (k_116 hS19) (sm_sh.rf _), trivial⟩ ?_
          refine sm_w.fld (r_116_41 hS19) ?_
          obtain ⟨c20, h⟩ := h
          refine sm_w.run t185 sr185 125 3 (M2 := sm_wI M18 139 (x5 + (60 : Int32)).toNatClampNeg x3) (f2 := (243, [some (.ref 116), some (.int (x1)), none, some (.int (x3)), none, some (.int (x5 + (60 : Int32))), none], [])) rfl ⟨trivial, trivial, sm_K.s2 (k_139 hS19) (l_139 hS19) c20, trivial⟩ ?_
          have hS22 : SH (sm_wI M18 139 (x5 + (60 : Int32)).toNatClampNeg x3) := SH.wI hS19 _ _ _
          have h := h _ hS22 rfl
          generalize sm_wI M18 139 (x5 + (60 : Int32)).toNatClampNeg x3 = M21 at h hS22 ⊢
          refine sm_w.run t185 sr185 128 2 (M2 := M21) (f2 := (246, [some (.ref 116), some (.int (x1)), none, some (.int (x3)), none, some (.int (x5 + (60 : Int32))), some (.int ((0 : Int32)))], [])) rfl ⟨trivial, (Nat.le_of_ble_eq_true rfl), trivial⟩ ?_
          refine sm_w.weak (ls := [some (.ref 116), none, none, some (.int (x3)), none, some (.int (x5 + (60 : Int32))), some (.int ((0 : Int32)))]) (sm_leI [true, false, false, true, false, true, true] rfl) ?_
          exact h
        · have h := h.2 hc
          refine sm_w.run t185 sr185 122 3 (M2 := M12) (f2 := (239, [some (.ref 116), some (.int (x1)), none, some (.int (x3)), none, some (.int (x5 + (60 : Int32))), none], [va_rf (sm_rv M12 116 41)])) rfl ⟨(Nat.le_of_ble_eq_true rfl), trivial, sm_K.g (k_116 hS14) (sm_sh.rf _), trivial⟩ ?_
          refine sm_w.fld (r_116_41 hS14) ?_
          obtain ⟨c23, h⟩ := h
          refine sm_w.run t185 sr185 125 3 (M2 := sm_wI M12 139 (x5 + (60 : Int32)).toNatClampNeg x3) (f2 := (243, [some (.ref 116), some (.int (x1)), none, some (.int (x3)), none, some (.int (x5 + (60 : Int32))), none], [])) rfl ⟨trivial, trivial, sm_K.s2 (k_139 hS14) (l_139 hS14) c23, trivial⟩ ?_
          have hS25 : SH (sm_wI M12 139 (x5 + (60 : Int32)).toNatClampNeg x3) := SH.wI hS14 _ _ _
          have h := h _ hS25 rfl
          generalize sm_wI M12 139 (x5 + (60 : Int32)).toNatClampNeg x3 = M24 at h hS25 ⊢
          refine sm_w.run t185 sr185 128 2 (M2 := M24) (f2 := (246, [some (.ref 116), some (.int (x1)), none, some (.int (x3)), none, some (.int (x5 + (60 : Int32))), some (.int ((0 : Int32)))], [])) rfl ⟨trivial, (Nat.le_of_ble_eq_true rfl), trivial⟩ ?_
          refine sm_w.weak (ls := [some (.ref 116), none, none, some (.int (x3)), none, some (.int (x5 + (60 : Int32))), some (.int ((0 : Int32)))]) (sm_leI [true, false, false, true, false, true, true] rfl) ?_
          exact h
theorem g185_7 {M : sm_M} {x3 : Int32} {x5 : Int32} {x6 : Int32} {K : sm_M → Prop} (hS : SH M)  (h : ((x3 ≤ x6 → K M) ∧ (¬ x3 ≤ x6 → (vp_in x6 40) ∧ (vp_in (((32 : Int32) * x5) + x6) 3840) ∧ ∀ M3, SH M3 → M3 = sm_wI M 138 (((32 : Int32) * x5) + x6).toNatClampNeg (iV M 141 x6.toNatClampNeg) → (vp_in x6 40) ∧ (((iV M3 142 x6.toNatClampNeg) = (1 : Int32) → (vp_in (((32 : Int32) * x5) + x6) 3840) ∧ ∀ M7, SH M7 → M7 = sm_wI M3 140 (((32 : Int32) * x5) + x6).toNatClampNeg ((1 : Int32) &&& 1) → sm_w 185 (246, [some (.ref 116), none, none, some (.int (x3)), none, some (.int (x5)), some (.int (x6 + (1 : Int32)))], []) M7 (rV K)) ∧ (¬ (iV M3 142 x6.toNatClampNeg) = (1 : Int32) → (vp_in (((32 : Int32) * x5) + x6) 3840) ∧ ∀ M10, SH M10 → M10 = sm_wI M3 140 (((32 : Int32) * x5) + x6).toNatClampNeg ((0 : Int32) &&& 1) → sm_w 185 (246, [some (.ref 116), none, none, some (.int (x3)), none, some (.int (x5)), some (.int (x6 + (1 : Int32)))], []) M10 (rV K)))))) : sm_w 185 (246, [some (.ref 116), none, none, some (.int (x3)), none, some (.int (x5)), some (.int (x6))], []) M (rV K) := by
  refine sm_w.run t185 sr185 130 3 (M2 := M) (f2 := (if x3 ≤ x6 then 307 else 252, [some (.ref 116), none, none, some (.int (x3)), none, some (.int (x5)), some (.int (x6))], [])) rfl ⟨trivial, trivial, trivial, trivial⟩ ?_
  refine sm_w.ite (fun hc => ?_) (fun hc => ?_)
  · have h := h.1 hc
    exact sm_w.end t185 sr185 164 (o := .returned none) (M2 := M) rfl trivial (by decide) (⟨rfl, h⟩)
  · have h := h.2 hc
    refine sm_w.run t185 sr185 133 2 (M2 := M) (f2 := (256, [some (.ref 116), none, none, some (.int (x3)), none, some (.int (x5)), some (.int (x6))], [va_rf (sm_rv M 116 40)])) rfl ⟨trivial, sm_K.g (k_116 hS) (sm_sh.rf _), trivial⟩ ?_
    refine sm_w.fld (r_116_40 hS) ?_
    refine sm_w.run t185 sr185 135 7 (M2 := M) (f2 := (268, [some (.ref 116), none, none, some (.int (x3)), none, some (.int (x5)), some (.int (x6))], [va_rf (sm_rv M 116 47), .int (((32 : Int32) * x5) + x6), .ref 138])) rfl ⟨trivial, trivial, trivial, trivial, trivial, trivial, sm_K.g (k_116 hS) (sm_sh.rf _), trivial⟩ ?_
    refine sm_w.fld (r_116_47 hS) ?_
    obtain ⟨c1, c2, h⟩ := h
    refine sm_w.run t185 sr185 142 3 (M2 := sm_wI M 138 (((32 : Int32) * x5) + x6).toNatClampNeg (iV M 141 x6.toNatClampNeg)) (f2 := (272, [some (.ref 116), none, none, some (.int (x3)), none, some (.int (x5)), some (.int (x6))], [])) rfl ⟨trivial, sm_K.a2 (k_141 hS) (l_141 hS) c1, sm_K.s2 (k_138 hS) (l_138 hS) c2, trivial⟩ ?_
    have hS4 : SH (sm_wI M 138 (((32 : Int32) * x5) + x6).toNatClampNeg (iV M 141 x6.toNatClampNeg)) := SH.wI hS _ _ _
    have h := h _ hS4 rfl
    generalize sm_wI M 138 (((32 : Int32) * x5) + x6).toNatClampNeg (iV M 141 x6.toNatClampNeg) = M3 at h hS4 ⊢
    refine sm_w.run t185 sr185 145 2 (M2 := M3) (f2 := (276, [some (.ref 116), none, none, some (.int (x3)), none, some (.int (x5)), some (.int (x6))], [va_rf (sm_rv M3 116 42)])) rfl ⟨trivial, sm_K.g (k_116 hS4) (sm_sh.rf _), trivial⟩ ?_
    refine sm_w.fld (r_116_42 hS4) ?_
    refine sm_w.run t185 sr185 147 7 (M2 := M3) (f2 := (288, [some (.ref 116), none, none, some (.int (x3)), none, some (.int (x5)), some (.int (x6))], [va_rf (sm_rv M3 116 48), .int (((32 : Int32) * x5) + x6), .ref 140])) rfl ⟨trivial, trivial, trivial, trivial, trivial, trivial, sm_K.g (k_116 hS4) (sm_sh.rf _), trivial⟩ ?_
    refine sm_w.fld (r_116_48 hS4) ?_
    obtain ⟨c5, h⟩ := h
    refine sm_w.run t185 sr185 154 4 (M2 := M3) (f2 := (if (iV M3 142 x6.toNatClampNeg) = (1 : Int32) then 295 else 299, [some (.ref 116), none, none, some (.int (x3)), none, some (.int (x5)), some (.int (x6))], [.int (((32 : Int32) * x5) + x6), .ref 140])) rfl ⟨trivial, sm_K.a2 (k_142 hS4) (l_142 hS4) c5, trivial, trivial, trivial⟩ ?_
    refine sm_w.ite (fun hc => ?_) (fun hc => ?_)
    · have h := h.1 hc
      refine sm_w.run t185 sr185 158 2 (M2 := M3) (f2 := (300, [some (.ref 116), none, none, some (.int (x3)), none, some (.int (x5)), some (.int (x6))], [.int ((1 : Int32)), .int (((32 : Int32) * x5) + x6), .ref 140])) rfl ⟨trivial, trivial, trivial⟩ ?_
      obtain ⟨c6, h⟩ := h
      refine sm_w.run t185 sr185 161 1 (M2 := sm_wI M3 140 (((32 : Int32) * x5) + x6).toNatClampNeg ((1 : Int32) &&& 1)) (f2 := (301, [some (.ref 116), none, none, some (.int (x3)), none, some (.int (x5)), some (.int (x6))], [])) rfl ⟨sm_K.s2 (k_140 hS4) (l_140 hS4) c6, trivial⟩ ?_
      have hS8 : SH (sm_wI M3 140 (((32 : Int32) * x5) + x6).toNatClampNeg ((1 : Int32) &&& 1)) := SH.wI hS4 _ _ _
      have h := h _ hS8 rfl
      generalize sm_wI M3 140 (((32 : Int32) * x5) + x6).toNatClampNeg ((1 : Int32) &&& 1) = M7 at h hS8 ⊢
      refine sm_w.run t185 sr185 162 2 (M2 := M7) (f2 := (246, [some (.ref 116), none, none, some (.int (x3)), none, some (.int (x5)), some (.int (x6 + (1 : Int32)))], [])) rfl ⟨(Nat.le_of_ble_eq_true rfl), trivial, trivial⟩ ?_
      exact h
    · have h := h.2 hc
      obtain ⟨c9, h⟩ := h
      refine sm_w.run t185 sr185 160 2 (M2 := sm_wI M3 140 (((32 : Int32) * x5) + x6).toNatClampNeg ((0 : Int32) &&& 1)) (f2 := (301, [some (.ref 116), none, none, some (.int (x3)), none, some (.int (x5)), some (.int (x6))], [])) rfl ⟨trivial, sm_K.s2 (k_140 hS4) (l_140 hS4) c9, trivial⟩ ?_
      have hS11 : SH (sm_wI M3 140 (((32 : Int32) * x5) + x6).toNatClampNeg ((0 : Int32) &&& 1)) := SH.wI hS4 _ _ _
      have h := h _ hS11 rfl
      generalize sm_wI M3 140 (((32 : Int32) * x5) + x6).toNatClampNeg ((0 : Int32) &&& 1) = M10 at h hS11 ⊢
      refine sm_w.run t185 sr185 162 2 (M2 := M10) (f2 := (246, [some (.ref 116), none, none, some (.int (x3)), none, some (.int (x5)), some (.int (x6 + (1 : Int32)))], [])) rfl ⟨(Nat.le_of_ble_eq_true rfl), trivial, trivial⟩ ?_
      exact h
-- 187 LineSetterModel.isLeast(I)Z
theorem t187 : sP 187 = (1, sp_187, sh_187) := rfl
theorem sr187 : sm_srt sp_187 = true := by decide +kernel
theorem g187_0 {M : sm_M} {x0 : Int32} {K : Int32 → sm_M → Prop} (hS : SH M)  (h : ((x0 < (49 : Int32) → K (0 : Int32) M) ∧ (¬ x0 < (49 : Int32) → (((57 : Int32) < x0 → K (0 : Int32) M) ∧ (¬ (57 : Int32) < x0 → K (1 : Int32) M))))) : sm_w 187 (sm_in sP 187 [.int (x0)]) M (rI K) := by
  show sm_w 187 (0, [some (.int (x0))], []) M (rI K)
  refine sm_w.run t187 sr187 0 3 (M2 := M) (f2 := (if x0 < (49 : Int32) then 16 else 6, [some (.int (x0))], [])) rfl ⟨trivial, trivial, trivial, trivial⟩ ?_
  refine sm_w.ite (fun hc => ?_) (fun hc => ?_)
  · have h := h.1 hc
    refine sm_w.run t187 sr187 8 1 (M2 := M) (f2 := (17, [some (.int (x0))], [.int ((0 : Int32))])) rfl ⟨trivial, trivial⟩ ?_
    exact sm_w.end t187 sr187 9 (o := .returned (some (.int ((0 : Int32))))) (M2 := M) rfl rfl (by decide) (⟨_, rfl, h⟩)
  · have h := h.2 hc
    refine sm_w.run t187 sr187 3 3 (M2 := M) (f2 := (if (57 : Int32) < x0 then 16 else 12, [some (.int (x0))], [])) rfl ⟨trivial, trivial, trivial, trivial⟩ ?_
    refine sm_w.ite (fun hc => ?_) (fun hc => ?_)
    · have h := h.1 hc
      refine sm_w.run t187 sr187 8 1 (M2 := M) (f2 := (17, [some (.int (x0))], [.int ((0 : Int32))])) rfl ⟨trivial, trivial⟩ ?_
      exact sm_w.end t187 sr187 9 (o := .returned (some (.int ((0 : Int32))))) (M2 := M) rfl rfl (by decide) (⟨_, rfl, h⟩)
    · have h := h.2 hc
      refine sm_w.run t187 sr187 6 2 (M2 := M) (f2 := (17, [some (.int (x0))], [.int ((1 : Int32))])) rfl ⟨trivial, trivial, trivial⟩ ?_
      exact sm_w.end t187 sr187 9 (o := .returned (some (.int ((1 : Int32))))) (M2 := M) rfl rfl (by decide) (⟨_, rfl, h⟩)
def p187_0 (M : sm_M) (x0 : Int32) : Int32 := if x0 < (49 : Int32) then (0 : Int32) else (if (57 : Int32) < x0 then (0 : Int32) else (1 : Int32))
theorem p187_c {M : sm_M} {x0 : Int32} (hS : SH M)  : sm_cI 187 [.int (x0)] M (fun v M2 => v = p187_0 M x0 ∧ M2 = M) := by
  refine g187_0 (K := (fun v M2 => v = p187_0 M x0 ∧ M2 = M)) hS ?_
  refine ⟨fun e1 => ?_, fun e1 => ?_⟩
  · refine ⟨?_, rfl⟩
    unfold p187_0
    rw [if_pos e1]
  · refine ⟨fun e2 => ?_, fun e2 => ?_⟩
    · refine ⟨?_, rfl⟩
      unfold p187_0
      rw [if_neg e1, if_pos e2]
    · refine ⟨?_, rfl⟩
      unfold p187_0
      rw [if_neg e1, if_neg e2]
-- 189 LineSetterModel.isPattern(II)Z
theorem t189 : sP 189 = (4, sp_189, sh_189) := rfl
theorem sr189 : sm_srt sp_189 = true := by decide +kernel
theorem g189_0 {M : sm_M} {x1 : Int32} {x2 : Int32} {K : Int32 → sm_M → Prop} (hS : SH M)  (h : (vp_in x1 600) ∧ (((iV M 136 x1.toNatClampNeg) = x2 → sm_w 189 (14, [some (.ref 116), some (.int (x1)), some (.int (x2)), some (.int ((0 : Int32)))], []) M (rI K)) ∧ (¬ (iV M 136 x1.toNatClampNeg) = x2 → K (0 : Int32) M))) : sm_w 189 (sm_in sP 189 [.ref 116, .int (x1), .int (x2)]) M (rI K) := by
  show sm_w 189 (0, [some (.ref 116), some (.int (x1)), some (.int (x2)), none], []) M (rI K)
  refine sm_w.run t189 sr189 0 2 (M2 := M) (f2 := (4, [some (.ref 116), some (.int (x1)), some (.int (x2)), none], [va_rf (sm_rv M 116 38)])) rfl ⟨trivial, sm_K.g (k_116 hS) (sm_sh.rf _), trivial⟩ ?_
  refine sm_w.fld (r_116_38 hS) ?_
  obtain ⟨c1, h⟩ := h
  refine sm_w.run t189 sr189 2 4 (M2 := M) (f2 := (if (iV M 136 x1.toNatClampNeg) = x2 then 12 else 10, [some (.ref 116), some (.int (x1)), some (.int (x2)), none], [])) rfl ⟨trivial, sm_K.a2 (k_136 hS) (l_136 hS) c1, trivial, trivial, trivial⟩ ?_
  refine sm_w.ite (fun hc => ?_) (fun hc => ?_)
  · have h := h.1 hc
    refine sm_w.run t189 sr189 8 2 (M2 := M) (f2 := (14, [some (.ref 116), some (.int (x1)), some (.int (x2)), some (.int ((0 : Int32)))], [])) rfl ⟨trivial, (Nat.le_of_ble_eq_true rfl), trivial⟩ ?_
    exact h
  · have h := h.2 hc
    refine sm_w.run t189 sr189 6 1 (M2 := M) (f2 := (11, [some (.ref 116), some (.int (x1)), some (.int (x2)), none], [.int ((0 : Int32))])) rfl ⟨trivial, trivial⟩ ?_
    exact sm_w.end t189 sr189 7 (o := .returned (some (.int ((0 : Int32))))) (M2 := M) rfl rfl (by decide) (⟨_, rfl, h⟩)
theorem g189_1 {M : sm_M} {x1 : Int32} {x2 : Int32} {x3 : Int32} {K : Int32 → sm_M → Prop} (hS : SH M)  (h : ((x2 ≤ x3 → K (1 : Int32) M) ∧ (¬ x2 ≤ x3 → (vp_in (((16 : Int32) * x1) + x3) 9600) ∧ (vp_in x3 40) ∧ (((iV M 135 (((16 : Int32) * x1) + x3).toNatClampNeg) = (iV M 141 x3.toNatClampNeg) → sm_w 189 (14, [some (.ref 116), some (.int (x1)), some (.int (x2)), some (.int (x3 + (1 : Int32)))], []) M (rI K)) ∧ (¬ (iV M 135 (((16 : Int32) * x1) + x3).toNatClampNeg) = (iV M 141 x3.toNatClampNeg) → K (0 : Int32) M))))) : sm_w 189 (14, [some (.ref 116), some (.int (x1)), some (.int (x2)), some (.int (x3))], []) M (rI K) := by
  refine sm_w.run t189 sr189 10 3 (M2 := M) (f2 := (if x2 ≤ x3 then 47 else 19, [some (.ref 116), some (.int (x1)), some (.int (x2)), some (.int (x3))], [])) rfl ⟨trivial, trivial, trivial, trivial⟩ ?_
  refine sm_w.ite (fun hc => ?_) (fun hc => ?_)
  · have h := h.1 hc
    refine sm_w.run t189 sr189 30 1 (M2 := M) (f2 := (48, [some (.ref 116), some (.int (x1)), some (.int (x2)), some (.int (x3))], [.int ((1 : Int32))])) rfl ⟨trivial, trivial⟩ ?_
    exact sm_w.end t189 sr189 31 (o := .returned (some (.int ((1 : Int32))))) (M2 := M) rfl rfl (by decide) (⟨_, rfl, h⟩)
  · have h := h.2 hc
    refine sm_w.run t189 sr189 13 2 (M2 := M) (f2 := (23, [some (.ref 116), some (.int (x1)), some (.int (x2)), some (.int (x3))], [va_rf (sm_rv M 116 37)])) rfl ⟨trivial, sm_K.g (k_116 hS) (sm_sh.rf _), trivial⟩ ?_
    refine sm_w.fld (r_116_37 hS) ?_
    obtain ⟨c1, h⟩ := h
    refine sm_w.run t189 sr189 15 8 (M2 := M) (f2 := (34, [some (.ref 116), some (.int (x1)), some (.int (x2)), some (.int (x3))], [va_rf (sm_rv M 116 47), .int (iV M 135 (((16 : Int32) * x1) + x3).toNatClampNeg)])) rfl ⟨trivial, trivial, trivial, trivial, trivial, sm_K.a2 (k_135 hS) (l_135 hS) c1, trivial, sm_K.g (k_116 hS) (sm_sh.rf _), trivial⟩ ?_
    refine sm_w.fld (r_116_47 hS) ?_
    obtain ⟨c2, h⟩ := h
    refine sm_w.run t189 sr189 23 3 (M2 := M) (f2 := (if (iV M 135 (((16 : Int32) * x1) + x3).toNatClampNeg) = (iV M 141 x3.toNatClampNeg) then 41 else 39, [some (.ref 116), some (.int (x1)), some (.int (x2)), some (.int (x3))], [])) rfl ⟨trivial, sm_K.a2 (k_141 hS) (l_141 hS) c2, trivial, trivial⟩ ?_
    refine sm_w.ite (fun hc => ?_) (fun hc => ?_)
    · have h := h.1 hc
      refine sm_w.run t189 sr189 28 2 (M2 := M) (f2 := (14, [some (.ref 116), some (.int (x1)), some (.int (x2)), some (.int (x3 + (1 : Int32)))], [])) rfl ⟨(Nat.le_of_ble_eq_true rfl), trivial, trivial⟩ ?_
      exact h
    · have h := h.2 hc
      refine sm_w.run t189 sr189 26 1 (M2 := M) (f2 := (40, [some (.ref 116), some (.int (x1)), some (.int (x2)), some (.int (x3))], [.int ((0 : Int32))])) rfl ⟨trivial, trivial⟩ ?_
      exact sm_w.end t189 sr189 27 (o := .returned (some (.int ((0 : Int32))))) (M2 := M) rfl rfl (by decide) (⟨_, rfl, h⟩)
