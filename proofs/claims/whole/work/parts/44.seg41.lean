/-! METHODS by their segments. -/
-- 213 LineSetterModel.takeRow()V
theorem t213 : sP 213 = (4, sp_213, sh_213) := rfl
theorem sr213 : sm_srt sp_213 = true := by decide +kernel
theorem g213_0 {M : sm_M}  {K : sm_M → Prop} (hS : SH M)  (h : sm_w 213 (4, [some (.ref 116), some (.int ((-1 : Int32))), some (.int ((0 : Int32))), none], []) M (rV K)) : sm_w 213 (sm_in sP 213 [.ref 116]) M (rV K) := by
  show sm_w 213 (0, [some (.ref 116), none, none, none], []) M (rV K)
  refine sm_w.run t213 sr213 0 4 (M2 := M) (f2 := (4, [some (.ref 116), some (.int ((-1 : Int32))), some (.int ((0 : Int32))), none], [])) rfl ⟨trivial, (Nat.le_of_ble_eq_true rfl), trivial, (Nat.le_of_ble_eq_true rfl), trivial⟩ ?_
  exact h
theorem g213_1 {M : sm_M} {x1 : Int32} {x2 : Int32} {K : sm_M → Prop} (hS : SH M)  (h : (((4 : Int32) ≤ x2 → (vp_in x1 2408) ∧ ∀ M2, SH M2 → M2 = sm_wJ M 116 66 (jV M 158 x1.toNatClampNeg) → sm_w 213 (107, [some (.ref 116), some (.int (x1)), some (.int ((0 : Int32))), some (.int (x1))], []) M2 (rV K)) ∧ (¬ (4 : Int32) ≤ x2 → (vp_in (((4 : Int32) * (iV M 116 63)) + x2) 2408) ∧ (((iV M 160 (((4 : Int32) * (iV M 116 63)) + x2).toNatClampNeg) = 0 → sm_w 213 (4, [some (.ref 116), some (.int (x1)), some (.int (x2 + (1 : Int32))), none], []) M (rV K)) ∧ (¬ (iV M 160 (((4 : Int32) * (iV M 116 63)) + x2).toNatClampNeg) = 0 → ((x1 < 0 → sm_w 213 (4, [some (.ref 116), some (.int (((4 : Int32) * (iV M 116 63)) + x2)), some (.int (x2 + (1 : Int32))), none], []) M (rV K)) ∧ (¬ x1 < 0 → (vp_in (((4 : Int32) * (iV M 116 63)) + x2) 2408) ∧ (vp_in x1 2408) ∧ (((jV M 158 (((4 : Int32) * (iV M 116 63)) + x2).toNatClampNeg) < (jV M 158 x1.toNatClampNeg) → sm_w 213 (4, [some (.ref 116), some (.int (((4 : Int32) * (iV M 116 63)) + x2)), some (.int (x2 + (1 : Int32))), none], []) M (rV K)) ∧ (¬ (jV M 158 (((4 : Int32) * (iV M 116 63)) + x2).toNatClampNeg) < (jV M 158 x1.toNatClampNeg) → (vp_in (((4 : Int32) * (iV M 116 63)) + x2) 2408) ∧ (vp_in x1 2408) ∧ (((jV M 158 (((4 : Int32) * (iV M 116 63)) + x2).toNatClampNeg) = (jV M 158 x1.toNatClampNeg) → (vp_in (((4 : Int32) * (iV M 116 63)) + x2) 2408) ∧ (vp_in x1 2408) ∧ sm_cI 212 [.ref 116, .int (iV M 159 (((4 : Int32) * (iV M 116 63)) + x2).toNatClampNeg), .int (iV M 159 x1.toNatClampNeg)] M (fun v12 M11 => SH M11 → ((v12 = 0 → sm_w 213 (4, [some (.ref 116), some (.int (x1)), some (.int (x2 + (1 : Int32))), none], []) M11 (rV K)) ∧ (¬ v12 = 0 → sm_w 213 (4, [some (.ref 116), some (.int (((4 : Int32) * (iV M 116 63)) + x2)), some (.int (x2 + (1 : Int32))), none], []) M11 (rV K))))) ∧ (¬ (jV M 158 (((4 : Int32) * (iV M 116 63)) + x2).toNatClampNeg) = (jV M 158 x1.toNatClampNeg) → sm_w 213 (4, [some (.ref 116), some (.int (x1)), some (.int (x2 + (1 : Int32))), none], []) M (rV K)))))))))))) : sm_w 213 (4, [some (.ref 116), some (.int (x1)), some (.int (x2)), none], []) M (rV K) := by
  refine sm_w.run t213 sr213 4 3 (M2 := M) (f2 := (if (4 : Int32) ≤ x2 then 93 else 9, [some (.ref 116), some (.int (x1)), some (.int (x2)), none], [])) rfl ⟨trivial, trivial, trivial, trivial⟩ ?_
  refine sm_w.ite (fun hc => ?_) (fun hc => ?_)
  · have h := h.1 hc
    refine sm_w.run t213 sr213 57 3 (M2 := M) (f2 := (98, [some (.ref 116), some (.int (x1)), some (.int (x2)), none], [va_rf (sm_rv M 116 86), .ref 116])) rfl ⟨trivial, trivial, sm_K.g (k_116 hS) (sm_sh.rf _), trivial⟩ ?_
    refine sm_w.fld (r_116_86 hS) ?_
    obtain ⟨c1, h⟩ := h
    refine sm_w.run t213 sr213 60 3 (M2 := sm_wJ M 116 66 (jV M 158 x1.toNatClampNeg)) (f2 := (103, [some (.ref 116), some (.int (x1)), some (.int (x2)), none], [])) rfl ⟨trivial, sm_K.a2 (k_158 hS) (l_158 hS) c1, ⟨(sm_K.p (k_116 hS) (sm_sh.rf _)).1, (sm_K.p (k_116 hS) (sm_sh.rf _)).2.1, (sm_K.p (k_116 hS) (sm_sh.rf _)).2.2, rfl⟩, trivial⟩ ?_
    have hS3 : SH (sm_wJ M 116 66 (jV M 158 x1.toNatClampNeg)) := SH.wJ hS _ _ _
    have h := h _ hS3 rfl
    generalize sm_wJ M 116 66 (jV M 158 x1.toNatClampNeg) = M2 at h hS3 ⊢
    refine sm_w.run t213 sr213 63 4 (M2 := M2) (f2 := (107, [some (.ref 116), some (.int (x1)), some (.int ((0 : Int32))), some (.int (x1))], [])) rfl ⟨trivial, (Nat.le_of_ble_eq_true rfl), trivial, (Nat.le_of_ble_eq_true rfl), trivial⟩ ?_
    exact h
  · have h := h.2 hc
    refine sm_w.run t213 sr213 7 9 (M2 := M) (f2 := (22, [some (.ref 116), some (.int (x1)), some (.int (x2)), some (.int (((4 : Int32) * (iV M 116 63)) + x2))], [va_rf (sm_rv M 116 88)])) rfl ⟨trivial, trivial, sm_K.g (k_116 hS) (sm_sh.rf _), trivial, trivial, trivial, (Nat.le_of_ble_eq_true rfl), trivial, sm_K.g (k_116 hS) (sm_sh.rf _), trivial⟩ ?_
    refine sm_w.fld (r_116_88 hS) ?_
    obtain ⟨c4, h⟩ := h
    refine sm_w.run t213 sr213 16 3 (M2 := M) (f2 := (if (iV M 160 (((4 : Int32) * (iV M 116 63)) + x2).toNatClampNeg) = 0 then 27 else 30, [some (.ref 116), some (.int (x1)), some (.int (x2)), some (.int (((4 : Int32) * (iV M 116 63)) + x2))], [])) rfl ⟨trivial, sm_K.a2 (k_160 hS) (l_160 hS) c4, trivial, trivial⟩ ?_
    refine sm_w.ite (fun hc => ?_) (fun hc => ?_)
    · have h := h.1 hc
      refine sm_w.run t213 sr213 19 1 (M2 := M) (f2 := (87, [some (.ref 116), some (.int (x1)), some (.int (x2)), some (.int (((4 : Int32) * (iV M 116 63)) + x2))], [])) rfl ⟨trivial, trivial⟩ ?_
      refine sm_w.run t213 sr213 55 2 (M2 := M) (f2 := (4, [some (.ref 116), some (.int (x1)), some (.int (x2 + (1 : Int32))), some (.int (((4 : Int32) * (iV M 116 63)) + x2))], [])) rfl ⟨(Nat.le_of_ble_eq_true rfl), trivial, trivial⟩ ?_
      refine sm_w.weak (ls := [some (.ref 116), some (.int (x1)), some (.int (x2 + (1 : Int32))), none]) (sm_leI [true, true, true, false] rfl) ?_
      exact h
    · have h := h.2 hc
      refine sm_w.run t213 sr213 20 2 (M2 := M) (f2 := (if x1 < 0 then 85 else 34, [some (.ref 116), some (.int (x1)), some (.int (x2)), some (.int (((4 : Int32) * (iV M 116 63)) + x2))], [])) rfl ⟨trivial, trivial, trivial⟩ ?_
      refine sm_w.ite (fun hc => ?_) (fun hc => ?_)
      · have h := h.1 hc
        refine sm_w.run t213 sr213 53 4 (M2 := M) (f2 := (4, [some (.ref 116), some (.int (((4 : Int32) * (iV M 116 63)) + x2)), some (.int (x2 + (1 : Int32))), some (.int (((4 : Int32) * (iV M 116 63)) + x2))], [])) rfl ⟨trivial, (Nat.le_of_ble_eq_true rfl), (Nat.le_of_ble_eq_true rfl), trivial, trivial⟩ ?_
        refine sm_w.weak (ls := [some (.ref 116), some (.int (((4 : Int32) * (iV M 116 63)) + x2)), some (.int (x2 + (1 : Int32))), none]) (sm_leI [true, true, true, false] rfl) ?_
        exact h
      · have h := h.2 hc
        refine sm_w.run t213 sr213 22 2 (M2 := M) (f2 := (38, [some (.ref 116), some (.int (x1)), some (.int (x2)), some (.int (((4 : Int32) * (iV M 116 63)) + x2))], [va_rf (sm_rv M 116 86)])) rfl ⟨trivial, sm_K.g (k_116 hS) (sm_sh.rf _), trivial⟩ ?_
        refine sm_w.fld (r_116_86 hS) ?_
        obtain ⟨c5, h⟩ := h
        refine sm_w.run t213 sr213 24 4 (M2 := M) (f2 := (44, [some (.ref 116), some (.int (x1)), some (.int (x2)), some (.int (((4 : Int32) * (iV M 116 63)) + x2))], [va_rf (sm_rv M 116 86), .long (jV M 158 (((4 : Int32) * (iV M 116 63)) + x2).toNatClampNeg)])) rfl ⟨trivial, sm_K.a2 (k_158 hS) (l_158 hS) c5, trivial, sm_K.g (k_116 hS) (sm_sh.rf _), trivial⟩ ?_
        refine sm_w.fld (r_116_86 hS) ?_
        obtain ⟨c6, h⟩ := h
        refine sm_w.run t213 sr213 28 4 (M2 := M) (f2 := (if (lg_cmp (jV M 158 (((4 : Int32) * (iV M 116 63)) + x2).toNatClampNeg) (jV M 158 x1.toNatClampNeg)) < 0 then 85 else 50, [some (.ref 116), some (.int (x1)), some (.int (x2)), some (.int (((4 : Int32) * (iV M 116 63)) + x2))], [])) rfl ⟨trivial, sm_K.a2 (k_158 hS) (l_158 hS) c6, trivial, trivial, trivial⟩ ?_
        refine sm_w.ite (fun hc => ?_) (fun hc => ?_)
        · have h := h.1 (lc_l.mp hc)
          refine sm_w.run t213 sr213 53 4 (M2 := M) (f2 := (4, [some (.ref 116), some (.int (((4 : Int32) * (iV M 116 63)) + x2)), some (.int (x2 + (1 : Int32))), some (.int (((4 : Int32) * (iV M 116 63)) + x2))], [])) rfl ⟨trivial, (Nat.le_of_ble_eq_true rfl), (Nat.le_of_ble_eq_true rfl), trivial, trivial⟩ ?_
          refine sm_w.weak (ls := [some (.ref 116), some (.int (((4 : Int32) * (iV M 116 63)) + x2)), some (.int (x2 + (1 : Int32))), none]) (sm_leI [true, true, true, false] rfl) ?_
          exact h
        · have h := h.2 (fun z => hc (lc_l.mpr z))
          refine sm_w.run t213 sr213 32 2 (M2 := M) (f2 := (54, [some (.ref 116), some (.int (x1)), some (.int (x2)), some (.int (((4 : Int32) * (iV M 116 63)) + x2))], [va_rf (sm_rv M 116 86)])) rfl ⟨trivial, sm_K.g (k_116 hS) (sm_sh.rf _), trivial⟩ ?_
          refine sm_w.fld (r_116_86 hS) ?_
          obtain ⟨c7, h⟩ := h
          refine sm_w.run t213 sr213 34 4 (M2 := M) (f2 := (60, [some (.ref 116), some (.int (x1)), some (.int (x2)), some (.int (((4 : Int32) * (iV M 116 63)) + x2))], [va_rf (sm_rv M 116 86), .long (jV M 158 (((4 : Int32) * (iV M 116 63)) + x2).toNatClampNeg)])) rfl ⟨trivial, sm_K.a2 (k_158 hS) (l_158 hS) c7, trivial, sm_K.g (k_116 hS) (sm_sh.rf _), trivial⟩ ?_
          refine sm_w.fld (r_116_86 hS) ?_
          obtain ⟨c8, h⟩ := h
          refine sm_w.run t213 sr213 38 4 (M2 := M) (f2 := (if (lg_cmp (jV M 158 (((4 : Int32) * (iV M 116 63)) + x2).toNatClampNeg) (jV M 158 x1.toNatClampNeg)) = 0 then 66 else 87, [some (.ref 116), some (.int (x1)), some (.int (x2)), some (.int (((4 : Int32) * (iV M 116 63)) + x2))], [])) rfl ⟨trivial, sm_K.a2 (k_158 hS) (l_158 hS) c8, trivial, trivial, trivial⟩ ?_
          refine sm_w.ite (fun hc => ?_) (fun hc => ?_)
          · have h := h.1 (lc_e.mp hc)
            refine sm_w.run t213 sr213 42 3 (M2 := M) (f2 := (71, [some (.ref 116), some (.int (x1)), some (.int (x2)), some (.int (((4 : Int32) * (iV M 116 63)) + x2))], [va_rf (sm_rv M 116 87), .ref 116])) rfl ⟨trivial, trivial, sm_K.g (k_116 hS) (sm_sh.rf _), trivial⟩ ?_
            refine sm_w.fld (r_116_87 hS) ?_
            obtain ⟨c9, h⟩ := h
            refine sm_w.run t213 sr213 45 4 (M2 := M) (f2 := (77, [some (.ref 116), some (.int (x1)), some (.int (x2)), some (.int (((4 : Int32) * (iV M 116 63)) + x2))], [va_rf (sm_rv M 116 87), .int (iV M 159 (((4 : Int32) * (iV M 116 63)) + x2).toNatClampNeg), .ref 116])) rfl ⟨trivial, sm_K.a2 (k_159 hS) (l_159 hS) c9, trivial, sm_K.g (k_116 hS) (sm_sh.rf _), trivial⟩ ?_
            refine sm_w.fld (r_116_87 hS) ?_
            obtain ⟨c10, h⟩ := h
            refine sm_w.run t213 sr213 49 2 (M2 := M) (f2 := (79, [some (.ref 116), some (.int (x1)), some (.int (x2)), some (.int (((4 : Int32) * (iV M 116 63)) + x2))], [.int (iV M 159 x1.toNatClampNeg), .int (iV M 159 (((4 : Int32) * (iV M 116 63)) + x2).toNatClampNeg), .ref 116])) rfl ⟨trivial, sm_K.a2 (k_159 hS) (l_159 hS) c10, trivial⟩ ?_
            refine sm_w.cI t213 sr213 51 (i := 212) (as := [.ref 116, .int (iV M 159 (((4 : Int32) * (iV M 116 63)) + x2).toNatClampNeg), .int (iV M 159 x1.toNatClampNeg)]) (g := (79, [some (.ref 116), some (.int (x1)), some (.int (x2)), some (.int (((4 : Int32) * (iV M 116 63)) + x2))], [])) rfl ⟨by decide, by decide, (Nat.le_of_ble_eq_true rfl), (sm_K.g (k_116 hS) (sm_sh.rf _)).1, (sm_K.g (k_116 hS) (sm_sh.rf _)).2, (Nat.le_of_ble_eq_true rfl)⟩ (Nat.le_of_ble_eq_true rfl) (by decide) (sm_cI.s (by decide) hS h) (fun v12 M11 h => ?_)
            obtain ⟨hS13, h⟩ := h
            refine sm_w.run t213 sr213 52 1 (M2 := M11) (f2 := (if v12 = 0 then 87 else 85, [some (.ref 116), some (.int (x1)), some (.int (x2)), some (.int (((4 : Int32) * (iV M 116 63)) + x2))], [])) rfl ⟨trivial, trivial⟩ ?_
            refine sm_w.ite (fun hc => ?_) (fun hc => ?_)
            · have h := h.1 hc
              refine sm_w.run t213 sr213 55 2 (M2 := M11) (f2 := (4, [some (.ref 116), some (.int (x1)), some (.int (x2 + (1 : Int32))), some (.int (((4 : Int32) * (iV M 116 63)) + x2))], [])) rfl ⟨(Nat.le_of_ble_eq_true rfl), trivial, trivial⟩ ?_
              refine sm_w.weak (ls := [some (.ref 116), some (.int (x1)), some (.int (x2 + (1 : Int32))), none]) (sm_leI [true, true, true, false] rfl) ?_
              exact h
            · have h := h.2 hc
              refine sm_w.run t213 sr213 53 4 (M2 := M11) (f2 := (4, [some (.ref 116), some (.int (((4 : Int32) * (iV M 116 63)) + x2)), some (.int (x2 + (1 : Int32))), some (.int (((4 : Int32) * (iV M 116 63)) + x2))], [])) rfl ⟨trivial, (Nat.le_of_ble_eq_true rfl), (Nat.le_of_ble_eq_true rfl), trivial, trivial⟩ ?_
              refine sm_w.weak (ls := [some (.ref 116), some (.int (((4 : Int32) * (iV M 116 63)) + x2)), some (.int (x2 + (1 : Int32))), none]) (sm_leI [true, true, true, false] rfl) ?_
              exact h
          · have h := h.2 (fun z => hc (lc_e.mpr z))
            refine sm_w.run t213 sr213 55 2 (M2 := M) (f2 := (4, [some (.ref 116), some (.int (x1)), some (.int (x2 + (1 : Int32))), some (.int (((4 : Int32) * (iV M 116 63)) + x2))], [])) rfl ⟨(Nat.le_of_ble_eq_true rfl), trivial, trivial⟩ ?_
            refine sm_w.weak (ls := [some (.ref 116), some (.int (x1)), some (.int (x2 + (1 : Int32))), none]) (sm_leI [true, true, true, false] rfl) ?_
            exact h
theorem g213_2 {M : sm_M} {x1 : Int32} {x2 : Int32} {x3 : Int32} {K : sm_M → Prop} (hS : SH M)  (h : (((x3 / (4 : Int32)) ≤ 0 → ∀ M1, SH M1 → M1 = sm_wI M 116 64 x2 → sm_w 213 (133, [some (.ref 116), none, some (.int (x2)), some (.int (x1))], []) M1 (rV K)) ∧ (¬ (x3 / (4 : Int32)) ≤ 0 → (vp_in x3 2408) ∧ sm_w 213 (107, [some (.ref 116), some (.int (x1)), some (.int (x2 + (1 : Int32))), some (.int (iV M 159 x3.toNatClampNeg))], []) M (rV K)))) : sm_w 213 (107, [some (.ref 116), some (.int (x1)), some (.int (x2)), some (.int (x3))], []) M (rV K) := by
  refine sm_w.run t213 sr213 67 4 (M2 := M) (f2 := (if (x3 / (4 : Int32)) ≤ 0 then 126 else 113, [some (.ref 116), some (.int (x1)), some (.int (x2)), some (.int (x3))], [])) rfl ⟨trivial, trivial, by decide, trivial, trivial⟩ ?_
  refine sm_w.ite (fun hc => ?_) (fun hc => ?_)
  · have h := h.1 hc
    refine sm_w.run t213 sr213 78 3 (M2 := sm_wI M 116 64 x2) (f2 := (131, [some (.ref 116), some (.int (x1)), some (.int (x2)), some (.int (x3))], [])) rfl ⟨trivial, trivial, ⟨(sm_K.p (k_116 hS) (sm_sh.rf _)).1, (sm_K.p (k_116 hS) (sm_sh.rf _)).2.1, (sm_K.p (k_116 hS) (sm_sh.rf _)).2.2, Or.inl rfl⟩, trivial⟩ ?_
    have hS2 : SH (sm_wI M 116 64 x2) := SH.wI hS _ _ _
    have h := h _ hS2 rfl
    generalize sm_wI M 116 64 x2 = M1 at h hS2 ⊢
    refine sm_w.run t213 sr213 81 2 (M2 := M1) (f2 := (133, [some (.ref 116), some (.int (x1)), some (.int (x2)), some (.int (x1))], [])) rfl ⟨trivial, (Nat.le_of_ble_eq_true rfl), trivial⟩ ?_
    refine sm_w.weak (ls := [some (.ref 116), none, some (.int (x2)), some (.int (x1))]) (sm_leI [true, false, true, true] rfl) ?_
    exact h
  · have h := h.2 hc
    refine sm_w.run t213 sr213 71 3 (M2 := M) (f2 := (120, [some (.ref 116), some (.int (x1)), some (.int (x2 + (1 : Int32))), some (.int (x3))], [va_rf (sm_rv M 116 87)])) rfl ⟨(Nat.le_of_ble_eq_true rfl), trivial, sm_K.g (k_116 hS) (sm_sh.rf _), trivial⟩ ?_
    refine sm_w.fld (r_116_87 hS) ?_
    obtain ⟨c3, h⟩ := h
    refine sm_w.run t213 sr213 74 4 (M2 := M) (f2 := (107, [some (.ref 116), some (.int (x1)), some (.int (x2 + (1 : Int32))), some (.int (iV M 159 x3.toNatClampNeg))], [])) rfl ⟨trivial, sm_K.a2 (k_159 hS) (l_159 hS) c3, (Nat.le_of_ble_eq_true rfl), trivial, trivial⟩ ?_
    exact h
theorem g213_3 {M : sm_M} {x2 : Int32} {x3 : Int32} {K : sm_M → Prop} (hS : SH M)  (h : (((x3 / (4 : Int32)) ≤ 0 → K M) ∧ (¬ (x3 / (4 : Int32)) ≤ 0 → (vp_in (x2 + (-1 : Int32)) 602) ∧ ∀ M2, SH M2 → M2 = sm_wI M 162 (x2 + (-1 : Int32)).toNatClampNeg (x3 / (4 : Int32)) → (vp_in x3 2408) ∧ (vp_in (x2 + (-1 : Int32)) 602) ∧ ∀ M6, SH M6 → M6 = sm_wI M2 161 (x2 + (-1 : Int32)).toNatClampNeg ((iV M2 159 x3.toNatClampNeg) / (4 : Int32)) → (vp_in x3 2408) ∧ (vp_in x3 2408) ∧ (vp_in (iV M6 159 x3.toNatClampNeg) 2408) ∧ (vp_in (x2 + (-1 : Int32)) 602) ∧ ∀ M12, SH M12 → M12 = sm_wJ M6 163 (x2 + (-1 : Int32)).toNatClampNeg ((jV M6 158 x3.toNatClampNeg) - (jV M6 158 (iV M6 159 x3.toNatClampNeg).toNatClampNeg)) → (vp_in x3 2408) ∧ sm_w 213 (133, [some (.ref 116), none, some (.int (x2 + (-1 : Int32))), some (.int (iV M12 159 x3.toNatClampNeg))], []) M12 (rV K)))) : sm_w 213 (133, [some (.ref 116), none, some (.int (x2)), some (.int (x3))], []) M (rV K) := by
  refine sm_w.run t213 sr213 83 4 (M2 := M) (f2 := (if (x3 / (4 : Int32)) ≤ 0 then 199 else 139, [some (.ref 116), none, some (.int (x2)), some (.int (x3))], [])) rfl ⟨trivial, trivial, by decide, trivial, trivial⟩ ?_
  refine sm_w.ite (fun hc => ?_) (fun hc => ?_)
  · have h := h.1 hc
    exact sm_w.end t213 sr213 127 (o := .returned none) (M2 := M) rfl trivial (by decide) (⟨rfl, h⟩)
  · have h := h.2 hc
    refine sm_w.run t213 sr213 87 3 (M2 := M) (f2 := (146, [some (.ref 116), none, some (.int (x2 + (-1 : Int32))), some (.int (x3))], [va_rf (sm_rv M 116 90)])) rfl ⟨(Nat.le_of_ble_eq_true rfl), trivial, sm_K.g (k_116 hS) (sm_sh.rf _), trivial⟩ ?_
    refine sm_w.fld (r_116_90 hS) ?_
    obtain ⟨c1, h⟩ := h
    refine sm_w.run t213 sr213 90 5 (M2 := sm_wI M 162 (x2 + (-1 : Int32)).toNatClampNeg (x3 / (4 : Int32))) (f2 := (151, [some (.ref 116), none, some (.int (x2 + (-1 : Int32))), some (.int (x3))], [])) rfl ⟨trivial, trivial, trivial, by decide, sm_K.s2 (k_162 hS) (l_162 hS) c1, trivial⟩ ?_
    have hS3 : SH (sm_wI M 162 (x2 + (-1 : Int32)).toNatClampNeg (x3 / (4 : Int32))) := SH.wI hS _ _ _
    have h := h _ hS3 rfl
    generalize sm_wI M 162 (x2 + (-1 : Int32)).toNatClampNeg (x3 / (4 : Int32)) = M2 at h hS3 ⊢
    refine sm_w.run t213 sr213 95 2 (M2 := M2) (f2 := (155, [some (.ref 116), none, some (.int (x2 + (-1 : Int32))), some (.int (x3))], [va_rf (sm_rv M2 116 89)])) rfl ⟨trivial, sm_K.g (k_116 hS3) (sm_sh.rf _), trivial⟩ ?_
    refine sm_w.fld (r_116_89 hS3) ?_
    refine sm_w.run t213 sr213 97 3 (M2 := M2) (f2 := (160, [some (.ref 116), none, some (.int (x2 + (-1 : Int32))), some (.int (x3))], [va_rf (sm_rv M2 116 87), .int (x2 + (-1 : Int32)), .ref 161])) rfl ⟨trivial, trivial, sm_K.g (k_116 hS3) (sm_sh.rf _), trivial⟩ ?_
    refine sm_w.fld (r_116_87 hS3) ?_
    obtain ⟨c4, c5, h⟩ := h
    refine sm_w.run t213 sr213 100 5 (M2 := sm_wI M2 161 (x2 + (-1 : Int32)).toNatClampNeg ((iV M2 159 x3.toNatClampNeg) / (4 : Int32))) (f2 := (165, [some (.ref 116), none, some (.int (x2 + (-1 : Int32))), some (.int (x3))], [])) rfl ⟨trivial, sm_K.a2 (k_159 hS3) (l_159 hS3) c4, trivial, by decide, sm_K.s2 (k_161 hS3) (l_161 hS3) c5, trivial⟩ ?_
    have hS7 : SH (sm_wI M2 161 (x2 + (-1 : Int32)).toNatClampNeg ((iV M2 159 x3.toNatClampNeg) / (4 : Int32))) := SH.wI hS3 _ _ _
    have h := h _ hS7 rfl
    generalize sm_wI M2 161 (x2 + (-1 : Int32)).toNatClampNeg ((iV M2 159 x3.toNatClampNeg) / (4 : Int32)) = M6 at h hS7 ⊢
    refine sm_w.run t213 sr213 105 2 (M2 := M6) (f2 := (169, [some (.ref 116), none, some (.int (x2 + (-1 : Int32))), some (.int (x3))], [va_rf (sm_rv M6 116 91)])) rfl ⟨trivial, sm_K.g (k_116 hS7) (sm_sh.rf _), trivial⟩ ?_
    refine sm_w.fld (r_116_91 hS7) ?_
    refine sm_w.run t213 sr213 107 3 (M2 := M6) (f2 := (174, [some (.ref 116), none, some (.int (x2 + (-1 : Int32))), some (.int (x3))], [va_rf (sm_rv M6 116 86), .int (x2 + (-1 : Int32)), .ref 163])) rfl ⟨trivial, trivial, sm_K.g (k_116 hS7) (sm_sh.rf _), trivial⟩ ?_
    refine sm_w.fld (r_116_86 hS7) ?_
    obtain ⟨c8, h⟩ := h
    refine sm_w.run t213 sr213 110 4 (M2 := M6) (f2 := (180, [some (.ref 116), none, some (.int (x2 + (-1 : Int32))), some (.int (x3))], [va_rf (sm_rv M6 116 86), .long (jV M6 158 x3.toNatClampNeg), .int (x2 + (-1 : Int32)), .ref 163])) rfl ⟨trivial, sm_K.a2 (k_158 hS7) (l_158 hS7) c8, trivial, sm_K.g (k_116 hS7) (sm_sh.rf _), trivial⟩ ?_
    refine sm_w.fld (r_116_86 hS7) ?_
    refine sm_w.run t213 sr213 114 2 (M2 := M6) (f2 := (184, [some (.ref 116), none, some (.int (x2 + (-1 : Int32))), some (.int (x3))], [va_rf (sm_rv M6 116 87), .ref 158, .long (jV M6 158 x3.toNatClampNeg), .int (x2 + (-1 : Int32)), .ref 163])) rfl ⟨trivial, sm_K.g (k_116 hS7) (sm_sh.rf _), trivial⟩ ?_
    refine sm_w.fld (r_116_87 hS7) ?_
    obtain ⟨c9, c10, c11, h⟩ := h
    refine sm_w.run t213 sr213 116 5 (M2 := sm_wJ M6 163 (x2 + (-1 : Int32)).toNatClampNeg ((jV M6 158 x3.toNatClampNeg) - (jV M6 158 (iV M6 159 x3.toNatClampNeg).toNatClampNeg))) (f2 := (189, [some (.ref 116), none, some (.int (x2 + (-1 : Int32))), some (.int (x3))], [])) rfl ⟨trivial, sm_K.a2 (k_159 hS7) (l_159 hS7) c9, sm_K.a2 (k_158 hS7) (l_158 hS7) c10, trivial, sm_K.s2 (k_163 hS7) (l_163 hS7) c11, trivial⟩ ?_
    have hS13 : SH (sm_wJ M6 163 (x2 + (-1 : Int32)).toNatClampNeg ((jV M6 158 x3.toNatClampNeg) - (jV M6 158 (iV M6 159 x3.toNatClampNeg).toNatClampNeg))) := SH.wJ hS7 _ _ _
    have h := h _ hS13 rfl
    generalize sm_wJ M6 163 (x2 + (-1 : Int32)).toNatClampNeg ((jV M6 158 x3.toNatClampNeg) - (jV M6 158 (iV M6 159 x3.toNatClampNeg).toNatClampNeg)) = M12 at h hS13 ⊢
    refine sm_w.run t213 sr213 121 2 (M2 := M12) (f2 := (193, [some (.ref 116), none, some (.int (x2 + (-1 : Int32))), some (.int (x3))], [va_rf (sm_rv M12 116 87)])) rfl ⟨trivial, sm_K.g (k_116 hS13) (sm_sh.rf _), trivial⟩ ?_
    refine sm_w.fld (r_116_87 hS13) ?_
    obtain ⟨c14, h⟩ := h
    refine sm_w.run t213 sr213 123 4 (M2 := M12) (f2 := (133, [some (.ref 116), none, some (.int (x2 + (-1 : Int32))), some (.int (iV M12 159 x3.toNatClampNeg))], [])) rfl ⟨trivial, sm_K.a2 (k_159 hS13) (l_159 hS13) c14, (Nat.le_of_ble_eq_true rfl), trivial, trivial⟩ ?_
    exact h
