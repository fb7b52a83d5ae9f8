/-! METHODS by their segments. -/
-- 188 LineSetterModel.onePattern(II)V
theorem t188 : sP 188 = (11, sp_188, sh_188) := rfl
theorem sr188 : sm_srt sp_188 = true := by decide +kernel
theorem g188_0 {M : sm_M} {x1 : Int32} {x2 : Int32} {K : sm_M → Prop} (hS : SH M)  (h : sm_w 188 (8, [some (.ref 116), some (.int (x1)), some (.int (x2)), some (.int ((0 : Int32))), some (.int (x1)), some (.int ((0 : Int32))), none, none, none, none, none], []) M (rV K)) : sm_w 188 (sm_in sP 188 [.ref 116, .int (x1), .int (x2)]) M (rV K) := by
  show sm_w 188 (0, [some (.ref 116), some (.int (x1)), some (.int (x2)), none, none, none, none, none, none, none, none], []) M (rV K)
  refine sm_w.run t188 sr188 0 6 (M2 := M) (f2 := (8, [some (.ref 116), some (.int (x1)), some (.int (x2)), some (.int ((0 : Int32))), some (.int (x1)), some (.int ((0 : Int32))), none, none, none, none, none], [])) rfl ⟨trivial, (Nat.le_of_ble_eq_true rfl), trivial, (Nat.le_of_ble_eq_true rfl), trivial, (Nat.le_of_ble_eq_true rfl), trivial⟩ ?_
  exact h
theorem g188_1 {M : sm_M} {x1 : Int32} {x2 : Int32} {x3 : Int32} {x4 : Int32} {x5 : Int32} {K : sm_M → Prop} (hS : SH M)  (h : (((40 : Int32) ≤ x5 → (vp_in x4 8192) ∧ (((iV M 118 x4.toNatClampNeg) = (46 : Int32) → (vp_in (0 : Int32) 40) ∧ ∀ M3, SH M3 → M3 = sm_wI M 141 (0 : Int32).toNatClampNeg (46 : Int32) → sm_w 188 (75, [some (.ref 116), some (.int (x1)), some (.int (x2)), some (.int ((1 : Int32))), some (.int (x4 + (1 : Int32))), none, some (.int ((0 : Int32))), some (.int ((0 : Int32))), some (.int ((1 : Int32))), none, none], []) M3 (rV K)) ∧ (¬ (iV M 118 x4.toNatClampNeg) = (46 : Int32) → sm_w 188 (75, [some (.ref 116), some (.int (x1)), some (.int (x2)), some (.int (x3)), some (.int (x4)), none, some (.int ((0 : Int32))), some (.int ((0 : Int32))), some (.int ((1 : Int32))), none, none], []) M (rV K)))) ∧ (¬ (40 : Int32) ≤ x5 → (vp_in x5 40) ∧ ∀ M6, SH M6 → M6 = sm_wI M 142 x5.toNatClampNeg (-1 : Int32) → sm_w 188 (8, [some (.ref 116), some (.int (x1)), some (.int (x2)), some (.int (x3)), some (.int (x4)), some (.int (x5 + (1 : Int32))), none, none, none, none, none], []) M6 (rV K)))) : sm_w 188 (8, [some (.ref 116), some (.int (x1)), some (.int (x2)), some (.int (x3)), some (.int (x4)), some (.int (x5)), none, none, none, none, none], []) M (rV K) := by
  refine sm_w.run t188 sr188 6 3 (M2 := M) (f2 := (if (40 : Int32) ≤ x5 then 29 else 15, [some (.ref 116), some (.int (x1)), some (.int (x2)), some (.int (x3)), some (.int (x4)), some (.int (x5)), none, none, none, none, none], [])) rfl ⟨trivial, trivial, trivial, trivial⟩ ?_
  refine sm_w.ite (fun hc => ?_) (fun hc => ?_)
  · have h := h.1 hc
    refine sm_w.run t188 sr188 16 2 (M2 := M) (f2 := (33, [some (.ref 116), some (.int (x1)), some (.int (x2)), some (.int (x3)), some (.int (x4)), some (.int (x5)), none, none, none, none, none], [va_rf (sm_rv M 116 2)])) rfl ⟨trivial, sm_K.g (k_116 hS) (sm_sh.rf _), trivial⟩ ?_
    refine sm_w.fld (r_116_2 hS) ?_
    obtain ⟨c1, h⟩ := h
    refine sm_w.run t188 sr188 18 4 (M2 := M) (f2 := (if (iV M 118 x4.toNatClampNeg) = (46 : Int32) then 41 else 45, [some (.ref 116), some (.int (x1)), some (.int (x2)), some (.int (x3)), some (.int (x4)), some (.int (x5)), none, none, none, none, none], [])) rfl ⟨trivial, sm_K.a2 (k_118 hS) (l_118 hS) c1, trivial, trivial, trivial⟩ ?_
    refine sm_w.ite (fun hc => ?_) (fun hc => ?_)
    · have h := h.1 hc
      refine sm_w.run t188 sr188 22 2 (M2 := M) (f2 := (46, [some (.ref 116), some (.int (x1)), some (.int (x2)), some (.int (x3)), some (.int (x4)), some (.int (x5)), none, none, none, none, none], [.int ((1 : Int32))])) rfl ⟨trivial, trivial, trivial⟩ ?_
      refine sm_w.run t188 sr188 25 3 (M2 := M) (f2 := (if (1 : Int32) = 0 then 66 else 53, [some (.ref 116), some (.int (x1)), some (.int (x2)), some (.int (x3)), some (.int (x4)), some (.int ((1 : Int32))), none, none, none, none, none], [])) rfl ⟨(Nat.le_of_ble_eq_true rfl), trivial, trivial, trivial⟩ ?_
      rw [if_neg (by decide)]
      refine sm_w.run t188 sr188 28 2 (M2 := M) (f2 := (57, [some (.ref 116), some (.int (x1)), some (.int (x2)), some (.int (x3)), some (.int (x4)), some (.int ((1 : Int32))), none, none, none, none, none], [va_rf (sm_rv M 116 47)])) rfl ⟨trivial, sm_K.g (k_116 hS) (sm_sh.rf _), trivial⟩ ?_
      refine sm_w.fld (r_116_47 hS) ?_
      obtain ⟨c2, h⟩ := h
      refine sm_w.run t188 sr188 30 3 (M2 := sm_wI M 141 (0 : Int32).toNatClampNeg (46 : Int32)) (f2 := (61, [some (.ref 116), some (.int (x1)), some (.int (x2)), some (.int (x3)), some (.int (x4)), some (.int ((1 : Int32))), none, none, none, none, none], [])) rfl ⟨trivial, trivial, sm_K.s2 (k_141 hS) (l_141 hS) c2, trivial⟩ ?_
      have hS4 : SH (sm_wI M 141 (0 : Int32).toNatClampNeg (46 : Int32)) := SH.wI hS _ _ _
      have h := h _ hS4 rfl
      generalize sm_wI M 141 (0 : Int32).toNatClampNeg (46 : Int32) = M3 at h hS4 ⊢
      refine sm_w.run t188 sr188 33 9 (M2 := M3) (f2 := (75, [some (.ref 116), some (.int (x1)), some (.int (x2)), some (.int ((1 : Int32))), some (.int (x4 + (1 : Int32))), some (.int ((1 : Int32))), some (.int ((0 : Int32))), some (.int ((0 : Int32))), some (.int ((1 : Int32))), none, none], [])) rfl ⟨trivial, (Nat.le_of_ble_eq_true rfl), (Nat.le_of_ble_eq_true rfl), trivial, (Nat.le_of_ble_eq_true rfl), trivial, (Nat.le_of_ble_eq_true rfl), trivial, (Nat.le_of_ble_eq_true rfl), trivial⟩ ?_
      refine sm_w.weak (ls := [some (.ref 116), some (.int (x1)), some (.int (x2)), some (.int ((1 : Int32))), some (.int (x4 + (1 : Int32))), none, some (.int ((0 : Int32))), some (.int ((0 : Int32))), some (.int ((1 : Int32))), none, none]) (sm_leI [true, true, true, true, true, false, true, true, true, false, false] rfl) ?_
      exact h
    · have h := h.2 hc
      refine sm_w.run t188 sr188 24 4 (M2 := M) (f2 := (if (0 : Int32) = 0 then 66 else 53, [some (.ref 116), some (.int (x1)), some (.int (x2)), some (.int (x3)), some (.int (x4)), some (.int ((0 : Int32))), none, none, none, none, none], [])) rfl ⟨trivial, (Nat.le_of_ble_eq_true rfl), trivial, trivial, trivial⟩ ?_
      rw [if_pos (by decide)]
      refine sm_w.run t188 sr188 36 6 (M2 := M) (f2 := (75, [some (.ref 116), some (.int (x1)), some (.int (x2)), some (.int (x3)), some (.int (x4)), some (.int ((0 : Int32))), some (.int ((0 : Int32))), some (.int ((0 : Int32))), some (.int ((1 : Int32))), none, none], [])) rfl ⟨trivial, (Nat.le_of_ble_eq_true rfl), trivial, (Nat.le_of_ble_eq_true rfl), trivial, (Nat.le_of_ble_eq_true rfl), trivial⟩ ?_
      refine sm_w.weak (ls := [some (.ref 116), some (.int (x1)), some (.int (x2)), some (.int (x3)), some (.int (x4)), none, some (.int ((0 : Int32))), some (.int ((0 : Int32))), some (.int ((1 : Int32))), none, none]) (sm_leI [true, true, true, true, true, false, true, true, true, false, false] rfl) ?_
      exact h
  · have h := h.2 hc
    refine sm_w.run t188 sr188 9 2 (M2 := M) (f2 := (19, [some (.ref 116), some (.int (x1)), some (.int (x2)), some (.int (x3)), some (.int (x4)), some (.int (x5)), none, none, none, none, none], [va_rf (sm_rv M 116 48)])) rfl ⟨trivial, sm_K.g (k_116 hS) (sm_sh.rf _), trivial⟩ ?_
    refine sm_w.fld (r_116_48 hS) ?_
    obtain ⟨c5, h⟩ := h
    refine sm_w.run t188 sr188 11 3 (M2 := sm_wI M 142 x5.toNatClampNeg (-1 : Int32)) (f2 := (23, [some (.ref 116), some (.int (x1)), some (.int (x2)), some (.int (x3)), some (.int (x4)), some (.int (x5)), none, none, none, none, none], [])) rfl ⟨trivial, trivial, sm_K.s2 (k_142 hS) (l_142 hS) c5, trivial⟩ ?_
    have hS7 : SH (sm_wI M 142 x5.toNatClampNeg (-1 : Int32)) := SH.wI hS _ _ _
    have h := h _ hS7 rfl
    generalize sm_wI M 142 x5.toNatClampNeg (-1 : Int32) = M6 at h hS7 ⊢
    refine sm_w.run t188 sr188 14 2 (M2 := M6) (f2 := (8, [some (.ref 116), some (.int (x1)), some (.int (x2)), some (.int (x3)), some (.int (x4)), some (.int (x5 + (1 : Int32))), none, none, none, none, none], [])) rfl ⟨(Nat.le_of_ble_eq_true rfl), trivial, trivial⟩ ?_
    exact h
theorem g188_2 {M : sm_M} {x1 : Int32} {x2 : Int32} {x3 : Int32} {x4 : Int32} {x6 : Int32} {x7 : Int32} {x8 : Int32} {K : sm_M → Prop} (hS : SH M)  (h : ((x2 ≤ x4 → sm_w 188 (222, [some (.ref 116), some (.int (x1)), none, some (.int (x3)), none, none, some (.int (x6)), none, some (.int (x8)), none, none], []) M (rV K)) ∧ (¬ x2 ≤ x4 → ((x8 = 0 → sm_w 188 (222, [some (.ref 116), some (.int (x1)), none, some (.int (x3)), none, none, some (.int (x6)), none, some (.int (x8)), none, none], []) M (rV K)) ∧ (¬ x8 = 0 → (vp_in x4 8192) ∧ ((x7 = 0 → (((p174_0 M (iV M 118 x4.toNatClampNeg)) = 0 → (((p173_0 M (iV M 118 x4.toNatClampNeg)) = 0 → (((iV M 118 x4.toNatClampNeg) = (46 : Int32) → (vp_in x3 40) ∧ ∀ M3, SH M3 → M3 = sm_wI M 141 x3.toNatClampNeg (46 : Int32) → sm_w 188 (75, [some (.ref 116), some (.int (x1)), some (.int (x2)), some (.int (x3 + (1 : Int32))), some (.int (x4 + (1 : Int32))), none, some (.int (x6)), some (.int ((1 : Int32))), some (.int ((1 : Int32))), none, none], []) M3 (rV K)) ∧ (¬ (iV M 118 x4.toNatClampNeg) = (46 : Int32) → (vp_in x3 40) ∧ ∀ M6, SH M6 → M6 = sm_wI M 141 x3.toNatClampNeg (46 : Int32) → sm_w 188 (75, [some (.ref 116), some (.int (x1)), some (.int (x2)), some (.int (x3 + (1 : Int32))), some (.int (x4 + (1 : Int32))), none, some (.int (x6)), some (.int ((1 : Int32))), some (.int ((0 : Int32))), none, none], []) M6 (rV K)))) ∧ (¬ (p173_0 M (iV M 118 x4.toNatClampNeg)) = 0 → (((12 : Int32) ≤ x6 → sm_w 188 (164, [some (.ref 116), some (.int (x1)), some (.int (x2)), some (.int (x3)), some (.int (x4)), none, some (.int (x6)), some (.int (x7)), none, some (.int (iV M 118 x4.toNatClampNeg)), none], [.int ((0 : Int32))]) M (rV K)) ∧ (¬ (12 : Int32) ≤ x6 → sm_w 188 (164, [some (.ref 116), some (.int (x1)), some (.int (x2)), some (.int (x3)), some (.int (x4)), none, some (.int (x6)), some (.int (x7)), none, some (.int (iV M 118 x4.toNatClampNeg)), none], [.int ((1 : Int32))]) M (rV K)))))) ∧ (¬ (p174_0 M (iV M 118 x4.toNatClampNeg)) = 0 → (vp_in x3 40) ∧ ((0 ≤ (iV M 142 x3.toNatClampNeg) → (vp_in x3 40) ∧ ∀ M10, SH M10 → M10 = sm_wI M 142 x3.toNatClampNeg ((iV M 118 x4.toNatClampNeg) - (48 : Int32)) → sm_w 188 (75, [some (.ref 116), some (.int (x1)), some (.int (x2)), some (.int (x3)), some (.int (x4 + (1 : Int32))), none, some (.int (x6)), some (.int (x7)), some (.int ((0 : Int32))), none, none], []) M10 (rV K)) ∧ (¬ 0 ≤ (iV M 142 x3.toNatClampNeg) → (vp_in x3 40) ∧ ∀ M13, SH M13 → M13 = sm_wI M 142 x3.toNatClampNeg ((iV M 118 x4.toNatClampNeg) - (48 : Int32)) → sm_w 188 (75, [some (.ref 116), some (.int (x1)), some (.int (x2)), some (.int (x3)), some (.int (x4 + (1 : Int32))), none, some (.int (x6)), some (.int (x7)), some (.int ((1 : Int32))), none, none], []) M13 (rV K)))))) ∧ (¬ x7 = 0 → sm_w 188 (75, [some (.ref 116), some (.int (x1)), some (.int (x2)), some (.int (x3)), some (.int (x4 + (1 : Int32))), none, some (.int (x6)), some (.int (x7)), some (.int ((0 : Int32))), none, none], []) M (rV K)))))))) : sm_w 188 (75, [some (.ref 116), some (.int (x1)), some (.int (x2)), some (.int (x3)), some (.int (x4)), none, some (.int (x6)), some (.int (x7)), some (.int (x8)), none, none], []) M (rV K) := by
  refine sm_w.run t188 sr188 42 3 (M2 := M) (f2 := (if x2 ≤ x4 then 222 else 81, [some (.ref 116), some (.int (x1)), some (.int (x2)), some (.int (x3)), some (.int (x4)), none, some (.int (x6)), some (.int (x7)), some (.int (x8)), none, none], [])) rfl ⟨trivial, trivial, trivial, trivial⟩ ?_
  refine sm_w.ite (fun hc => ?_) (fun hc => ?_)
  · have h := h.1 hc
    refine sm_w.weak (ls := [some (.ref 116), some (.int (x1)), none, some (.int (x3)), none, none, some (.int (x6)), none, some (.int (x8)), none, none]) (sm_leI [true, true, false, true, false, false, true, false, true, false, false] rfl) ?_
    exact h
  · have h := h.2 hc
    refine sm_w.run t188 sr188 45 2 (M2 := M) (f2 := (if x8 = 0 then 222 else 86, [some (.ref 116), some (.int (x1)), some (.int (x2)), some (.int (x3)), some (.int (x4)), none, some (.int (x6)), some (.int (x7)), some (.int (x8)), none, none], [])) rfl ⟨trivial, trivial, trivial⟩ ?_
    refine sm_w.ite (fun hc => ?_) (fun hc => ?_)
    · have h := h.1 hc
      refine sm_w.weak (ls := [some (.ref 116), some (.int (x1)), none, some (.int (x3)), none, none, some (.int (x6)), none, some (.int (x8)), none, none]) (sm_leI [true, true, false, true, false, false, true, false, true, false, false] rfl) ?_
      exact h
    · have h := h.2 hc
      refine sm_w.run t188 sr188 47 2 (M2 := M) (f2 := (90, [some (.ref 116), some (.int (x1)), some (.int (x2)), some (.int (x3)), some (.int (x4)), none, some (.int (x6)), some (.int (x7)), some (.int (x8)), none, none], [va_rf (sm_rv M 116 2)])) rfl ⟨trivial, sm_K.g (k_116 hS) (sm_sh.rf _), trivial⟩ ?_
      refine sm_w.fld (r_116_2 hS) ?_
      obtain ⟨c1, h⟩ := h
      refine sm_w.run t188 sr188 49 5 (M2 := M) (f2 := (if x7 = 0 then 106 else 100, [some (.ref 116), some (.int (x1)), some (.int (x2)), some (.int (x3)), some (.int (x4)), none, some (.int (x6)), some (.int (x7)), some (.int (x8)), some (.int (iV M 118 x4.toNatClampNeg)), none], [])) rfl ⟨trivial, sm_K.a2 (k_118 hS) (l_118 hS) c1, (Nat.le_of_ble_eq_true rfl), trivial, trivial, trivial⟩ ?_
      refine sm_w.ite (fun hc => ?_) (fun hc => ?_)
      · have h := h.1 hc
        refine sm_w.run t188 sr188 57 1 (M2 := M) (f2 := (108, [some (.ref 116), some (.int (x1)), some (.int (x2)), some (.int (x3)), some (.int (x4)), none, some (.int (x6)), some (.int (x7)), some (.int (x8)), some (.int (iV M 118 x4.toNatClampNeg)), none], [.int (iV M 118 x4.toNatClampNeg)])) rfl ⟨trivial, trivial⟩ ?_
        refine sm_w.cI t188 sr188 58 (i := 174) (as := [.int (iV M 118 x4.toNatClampNeg)]) (g := (108, [some (.ref 116), some (.int (x1)), some (.int (x2)), some (.int (x3)), some (.int (x4)), none, some (.int (x6)), some (.int (x7)), some (.int (x8)), some (.int (iV M 118 x4.toNatClampNeg)), none], [])) rfl ⟨(Nat.le_of_ble_eq_true rfl), (Nat.le_of_ble_eq_true rfl)⟩ (Nat.le_of_ble_eq_true rfl) (by decide) (p174_c hS) (fun vz M2 hz => ?_)
        obtain ⟨hz1, hz2⟩ := hz
        subst hz1
        have hz2 := hz2.symm
        subst hz2
        refine sm_w.run t188 sr188 59 1 (M2 := M) (f2 := (if (p174_0 M (iV M 118 x4.toNatClampNeg)) = 0 then 144 else 114, [some (.ref 116), some (.int (x1)), some (.int (x2)), some (.int (x3)), some (.int (x4)), none, some (.int (x6)), some (.int (x7)), some (.int (x8)), some (.int (iV M 118 x4.toNatClampNeg)), none], [])) rfl ⟨trivial, trivial⟩ ?_
        refine sm_w.ite (fun hc => ?_) (fun hc => ?_)
        · have h := h.1 hc
          refine sm_w.run t188 sr188 77 1 (M2 := M) (f2 := (146, [some (.ref 116), some (.int (x1)), some (.int (x2)), some (.int (x3)), some (.int (x4)), none, some (.int (x6)), some (.int (x7)), some (.int (x8)), some (.int (iV M 118 x4.toNatClampNeg)), none], [.int (iV M 118 x4.toNatClampNeg)])) rfl ⟨trivial, trivial⟩ ?_
          refine sm_w.cI t188 sr188 78 (i := 173) (as := [.int (iV M 118 x4.toNatClampNeg)]) (g := (146, [some (.ref 116), some (.int (x1)), some (.int (x2)), some (.int (x3)), some (.int (x4)), none, some (.int (x6)), some (.int (x7)), some (.int (x8)), some (.int (iV M 118 x4.toNatClampNeg)), none], [])) rfl ⟨(Nat.le_of_ble_eq_true rfl), (Nat.le_of_ble_eq_true rfl)⟩ (Nat.le_of_ble_eq_true rfl) (by decide) (p173_c hS) (fun vz M2 hz => ?_)
          obtain ⟨hz1, hz2⟩ := hz
          subst hz1
          have hz2 := hz2.symm
          subst hz2
          refine sm_w.run t188 sr188 79 1 (M2 := M) (f2 := (if (p173_0 M (iV M 118 x4.toNatClampNeg)) = 0 then 188 else 152, [some (.ref 116), some (.int (x1)), some (.int (x2)), some (.int (x3)), some (.int (x4)), none, some (.int (x6)), some (.int (x7)), some (.int (x8)), some (.int (iV M 118 x4.toNatClampNeg)), none], [])) rfl ⟨trivial, trivial⟩ ?_
          refine sm_w.ite (fun hc => ?_) (fun hc => ?_)
          · have h := h.1 hc
            refine sm_w.run t188 sr188 97 3 (M2 := M) (f2 := (if (iV M 118 x4.toNatClampNeg) = (46 : Int32) then 195 else 199, [some (.ref 116), some (.int (x1)), some (.int (x2)), some (.int (x3)), some (.int (x4)), none, some (.int (x6)), some (.int (x7)), some (.int (x8)), some (.int (iV M 118 x4.toNatClampNeg)), none], [])) rfl ⟨trivial, trivial, trivial, trivial⟩ ?_
            refine sm_w.ite (fun hc => ?_) (fun hc => ?_)
            · have h := h.1 hc
              refine sm_w.run t188 sr188 100 2 (M2 := M) (f2 := (200, [some (.ref 116), some (.int (x1)), some (.int (x2)), some (.int (x3)), some (.int (x4)), none, some (.int (x6)), some (.int (x7)), some (.int (x8)), some (.int (iV M 118 x4.toNatClampNeg)), none], [.int ((1 : Int32))])) rfl ⟨trivial, trivial, trivial⟩ ?_
              refine sm_w.run t188 sr188 103 5 (M2 := M) (f2 := (209, [some (.ref 116), some (.int (x1)), some (.int (x2)), some (.int (x3)), some (.int (x4)), none, some (.int (x6)), some (.int ((1 : Int32))), some (.int ((1 : Int32))), some (.int (iV M 118 x4.toNatClampNeg)), none], [va_rf (sm_rv M 116 47)])) rfl ⟨(Nat.le_of_ble_eq_true rfl), trivial, (Nat.le_of_ble_eq_true rfl), trivial, sm_K.g (k_116 hS) (sm_sh.rf _), trivial⟩ ?_
              refine sm_w.fld (r_116_47 hS) ?_
              obtain ⟨c2, h⟩ := h
              refine sm_w.run t188 sr188 108 3 (M2 := sm_wI M 141 x3.toNatClampNeg (46 : Int32)) (f2 := (213, [some (.ref 116), some (.int (x1)), some (.int (x2)), some (.int (x3)), some (.int (x4)), none, some (.int (x6)), some (.int ((1 : Int32))), some (.int ((1 : Int32))), some (.int (iV M 118 x4.toNatClampNeg)), none], [])) rfl ⟨trivial, trivial, sm_K.s2 (k_141 hS) (l_141 hS) c2, trivial⟩ ?_
              have hS4 : SH (sm_wI M 141 x3.toNatClampNeg (46 : Int32)) := SH.wI hS _ _ _
              have h := h _ hS4 rfl
              generalize sm_wI M 141 x3.toNatClampNeg (46 : Int32) = M3 at h hS4 ⊢
              refine sm_w.run t188 sr188 111 3 (M2 := M3) (f2 := (75, [some (.ref 116), some (.int (x1)), some (.int (x2)), some (.int (x3 + (1 : Int32))), some (.int (x4 + (1 : Int32))), none, some (.int (x6)), some (.int ((1 : Int32))), some (.int ((1 : Int32))), some (.int (iV M 118 x4.toNatClampNeg)), none], [])) rfl ⟨(Nat.le_of_ble_eq_true rfl), (Nat.le_of_ble_eq_true rfl), trivial, trivial⟩ ?_
              refine sm_w.weak (ls := [some (.ref 116), some (.int (x1)), some (.int (x2)), some (.int (x3 + (1 : Int32))), some (.int (x4 + (1 : Int32))), none, some (.int (x6)), some (.int ((1 : Int32))), some (.int ((1 : Int32))), none, none]) (sm_leI [true, true, true, true, true, false, true, true, true, false, false] rfl) ?_
              exact h
            · have h := h.2 hc
              refine sm_w.run t188 sr188 102 6 (M2 := M) (f2 := (209, [some (.ref 116), some (.int (x1)), some (.int (x2)), some (.int (x3)), some (.int (x4)), none, some (.int (x6)), some (.int ((1 : Int32))), some (.int ((0 : Int32))), some (.int (iV M 118 x4.toNatClampNeg)), none], [va_rf (sm_rv M 116 47)])) rfl ⟨trivial, (Nat.le_of_ble_eq_true rfl), trivial, (Nat.le_of_ble_eq_true rfl), trivial, sm_K.g (k_116 hS) (sm_sh.rf _), trivial⟩ ?_
              refine sm_w.fld (r_116_47 hS) ?_
              obtain ⟨c5, h⟩ := h
              refine sm_w.run t188 sr188 108 3 (M2 := sm_wI M 141 x3.toNatClampNeg (46 : Int32)) (f2 := (213, [some (.ref 116), some (.int (x1)), some (.int (x2)), some (.int (x3)), some (.int (x4)), none, some (.int (x6)), some (.int ((1 : Int32))), some (.int ((0 : Int32))), some (.int (iV M 118 x4.toNatClampNeg)), none], [])) rfl ⟨trivial, trivial, sm_K.s2 (k_141 hS) (l_141 hS) c5, trivial⟩ ?_
              have hS7 : SH (sm_wI M 141 x3.toNatClampNeg (46 : Int32)) := SH.wI hS _ _ _
              have h := h _ hS7 rfl
              generalize sm_wI M 141 x3.toNatClampNeg (46 : Int32) = M6 at h hS7 ⊢
              refine sm_w.run t188 sr188 111 3 (M2 := M6) (f2 := (75, [some (.ref 116), some (.int (x1)), some (.int (x2)), some (.int (x3 + (1 : Int32))), some (.int (x4 + (1 : Int32))), none, some (.int (x6)), some (.int ((1 : Int32))), some (.int ((0 : Int32))), some (.int (iV M 118 x4.toNatClampNeg)), none], [])) rfl ⟨(Nat.le_of_ble_eq_true rfl), (Nat.le_of_ble_eq_true rfl), trivial, trivial⟩ ?_
              refine sm_w.weak (ls := [some (.ref 116), some (.int (x1)), some (.int (x2)), some (.int (x3 + (1 : Int32))), some (.int (x4 + (1 : Int32))), none, some (.int (x6)), some (.int ((1 : Int32))), some (.int ((0 : Int32))), none, none]) (sm_leI [true, true, true, true, true, false, true, true, true, false, false] rfl) ?_
              exact h
          · have h := h.2 hc
            refine sm_w.run t188 sr188 80 3 (M2 := M) (f2 := (if (12 : Int32) ≤ x6 then 163 else 159, [some (.ref 116), some (.int (x1)), some (.int (x2)), some (.int (x3)), some (.int (x4)), none, some (.int (x6)), some (.int (x7)), some (.int (x8)), some (.int (iV M 118 x4.toNatClampNeg)), none], [])) rfl ⟨trivial, trivial, trivial, trivial⟩ ?_
            refine sm_w.ite (fun hc => ?_) (fun hc => ?_)
            · have h := h.1 hc
              refine sm_w.run t188 sr188 85 1 (M2 := M) (f2 := (164, [some (.ref 116), some (.int (x1)), some (.int (x2)), some (.int (x3)), some (.int (x4)), none, some (.int (x6)), some (.int (x7)), some (.int (x8)), some (.int (iV M 118 x4.toNatClampNeg)), none], [.int ((0 : Int32))])) rfl ⟨trivial, trivial⟩ ?_
              refine sm_w.weak (ls := [some (.ref 116), some (.int (x1)), some (.int (x2)), some (.int (x3)), some (.int (x4)), none, some (.int (x6)), some (.int (x7)), none, some (.int (iV M 118 x4.toNatClampNeg)), none]) (sm_leI [true, true, true, true, true, false, true, true, false, true, false] rfl) ?_
              exact h
            · have h := h.2 hc
              refine sm_w.run t188 sr188 83 2 (M2 := M) (f2 := (164, [some (.ref 116), some (.int (x1)), some (.int (x2)), some (.int (x3)), some (.int (x4)), none, some (.int (x6)), some (.int (x7)), some (.int (x8)), some (.int (iV M 118 x4.toNatClampNeg)), none], [.int ((1 : Int32))])) rfl ⟨trivial, trivial, trivial⟩ ?_
              refine sm_w.weak (ls := [some (.ref 116), some (.int (x1)), some (.int (x2)), some (.int (x3)), some (.int (x4)), none, some (.int (x6)), some (.int (x7)), none, some (.int (iV M 118 x4.toNatClampNeg)), none]) (sm_leI [true, true, true, true, true, false, true, true, false, true, false] rfl) ?_
              exact h
        · have h := h.2 hc
          refine sm_w.run t188 sr188 60 2 (M2 := M) (f2 := (118, [some (.ref 116), some (.int (x1)), some (.int (x2)), some (.int (x3)), some (.int (x4)), none, some (.int (x6)), some (.int (x7)), some (.int (x8)), some (.int (iV M 118 x4.toNatClampNeg)), none], [va_rf (sm_rv M 116 48)])) rfl ⟨trivial, sm_K.g (k_116 hS) (sm_sh.rf _), trivial⟩ ?_
          refine sm_w.fld (r_116_48 hS) ?_
          obtain ⟨c8, h⟩ := h
          refine sm_w.run t188 sr188 62 3 (M2 := M) (f2 := (if 0 ≤ (iV M 142 x3.toNatClampNeg) then 127 else 123, [some (.ref 116), some (.int (x1)), some (.int (x2)), some (.int (x3)), some (.int (x4)), none, some (.int (x6)), some (.int (x7)), some (.int (x8)), some (.int (iV M 118 x4.toNatClampNeg)), none], [])) rfl ⟨trivial, sm_K.a2 (k_142 hS) (l_142 hS) c8, trivial, trivial⟩ ?_
          refine sm_w.ite (fun hc => ?_) (fun hc => ?_)
          · have h := h.1 hc
            refine sm_w.run t188 sr188 67 4 (M2 := M) (f2 := (134, [some (.ref 116), some (.int (x1)), some (.int (x2)), some (.int (x3)), some (.int (x4)), none, some (.int (x6)), some (.int (x7)), some (.int ((0 : Int32))), some (.int (iV M 118 x4.toNatClampNeg)), none], [va_rf (sm_rv M 116 48)])) rfl ⟨trivial, (Nat.le_of_ble_eq_true rfl), trivial, sm_K.g (k_116 hS) (sm_sh.rf _), trivial⟩ ?_
            refine sm_w.fld (r_116_48 hS) ?_
            obtain ⟨c9, h⟩ := h
            refine sm_w.run t188 sr188 71 5 (M2 := sm_wI M 142 x3.toNatClampNeg ((iV M 118 x4.toNatClampNeg) - (48 : Int32))) (f2 := (141, [some (.ref 116), some (.int (x1)), some (.int (x2)), some (.int (x3)), some (.int (x4)), none, some (.int (x6)), some (.int (x7)), some (.int ((0 : Int32))), some (.int (iV M 118 x4.toNatClampNeg)), none], [])) rfl ⟨trivial, trivial, trivial, trivial, sm_K.s2 (k_142 hS) (l_142 hS) c9, trivial⟩ ?_
            have hS11 : SH (sm_wI M 142 x3.toNatClampNeg ((iV M 118 x4.toNatClampNeg) - (48 : Int32))) := SH.wI hS _ _ _
            have h := h _ hS11 rfl
            generalize sm_wI M 142 x3.toNatClampNeg ((iV M 118 x4.toNatClampNeg) - (48 : Int32)) = M10 at h hS11 ⊢
            refine sm_w.run t188 sr188 76 1 (M2 := M10) (f2 := (216, [some (.ref 116), some (.int (x1)), some (.int (x2)), some (.int (x3)), some (.int (x4)), none, some (.int (x6)), some (.int (x7)), some (.int ((0 : Int32))), some (.int (iV M 118 x4.toNatClampNeg)), none], [])) rfl ⟨trivial, trivial⟩ ?_
            refine sm_w.run t188 sr188 112 2 (M2 := M10) (f2 := (75, [some (.ref 116), some (.int (x1)), some (.int (x2)), some (.int (x3)), some (.int (x4 + (1 : Int32))), none, some (.int (x6)), some (.int (x7)), some (.int ((0 : Int32))), some (.int (iV M 118 x4.toNatClampNeg)), none], [])) rfl ⟨(Nat.le_of_ble_eq_true rfl), trivial, trivial⟩ ?_
            refine sm_w.weak (ls := [some (.ref 116), some (.int (x1)), some (.int (x2)), some (.int (x3)), some (.int (x4 + (1 : Int32))), none, some (.int (x6)), some (.int (x7)), some (.int ((0 : Int32))), none, none]) (sm_leI [true, true, true, true, true, false, true, true, true, false, false] rfl) ?_
            exact h
          · have h := h.2 hc
            refine sm_w.run t188 sr188 65 2 (M2 := M) (f2 := (128, [some (.ref 116), some (.int (x1)), some (.int (x2)), some (.int (x3)), some (.int (x4)), none, some (.int (x6)), some (.int (x7)), some (.int (x8)), some (.int (iV M 118 x4.toNatClampNeg)), none], [.int ((1 : Int32))])) rfl ⟨trivial, trivial, trivial⟩ ?_
            refine sm_w.run t188 sr188 68 3 (M2 := M) (f2 := (134, [some (.ref 116), some (.int (x1)), some (.int (x2)), some (.int (x3)), some (.int (x4)), none, some (.int (x6)), some (.int (x7)), some (.int ((1 : Int32))), some (.int (iV M 118 x4.toNatClampNeg)), none], [va_rf (sm_rv M 116 48)])) rfl ⟨(Nat.le_of_ble_eq_true rfl), trivial, sm_K.g (k_116 hS) (sm_sh.rf _), trivial⟩ ?_
            refine sm_w.fld (r_116_48 hS) ?_
            obtain ⟨c12, h⟩ := h
            refine sm_w.run t188 sr188 71 5 (M2 := sm_wI M 142 x3.toNatClampNeg ((iV M 118 x4.toNatClampNeg) - (48 : Int32))) (f2 := (141, [some (.ref 116), some (.int (x1)), some (.int (x2)), some (.int (x3)), some (.int (x4)), none, some (.int (x6)), some (.int (x7)), some (.int ((1 : Int32))), some (.int (iV M 118 x4.toNatClampNeg)), none], [])) rfl ⟨trivial, trivial, trivial, trivial, sm_K.s2 (k_142 hS) (l_142 hS) c12, trivial⟩ ?_
            have hS14 : SH (sm_wI M 142 x3.toNatClampNeg ((iV M 118 x4.toNatClampNeg) - (48 : Int32))) := SH.wI hS _ _ _
            have h := h _ hS14 rfl
            generalize sm_wI M 142 x3.toNatClampNeg ((iV M 118 x4.toNatClampNeg) - (48 : Int32)) = M13 at h hS14 ⊢
            refine sm_w.run t188 sr188 76 1 (M2 := M13) (f2 := (216, [some (.ref 116), some (.int (x1)), some (.int (x2)), some (.int (x3)), some (.int (x4)), none, some (.int (x6)), some (.int (x7)), some (.int ((1 : Int32))), some (.int (iV M 118 x4.toNatClampNeg)), none], [])) rfl ⟨trivial, trivial⟩ ?_
            refine sm_w.run t188 sr188 112 2 (M2 := M13) (f2 := (75, [some (.ref 116), some (.int (x1)), some (.int (x2)), some (.int (x3)), some (.int (x4 + (1 : Int32))), none, some (.int (x6)), some (.int (x7)), some (.int ((1 : Int32))), some (.int (iV M 118 x4.toNatClampNeg)), none], [])) rfl ⟨(Nat.le_of_ble_eq_true rfl), trivial, trivial⟩ ?_
            refine sm_w.weak (ls := [some (.ref 116), some (.int (x1)), some (.int (x2)), some (.int (x3)), some (.int (x4 + (1 : Int32))), none, some (.int (x6)), some (.int (x7)), some (.int ((1 : Int32))), none, none]) (sm_leI [true, true, true, true, true, false, true, true, true, false, false] rfl) ?_
            exact h
      · have h := h.2 hc
        refine sm_w.run t188 sr188 54 3 (M2 := M) (f2 := (216, [some (.ref 116), some (.int (x1)), some (.int (x2)), some (.int (x3)), some (.int (x4)), none, some (.int (x6)), some (.int (x7)), some (.int ((0 : Int32))), some (.int (iV M 118 x4.toNatClampNeg)), none], [])) rfl ⟨trivial, (Nat.le_of_ble_eq_true rfl), trivial, trivial⟩ ?_
        refine sm_w.run t188 sr188 112 2 (M2 := M) (f2 := (75, [some (.ref 116), some (.int (x1)), some (.int (x2)), some (.int (x3)), some (.int (x4 + (1 : Int32))), none, some (.int (x6)), some (.int (x7)), some (.int ((0 : Int32))), some (.int (iV M 118 x4.toNatClampNeg)), none], [])) rfl ⟨(Nat.le_of_ble_eq_true rfl), trivial, trivial⟩ ?_
        refine sm_w.weak (ls := [some (.ref 116), some (.int (x1)), some (.int (x2)), some (.int (x3)), some (.int (x4 + (1 : Int32))), none, some (.int (x6)), some (.int (x7)), some (.int ((0 : Int32))), none, none]) (sm_leI [true, true, true, true, true, false, true, true, true, false, false] rfl) ?_
        exact h
theorem g188_3 {M : sm_M} {x1 : Int32} {x2 : Int32} {x3 : Int32} {x4 : Int32} {x6 : Int32} {x7 : Int32} {x9 : Int32} {s0 : Int32} {K : sm_M → Prop} (hS : SH M)  (h : ((s0 = 0 → sm_w 188 (75, [some (.ref 116), some (.int (x1)), some (.int (x2)), some (.int (x3 + (1 : Int32))), some (.int (x4 + (1 : Int32))), none, some (.int (x6 + (1 : Int32))), some (.int (x7)), some (.int (s0)), none, none], []) M (rV K)) ∧ (¬ s0 = 0 → (vp_in x3 40) ∧ ∀ M2, SH M2 → M2 = sm_wI M 141 x3.toNatClampNeg x9 → sm_w 188 (75, [some (.ref 116), some (.int (x1)), some (.int (x2)), some (.int (x3 + (1 : Int32))), some (.int (x4 + (1 : Int32))), none, some (.int (x6 + (1 : Int32))), some (.int (x7)), some (.int (s0)), none, none], []) M2 (rV K)))) : sm_w 188 (164, [some (.ref 116), some (.int (x1)), some (.int (x2)), some (.int (x3)), some (.int (x4)), none, some (.int (x6)), some (.int (x7)), none, some (.int (x9)), none], [.int (s0)]) M (rV K) := by
  refine sm_w.run t188 sr188 86 3 (M2 := M) (f2 := (if s0 = 0 then 179 else 171, [some (.ref 116), some (.int (x1)), some (.int (x2)), some (.int (x3)), some (.int (x4)), none, some (.int (x6)), some (.int (x7)), some (.int (s0)), some (.int (x9)), none], [])) rfl ⟨(Nat.le_of_ble_eq_true rfl), trivial, trivial, trivial⟩ ?_
  refine sm_w.ite (fun hc => ?_) (fun hc => ?_)
  · have h := h.1 hc
    refine sm_w.run t188 sr188 94 3 (M2 := M) (f2 := (216, [some (.ref 116), some (.int (x1)), some (.int (x2)), some (.int (x3 + (1 : Int32))), some (.int (x4)), none, some (.int (x6 + (1 : Int32))), some (.int (x7)), some (.int (s0)), some (.int (x9)), none], [])) rfl ⟨(Nat.le_of_ble_eq_true rfl), (Nat.le_of_ble_eq_true rfl), trivial, trivial⟩ ?_
    refine sm_w.run t188 sr188 112 2 (M2 := M) (f2 := (75, [some (.ref 116), some (.int (x1)), some (.int (x2)), some (.int (x3 + (1 : Int32))), some (.int (x4 + (1 : Int32))), none, some (.int (x6 + (1 : Int32))), some (.int (x7)), some (.int (s0)), some (.int (x9)), none], [])) rfl ⟨(Nat.le_of_ble_eq_true rfl), trivial, trivial⟩ ?_
    refine sm_w.weak (ls := [some (.ref 116), some (.int (x1)), some (.int (x2)), some (.int (x3 + (1 : Int32))), some (.int (x4 + (1 : Int32))), none, some (.int (x6 + (1 : Int32))), some (.int (x7)), some (.int (s0)), none, none]) (sm_leI [true, true, true, true, true, false, true, true, true, false, false] rfl) ?_
    exact h
  · have h := h.2 hc
    refine sm_w.run t188 sr188 89 2 (M2 := M) (f2 := (175, [some (.ref 116), some (.int (x1)), some (.int (x2)), some (.int (x3)), some (.int (x4)), none, some (.int (x6)), some (.int (x7)), some (.int (s0)), some (.int (x9)), none], [va_rf (sm_rv M 116 47)])) rfl ⟨trivial, sm_K.g (k_116 hS) (sm_sh.rf _), trivial⟩ ?_
    refine sm_w.fld (r_116_47 hS) ?_
    obtain ⟨c1, h⟩ := h
    refine sm_w.run t188 sr188 91 3 (M2 := sm_wI M 141 x3.toNatClampNeg x9) (f2 := (179, [some (.ref 116), some (.int (x1)), some (.int (x2)), some (.int (x3)), some (.int (x4)), none, some (.int (x6)), some (.int (x7)), some (.int (s0)), some (.int (x9)), none], [])) rfl ⟨trivial, trivial, sm_K.s2 (k_141 hS) (l_141 hS) c1, trivial⟩ ?_
    have hS3 : SH (sm_wI M 141 x3.toNatClampNeg x9) := SH.wI hS _ _ _
    have h := h _ hS3 rfl
    generalize sm_wI M 141 x3.toNatClampNeg x9 = M2 at h hS3 ⊢
    refine sm_w.run t188 sr188 94 3 (M2 := M2) (f2 := (216, [some (.ref 116), some (.int (x1)), some (.int (x2)), some (.int (x3 + (1 : Int32))), some (.int (x4)), none, some (.int (x6 + (1 : Int32))), some (.int (x7)), some (.int (s0)), some (.int (x9)), none], [])) rfl ⟨(Nat.le_of_ble_eq_true rfl), (Nat.le_of_ble_eq_true rfl), trivial, trivial⟩ ?_
    refine sm_w.run t188 sr188 112 2 (M2 := M2) (f2 := (75, [some (.ref 116), some (.int (x1)), some (.int (x2)), some (.int (x3 + (1 : Int32))), some (.int (x4 + (1 : Int32))), none, some (.int (x6 + (1 : Int32))), some (.int (x7)), some (.int (s0)), some (.int (x9)), none], [])) rfl ⟨(Nat.le_of_ble_eq_true rfl), trivial, trivial⟩ ?_
    refine sm_w.weak (ls := [some (.ref 116), some (.int (x1)), some (.int (x2)), some (.int (x3 + (1 : Int32))), some (.int (x4 + (1 : Int32))), none, some (.int (x6 + (1 : Int32))), some (.int (x7)), some (.int (s0)), none, none]) (sm_leI [true, true, true, true, true, false, true, true, true, false, false] rfl) ?_
    exact h
theorem g188_4 {M : sm_M} {x1 : Int32} {x3 : Int32} {x6 : Int32} {x8 : Int32} {K : sm_M → Prop} (hS : SH M)  (h : ((x8 = 0 → sm_cV 177 [.ref 116, .int (x1)] M (fun M1 => SH M1 → K M1)) ∧ (¬ x8 = 0 → ((x6 = 0 → sm_cV 177 [.ref 116, .int (x1)] M (fun M4 => SH M4 → K M4)) ∧ (¬ x6 = 0 → sm_w 188 (241, [some (.ref 116), some (.int (x1)), none, some (.int (x3)), none, none, none, none, none, some (.int ((0 : Int32))), none], []) M (rV K)))))) : sm_w 188 (222, [some (.ref 116), some (.int (x1)), none, some (.int (x3)), none, none, some (.int (x6)), none, some (.int (x8)), none, none], []) M (rV K) := by
  refine sm_w.run t188 sr188 114 2 (M2 := M) (f2 := (if x8 = 0 then 232 else 227, [some (.ref 116), some (.int (x1)), none, some (.int (x3)), none, none, some (.int (x6)), none, some (.int (x8)), none, none], [])) rfl ⟨trivial, trivial, trivial⟩ ?_
  refine sm_w.ite (fun hc => ?_) (fun hc => ?_)
  · have h := h.1 hc
    refine sm_w.run t188 sr188 118 2 (M2 := M) (f2 := (234, [some (.ref 116), some (.int (x1)), none, some (.int (x3)), none, none, some (.int (x6)), none, some (.int (x8)), none, none], [.int (x1), .ref 116])) rfl ⟨trivial, trivial, trivial⟩ ?_
    refine sm_w.cV t188 sr188 120 (i := 177) (as := [.ref 116, .int (x1)]) (g := (234, [some (.ref 116), some (.int (x1)), none, some (.int (x3)), none, none, some (.int (x6)), none, some (.int (x8)), none, none], [])) rfl ⟨by decide, by decide, (Nat.le_of_ble_eq_true rfl), (sm_K.g (k_116 hS) (sm_sh.rf _)).1, (sm_K.g (k_116 hS) (sm_sh.rf _)).2, (Nat.le_of_ble_eq_true rfl)⟩ (Nat.le_of_ble_eq_true rfl) (by decide) (sm_cV.s (by decide) hS h) (fun M1 h => ?_)
    obtain ⟨hS3, h⟩ := h
    exact sm_w.end t188 sr188 121 (o := .returned none) (M2 := M1) rfl trivial (by decide) (⟨rfl, h⟩)
  · have h := h.2 hc
    refine sm_w.run t188 sr188 116 2 (M2 := M) (f2 := (if x6 = 0 then 232 else 238, [some (.ref 116), some (.int (x1)), none, some (.int (x3)), none, none, some (.int (x6)), none, some (.int (x8)), none, none], [])) rfl ⟨trivial, trivial, trivial⟩ ?_
    refine sm_w.ite (fun hc => ?_) (fun hc => ?_)
    · have h := h.1 hc
      refine sm_w.run t188 sr188 118 2 (M2 := M) (f2 := (234, [some (.ref 116), some (.int (x1)), none, some (.int (x3)), none, none, some (.int (x6)), none, some (.int (x8)), none, none], [.int (x1), .ref 116])) rfl ⟨trivial, trivial, trivial⟩ ?_
      refine sm_w.cV t188 sr188 120 (i := 177) (as := [.ref 116, .int (x1)]) (g := (234, [some (.ref 116), some (.int (x1)), none, some (.int (x3)), none, none, some (.int (x6)), none, some (.int (x8)), none, none], [])) rfl ⟨by decide, by decide, (Nat.le_of_ble_eq_true rfl), (sm_K.g (k_116 hS) (sm_sh.rf _)).1, (sm_K.g (k_116 hS) (sm_sh.rf _)).2, (Nat.le_of_ble_eq_true rfl)⟩ (Nat.le_of_ble_eq_true rfl) (by decide) (sm_cV.s (by decide) hS h) (fun M4 h => ?_)
      obtain ⟨hS6, h⟩ := h
      exact sm_w.end t188 sr188 121 (o := .returned none) (M2 := M4) rfl trivial (by decide) (⟨rfl, h⟩)
    · have h := h.2 hc
      refine sm_w.run t188 sr188 122 2 (M2 := M) (f2 := (241, [some (.ref 116), some (.int (x1)), none, some (.int (x3)), none, none, some (.int (x6)), none, some (.int (x8)), some (.int ((0 : Int32))), none], [])) rfl ⟨trivial, (Nat.le_of_ble_eq_true rfl), trivial⟩ ?_
      refine sm_w.weak (ls := [some (.ref 116), some (.int (x1)), none, some (.int (x3)), none, none, none, none, none, some (.int ((0 : Int32))), none]) (sm_leI [true, true, false, true, false, false, false, false, false, true, false] rfl) ?_
      exact h
theorem g188_5 {M : sm_M} {x1 : Int32} {x3 : Int32} {x9 : Int32} {K : sm_M → Prop} (hS : SH M)  (h : (((iV M 116 45) ≤ x9 → ((x9 = (300 : Int32) → sm_cV 177 [.ref 116, .int (x1)] M (fun M1 => SH M1 → K M1)) ∧ (¬ x9 = (300 : Int32) → ((x9 = (iV M 116 45) → ∀ M4, SH M4 → M4 = sm_wI M 116 45 ((iV M 116 45) + (1 : Int32)) → (vp_in (x9 + (300 : Int32)) 600) ∧ ∀ M7, SH M7 → M7 = sm_wI M4 136 (x9 + (300 : Int32)).toNatClampNeg x3 → sm_w 188 (320, [some (.ref 116), none, none, some (.int (x3)), none, none, none, none, none, some (.int (x9 + (300 : Int32))), some (.int ((0 : Int32)))], []) M7 (rV K)) ∧ (¬ x9 = (iV M 116 45) → (vp_in (x9 + (300 : Int32)) 600) ∧ ∀ M10, SH M10 → M10 = sm_wI M 136 (x9 + (300 : Int32)).toNatClampNeg x3 → sm_w 188 (320, [some (.ref 116), none, none, some (.int (x3)), none, none, none, none, none, some (.int (x9 + (300 : Int32))), some (.int ((0 : Int32)))], []) M10 (rV K)))))) ∧ (¬ (iV M 116 45) ≤ x9 → sm_cI 189 [.ref 116, .int ((300 : Int32) + x9), .int (x3)] M (fun v13 M12 => SH M12 → ((v13 = 0 → sm_w 188 (241, [some (.ref 116), some (.int (x1)), none, some (.int (x3)), none, none, none, none, none, some (.int (x9 + (1 : Int32))), none], []) M12 (rV K)) ∧ (¬ v13 = 0 → ((x9 = (300 : Int32) → sm_cV 177 [.ref 116, .int (x1)] M12 (fun M15 => SH M15 → K M15)) ∧ (¬ x9 = (300 : Int32) → ((x9 = (iV M12 116 45) → ∀ M18, SH M18 → M18 = sm_wI M12 116 45 ((iV M12 116 45) + (1 : Int32)) → (vp_in (x9 + (300 : Int32)) 600) ∧ ∀ M21, SH M21 → M21 = sm_wI M18 136 (x9 + (300 : Int32)).toNatClampNeg x3 → sm_w 188 (320, [some (.ref 116), none, none, some (.int (x3)), none, none, none, none, none, some (.int (x9 + (300 : Int32))), some (.int ((0 : Int32)))], []) M21 (rV K)) ∧ (¬ x9 = (iV M12 116 45) → (vp_in (x9 + (300 : Int32)) 600) ∧ ∀ M24, SH M24 → M24 = sm_wI M12 136 (x9 + (300 : Int32)).toNatClampNeg x3 → sm_w 188 (320, [some (.ref 116), none, none, some (.int (x3)), none, none, none, none, none, some (.int (x9 + (300 : Int32))), some (.int ((0 : Int32)))], []) M24 (rV K))))))))))) : sm_w 188 (241, [some (.ref 116), some (.int (x1)), none, some (.int (x3)), none, none, none, none, none, some (.int (x9)), none], []) M (rV K) := by
  refine sm_w.run t188 sr188 124 4 (M2 := M) (f2 := (if (iV M 116 45) ≤ x9 then 270 else 250, [some (.ref 116), some (.int (x1)), none, some (.int (x3)), none, none, none, none, none, some (.int (x9)), none], [])) rfl ⟨trivial, trivial, sm_K.g (k_116 hS) (sm_sh.rf _), trivial, trivial⟩ ?_
  refine sm_w.ite (fun hc => ?_) (fun hc => ?_)
  · have h := h.1 hc
    refine sm_w.run t188 sr188 137 3 (M2 := M) (f2 := (if x9 = (300 : Int32) then 278 else 284, [some (.ref 116), some (.int (x1)), none, some (.int (x3)), none, none, none, none, none, some (.int (x9)), none], [])) rfl ⟨trivial, trivial, trivial, trivial⟩ ?_
    refine sm_w.ite (fun hc => ?_) (fun hc => ?_)
    · have h := h.1 hc
      refine sm_w.run t188 sr188 140 2 (M2 := M) (f2 := (280, [some (.ref 116), some (.int (x1)), none, some (.int (x3)), none, none, none, none, none, some (.int (x9)), none], [.int (x1), .ref 116])) rfl ⟨trivial, trivial, trivial⟩ ?_
      refine sm_w.cV t188 sr188 142 (i := 177) (as := [.ref 116, .int (x1)]) (g := (280, [some (.ref 116), some (.int (x1)), none, some (.int (x3)), none, none, none, none, none, some (.int (x9)), none], [])) rfl ⟨by decide, by decide, (Nat.le_of_ble_eq_true rfl), (sm_K.g (k_116 hS) (sm_sh.rf _)).1, (sm_K.g (k_116 hS) (sm_sh.rf _)).2, (Nat.le_of_ble_eq_true rfl)⟩ (Nat.le_of_ble_eq_true rfl) (by decide) (sm_cV.s (by decide) hS h) (fun M1 h => ?_)
      obtain ⟨hS3, h⟩ := h
      exact sm_w.end t188 sr188 143 (o := .returned none) (M2 := M1) rfl trivial (by decide) (⟨rfl, h⟩)
    · have h := h.2 hc
      refine sm_w.run t188 sr188 144 4 (M2 := M) (f2 := (if x9 = (iV M 116 45) then 293 else 303, [some (.ref 116), some (.int (x1)), none, some (.int (x3)), none, none, none, none, none, some (.int (x9)), none], [])) rfl ⟨trivial, trivial, sm_K.g (k_116 hS) (sm_sh.rf _), trivial, trivial⟩ ?_
      refine sm_w.ite (fun hc => ?_) (fun hc => ?_)
      · have h := h.1 hc
        refine sm_w.run t188 sr188 148 6 (M2 := sm_wI M 116 45 ((iV M 116 45) + (1 : Int32))) (f2 := (303, [some (.ref 116), some (.int (x1)), none, some (.int (x3)), none, none, none, none, none, some (.int (x9)), none], [])) rfl ⟨trivial, rfl, sm_K.g (k_116 hS) (sm_sh.rf _), trivial, trivial, ⟨(sm_K.p (k_116 hS) (sm_sh.rf _)).1, (sm_K.p (k_116 hS) (sm_sh.rf _)).2.1, (sm_K.p (k_116 hS) (sm_sh.rf _)).2.2, Or.inl rfl⟩, trivial⟩ ?_
        have hS5 : SH (sm_wI M 116 45 ((iV M 116 45) + (1 : Int32))) := SH.wI hS _ _ _
        have h := h _ hS5 rfl
        generalize sm_wI M 116 45 ((iV M 116 45) + (1 : Int32)) = M4 at h hS5 ⊢
        refine sm_w.run t188 sr188 154 3 (M2 := M4) (f2 := (313, [some (.ref 116), some (.int (x1)), none, some (.int (x3)), none, none, none, none, none, some (.int (x9 + (300 : Int32))), none], [va_rf (sm_rv M4 116 38)])) rfl ⟨(Nat.le_of_ble_eq_true rfl), trivial, sm_K.g (k_116 hS5) (sm_sh.rf _), trivial⟩ ?_
        refine sm_w.fld (r_116_38 hS5) ?_
        obtain ⟨c6, h⟩ := h
        refine sm_w.run t188 sr188 157 3 (M2 := sm_wI M4 136 (x9 + (300 : Int32)).toNatClampNeg x3) (f2 := (317, [some (.ref 116), some (.int (x1)), none, some (.int (x3)), none, none, none, none, none, some (.int (x9 + (300 : Int32))), none], [])) rfl ⟨trivial, trivial, sm_K.s2 (k_136 hS5) (l_136 hS5) c6, trivial⟩ ?_
        have hS8 : SH (sm_wI M4 136 (x9 + (300 : Int32)).toNatClampNeg x3) := SH.wI hS5 _ _ _
        have h := h _ hS8 rfl
        generalize sm_wI M4 136 (x9 + (300 : Int32)).toNatClampNeg x3 = M7 at h hS8 ⊢
        refine sm_w.run t188 sr188 160 2 (M2 := M7) (f2 := (320, [some (.ref 116), some (.int (x1)), none, some (.int (x3)), none, none, none, none, none, some (.int (x9 + (300 : Int32))), some (.int ((0 : Int32)))], [])) rfl ⟨trivial, (Nat.le_of_ble_eq_true rfl), trivial⟩ ?_
        refine sm_w.weak (ls := [some (.ref 116), none, none, some (.int (x3)), none, none, none, none, none, some (.int (x9 + (300 : Int32))), some (.int ((0 : Int32)))]) (sm_leI [true, false, false, true, false, false, false, false, false, true, true] rfl) ?_
        exact h
      · have h := h.2 hc
        refine sm_w.run t188 sr188 154 3 (M2 := M) (f2 := (313, [some (.ref 116), some (.int (x1)), none, some (.int (x3)), none, none, none, none, none, some (.int (x9 + (300 : Int32))), none], [va_rf (sm_rv M 116 38)])) rfl ⟨(Nat.le_of_ble_eq_true rfl), trivial, sm_K.g (k_116 hS) (sm_sh.rf _), trivial⟩ ?_
        refine sm_w.fld (r_116_38 hS) ?_
        obtain ⟨c9, h⟩ := h
        refine sm_w.run t188 sr188 157 3 (M2 := sm_wI M 136 (x9 + (300 : Int32)).toNatClampNeg x3) (f2 := (317, [some (.ref 116), some (.int (x1)), none, some (.int (x3)), none, none, none, none, none, some (.int (x9 + (300 : Int32))), none], [])) rfl ⟨trivial, trivial, sm_K.s2 (k_136 hS) (l_136 hS) c9, trivial⟩ ?_
        have hS11 : SH (sm_wI M 136 (x9 + (300 : Int32)).toNatClampNeg x3) := SH.wI hS _ _ _
        have h := h _ hS11 rfl
        generalize sm_wI M 136 (x9 + (300 : Int32)).toNatClampNeg x3 = M10 at h hS11 ⊢
        refine sm_w.run t188 sr188 160 2 (M2 := M10) (f2 := (320, [some (.ref 116), some (.int (x1)), none, some (.int (x3)), none, none, none, none, none, some (.int (x9 + (300 : Int32))), some (.int ((0 : Int32)))], [])) rfl ⟨trivial, (Nat.le_of_ble_eq_true rfl), trivial⟩ ?_
        refine sm_w.weak (ls := [some (.ref 116), none, none, some (.int (x3)), none, none, none, none, none, some (.int (x9 + (300 : Int32))), some (.int ((0 : Int32)))]) (sm_leI [true, false, false, true, false, false, false, false, false, true, true] rfl) ?_
        exact h
  · have h := h.2 hc
    refine sm_w.run t188 sr188 128 5 (M2 := M) (f2 := (258, [some (.ref 116), some (.int (x1)), none, some (.int (x3)), none, none, none, none, none, some (.int (x9)), none], [.int (x3), .int ((300 : Int32) + x9), .ref 116])) rfl ⟨trivial, trivial, trivial, trivial, trivial, trivial⟩ ?_
    refine sm_w.cI t188 sr188 133 (i := 189) (as := [.ref 116, .int ((300 : Int32) + x9), .int (x3)]) (g := (258, [some (.ref 116), some (.int (x1)), none, some (.int (x3)), none, none, none, none, none, some (.int (x9)), none], [])) rfl ⟨by decide, by decide, (Nat.le_of_ble_eq_true rfl), (sm_K.g (k_116 hS) (sm_sh.rf _)).1, (sm_K.g (k_116 hS) (sm_sh.rf _)).2, (Nat.le_of_ble_eq_true rfl)⟩ (Nat.le_of_ble_eq_true rfl) (by decide) (sm_cI.s (by decide) hS h) (fun v13 M12 h => ?_)
    obtain ⟨hS14, h⟩ := h
    refine sm_w.run t188 sr188 134 1 (M2 := M12) (f2 := (if v13 = 0 then 264 else 270, [some (.ref 116), some (.int (x1)), none, some (.int (x3)), none, none, none, none, none, some (.int (x9)), none], [])) rfl ⟨trivial, trivial⟩ ?_
    refine sm_w.ite (fun hc => ?_) (fun hc => ?_)
    · have h := h.1 hc
      refine sm_w.run t188 sr188 135 2 (M2 := M12) (f2 := (241, [some (.ref 116), some (.int (x1)), none, some (.int (x3)), none, none, none, none, none, some (.int (x9 + (1 : Int32))), none], [])) rfl ⟨(Nat.le_of_ble_eq_true rfl), trivial, trivial⟩ ?_
      exact h
    · have h := h.2 hc
      refine sm_w.run t188 sr188 137 3 (M2 := M12) (f2 := (if x9 = (300 : Int32) then 278 else 284, [some (.ref 116), some (.int (x1)), none, some (.int (x3)), none, none, none, none, none, some (.int (x9)), none], [])) rfl ⟨trivial, trivial, trivial, trivial⟩ ?_
      refine sm_w.ite (fun hc => ?_) (fun hc => ?_)
      · have h := h.1 hc
        refine sm_w.run t188 sr188 140 2 (M2 := M12) (f2 := (280, [some (.ref 116), some (.int (x1)), none, some (.int (x3)), none, none, none, none, none, some (.int (x9)), none], [.int (x1), .ref 116])) rfl ⟨trivial, trivial, trivial⟩ ?_
        refine sm_w.cV t188 sr188 142 (i := 177) (as := [.ref 116, .int (x1)]) (g := (280, [some (.ref 116), some (.int (x1)), none, some (.int (x3)), none, none, none, none, none, some (.int (x9)), none], [])) rfl ⟨by decide, by decide, (Nat.le_of_ble_eq_true rfl), (sm_K.g (k_116 hS14) (sm_sh.rf _)).1, (sm_K.g (k_116 hS14) (sm_sh.rf _)).2, (Nat.le_of_ble_eq_true rfl)⟩ (Nat.le_of_ble_eq_true rfl) (by decide) (sm_cV.s (by decide) hS14 h) (fun M15 h => ?_)
        obtain ⟨hS17, h⟩ := h
        exact sm_w.end t188 sr188 143 (o := .returned none) (M2 := M15) rfl trivial (by decide) (⟨rfl, h⟩)
      · have h := h.2 hc
        refine sm_w.run t188 sr188 144 4 (M2 := M12) (f2 := (if x9 = (iV M12 116 45) then 293 else 303, [some (.ref 116), some (.int (x1)), none, some (.int (x3)), none, none, none, none, none, some (.int (x9)), none], [])) rfl ⟨trivial, trivial, sm_K.g (k_116 hS14) (sm_sh.rf _), trivial, trivial⟩ ?_
        refine sm_w.ite (fun hc => ?_) (fun hc => ?_)
        · have h := h.1 hc
          refine sm_w.run t188 sr188 148 6 (M2 := sm_wI M12 116 45 ((iV M12 116 45) + (1 : Int32))) (f2 := (303, [some (.ref 116), some (.int (x1)), none, some (.int (x3)), none, none, none, none, none, some (.int (x9)), none], [])) rfl ⟨trivial, rfl, sm_K.g (k_116 hS14) (sm_sh.rf _), trivial, trivial, ⟨(sm_K.p (k_116 hS14) (sm_sh.rf _)).1, (sm_K.p (k_116 hS14) (sm_sh.rf _)).2.1, (sm_K.p (k_116 hS14) (sm_sh.rf _)).2.2, Or.inl rfl⟩, trivial⟩ ?_
          have hS19 : SH (sm_wI M12 116 45 ((iV M12 116 45) + (1 : Int32))) := SH.wI hS14 _ _ _
          have h := h _ hS19 rfl
          generalize sm_wI M12 116 45 ((iV M12 116 45) + (1 : Int32)) = M18 at h hS19 ⊢
          refine sm_w.run t188 sr188 154 3 (M2 := M18) (f2 := (313, [some (.ref 116), some (.int (x1)), none, some (.int (x3)), none, none, none, none, none, some (.int (x9 + (300 : Int32))), none], [va_rf (sm_rv M18 116 38)])) rfl ⟨(Nat.le_of_ble_eq_true rfl), trivial, sm_K.g (k_116 hS19) (sm_sh.rf _), trivial⟩ ?_
          refine sm_w.fld (r_116_38 hS19) ?_
          obtain ⟨c20, h⟩ := h
          refine sm_w.run t188 sr188 157 3 (M2 := sm_wI M18 136 (x9 + (300 : Int32)).toNatClampNeg x3) (f2 := (317, [some (.ref 116), some (.int (x1)), none, some (.int (x3)), none, none, none, none, none, some (.int (x9 + (300 : Int32))), none], [])) rfl ⟨trivial, trivial, sm_K.s2 (k_136 hS19) (l_136 hS19) c20, trivial⟩ ?_
          have hS22 : SH (sm_wI M18 136 (x9 + (300 : Int32)).toNatClampNeg x3) := SH.wI hS19 _ _ _
          have h := h _ hS22 rfl
          generalize sm_wI M18 136 (x9 + (300 : Int32)).toNatClampNeg x3 = M21 at h hS22 ⊢
          refine sm_w.run t188 sr188 160 2 (M2 := M21) (f2 := (320, [some (.ref 116), some (.int (x1)), none, some (.int (x3)), none, none, none, none, none, some (.int (x9 + (300 : Int32))), some (.int ((0 : Int32)))], [])) rfl ⟨trivial, (Nat.le_of_ble_eq_true rfl), trivial⟩ ?_
          refine sm_w.weak (ls := [some (.ref 116), none, none, some (.int (x3)), none, none, none, none, none, some (.int (x9 + (300 : Int32))), some (.int ((0 : Int32)))]) (sm_leI [true, false, false, true, false, false, false, false, false, true, true] rfl) ?_
          exact h
        · have h := h.2 hc
          refine sm_w.run t188 sr188 154 3 (M2 := M12) (f2 := (313, [some (.ref 116), some (.int (x1)), none, some (.int (x3)), none, none, none, none, none, some (.int (x9 + (300 : Int32))), none], [va_rf (sm_rv M12 116 38)])) rfl ⟨(Nat.le_of_ble_eq_true rfl), trivial, sm_K.g (k_116 hS14) (sm_sh.rf _), trivial⟩ ?_
          refine sm_w.fld (r_116_38 hS14) ?_
          obtain ⟨c23, h⟩ := h
          refine sm_w.run t188 sr188 157 3 (M2 := sm_wI M12 136 (x9 + (300 : Int32)).toNatClampNeg x3) (f2 := (317, [some (.ref 116), some (.int (x1)), none, some (.int (x3)), none, none, none, none, none, some (.int (x9 + (300 : Int32))), none], [])) rfl ⟨trivial, trivial, sm_K.s2 (k_136 hS14) (l_136 hS14) c23, trivial⟩ ?_
          have hS25 : SH (sm_wI M12 136 (x9 + (300 : Int32)).toNatClampNeg x3) := SH.wI hS14 _ _ _
          have h := h _ hS25 rfl
          generalize sm_wI M12 136 (x9 + (300 : Int32)).toNatClampNeg x3 = M24 at h hS25 ⊢
          refine sm_w.run t188 sr188 160 2 (M2 := M24) (f2 := (320, [some (.ref 116), some (.int (x1)), none, some (.int (x3)), none, none, none, none, none, some (.int (x9 + (300 : Int32))), some (.int ((0 : Int32)))], [])) rfl ⟨trivial, (Nat.le_of_ble_eq_true rfl), trivial⟩ ?_
          refine sm_w.weak (ls := [some (.ref 116), none, none, some (.int (x3)), none, none, none, none, none, some (.int (x9 + (300 : Int32))), some (.int ((0 : Int32)))]) (sm_leI [true, false, false, true, false, false, false, false, false, true, true] rfl) ?_
          exact h
theorem g188_6 {M : sm_M} {x3 : Int32} {x9 : Int32} {x10 : Int32} {K : sm_M → Prop} (hS : SH M)  (h : ((x3 ≤ x10 → sm_w 188 (355, [some (.ref 116), none, none, some (.int (x3)), none, none, none, none, none, some (.int (x9)), some (.int ((0 : Int32)))], []) M (rV K)) ∧ (¬ x3 ≤ x10 → (vp_in x10 40) ∧ (vp_in (((16 : Int32) * x9) + x10) 9600) ∧ ∀ M3, SH M3 → M3 = sm_wI M 135 (((16 : Int32) * x9) + x10).toNatClampNeg (iV M 141 x10.toNatClampNeg) → sm_w 188 (320, [some (.ref 116), none, none, some (.int (x3)), none, none, none, none, none, some (.int (x9)), some (.int (x10 + (1 : Int32)))], []) M3 (rV K)))) : sm_w 188 (320, [some (.ref 116), none, none, some (.int (x3)), none, none, none, none, none, some (.int (x9)), some (.int (x10))], []) M (rV K) := by
  refine sm_w.run t188 sr188 162 3 (M2 := M) (f2 := (if x3 ≤ x10 then 352 else 326, [some (.ref 116), none, none, some (.int (x3)), none, none, none, none, none, some (.int (x9)), some (.int (x10))], [])) rfl ⟨trivial, trivial, trivial, trivial⟩ ?_
  refine sm_w.ite (fun hc => ?_) (fun hc => ?_)
  · have h := h.1 hc
    refine sm_w.run t188 sr188 179 2 (M2 := M) (f2 := (355, [some (.ref 116), none, none, some (.int (x3)), none, none, none, none, none, some (.int (x9)), some (.int ((0 : Int32)))], [])) rfl ⟨trivial, (Nat.le_of_ble_eq_true rfl), trivial⟩ ?_
    exact h
  · have h := h.2 hc
    refine sm_w.run t188 sr188 165 2 (M2 := M) (f2 := (330, [some (.ref 116), none, none, some (.int (x3)), none, none, none, none, none, some (.int (x9)), some (.int (x10))], [va_rf (sm_rv M 116 37)])) rfl ⟨trivial, sm_K.g (k_116 hS) (sm_sh.rf _), trivial⟩ ?_
    refine sm_w.fld (r_116_37 hS) ?_
    refine sm_w.run t188 sr188 167 7 (M2 := M) (f2 := (342, [some (.ref 116), none, none, some (.int (x3)), none, none, none, none, none, some (.int (x9)), some (.int (x10))], [va_rf (sm_rv M 116 47), .int (((16 : Int32) * x9) + x10), .ref 135])) rfl ⟨trivial, trivial, trivial, trivial, trivial, trivial, sm_K.g (k_116 hS) (sm_sh.rf _), trivial⟩ ?_
    refine sm_w.fld (r_116_47 hS) ?_
    obtain ⟨c1, c2, h⟩ := h
    refine sm_w.run t188 sr188 174 3 (M2 := sm_wI M 135 (((16 : Int32) * x9) + x10).toNatClampNeg (iV M 141 x10.toNatClampNeg)) (f2 := (346, [some (.ref 116), none, none, some (.int (x3)), none, none, none, none, none, some (.int (x9)), some (.int (x10))], [])) rfl ⟨trivial, sm_K.a2 (k_141 hS) (l_141 hS) c1, sm_K.s2 (k_135 hS) (l_135 hS) c2, trivial⟩ ?_
    have hS4 : SH (sm_wI M 135 (((16 : Int32) * x9) + x10).toNatClampNeg (iV M 141 x10.toNatClampNeg)) := SH.wI hS _ _ _
    have h := h _ hS4 rfl
    generalize sm_wI M 135 (((16 : Int32) * x9) + x10).toNatClampNeg (iV M 141 x10.toNatClampNeg) = M3 at h hS4 ⊢
    refine sm_w.run t188 sr188 177 2 (M2 := M3) (f2 := (320, [some (.ref 116), none, none, some (.int (x3)), none, none, none, none, none, some (.int (x9)), some (.int (x10 + (1 : Int32)))], [])) rfl ⟨(Nat.le_of_ble_eq_true rfl), trivial, trivial⟩ ?_
    exact h
theorem g188_7 {M : sm_M} {x3 : Int32} {x9 : Int32} {x10 : Int32} {K : sm_M → Prop} (hS : SH M)  (h : ((x3 < x10 → K M) ∧ (¬ x3 < x10 → (vp_in x10 40) ∧ ((0 ≤ (iV M 142 x10.toNatClampNeg) → (vp_in x10 40) ∧ (vp_in (((17 : Int32) * x9) + x10) 10200) ∧ ∀ M4, SH M4 → M4 = sm_wI M 137 (((17 : Int32) * x9) + x10).toNatClampNeg (iV M 142 x10.toNatClampNeg) → sm_w 188 (355, [some (.ref 116), none, none, some (.int (x3)), none, none, none, none, none, some (.int (x9)), some (.int (x10 + (1 : Int32)))], []) M4 (rV K)) ∧ (¬ 0 ≤ (iV M 142 x10.toNatClampNeg) → (vp_in (((17 : Int32) * x9) + x10) 10200) ∧ ∀ M7, SH M7 → M7 = sm_wI M 137 (((17 : Int32) * x9) + x10).toNatClampNeg (0 : Int32) → sm_w 188 (355, [some (.ref 116), none, none, some (.int (x3)), none, none, none, none, none, some (.int (x9)), some (.int (x10 + (1 : Int32)))], []) M7 (rV K)))))) : sm_w 188 (355, [some (.ref 116), none, none, some (.int (x3)), none, none, none, none, none, some (.int (x9)), some (.int (x10))], []) M (rV K) := by
  refine sm_w.run t188 sr188 181 3 (M2 := M) (f2 := (if x3 < x10 then 401 else 361, [some (.ref 116), none, none, some (.int (x3)), none, none, none, none, none, some (.int (x9)), some (.int (x10))], [])) rfl ⟨trivial, trivial, trivial, trivial⟩ ?_
  refine sm_w.ite (fun hc => ?_) (fun hc => ?_)
  · have h := h.1 hc
    exact sm_w.end t188 sr188 205 (o := .returned none) (M2 := M) rfl trivial (by decide) (⟨rfl, h⟩)
  · have h := h.2 hc
    refine sm_w.run t188 sr188 184 2 (M2 := M) (f2 := (365, [some (.ref 116), none, none, some (.int (x3)), none, none, none, none, none, some (.int (x9)), some (.int (x10))], [va_rf (sm_rv M 116 39)])) rfl ⟨trivial, sm_K.g (k_116 hS) (sm_sh.rf _), trivial⟩ ?_
    refine sm_w.fld (r_116_39 hS) ?_
    refine sm_w.run t188 sr188 186 7 (M2 := M) (f2 := (377, [some (.ref 116), none, none, some (.int (x3)), none, none, none, none, none, some (.int (x9)), some (.int (x10))], [va_rf (sm_rv M 116 48), .int (((17 : Int32) * x9) + x10), .ref 137])) rfl ⟨trivial, trivial, trivial, trivial, trivial, trivial, sm_K.g (k_116 hS) (sm_sh.rf _), trivial⟩ ?_
    refine sm_w.fld (r_116_48 hS) ?_
    obtain ⟨c1, h⟩ := h
    refine sm_w.run t188 sr188 193 3 (M2 := M) (f2 := (if 0 ≤ (iV M 142 x10.toNatClampNeg) then 387 else 383, [some (.ref 116), none, none, some (.int (x3)), none, none, none, none, none, some (.int (x9)), some (.int (x10))], [.int (((17 : Int32) * x9) + x10), .ref 137])) rfl ⟨trivial, sm_K.a2 (k_142 hS) (l_142 hS) c1, trivial, trivial⟩ ?_
    refine sm_w.ite (fun hc => ?_) (fun hc => ?_)
    · have h := h.1 hc
      refine sm_w.run t188 sr188 198 2 (M2 := M) (f2 := (391, [some (.ref 116), none, none, some (.int (x3)), none, none, none, none, none, some (.int (x9)), some (.int (x10))], [va_rf (sm_rv M 116 48), .int (((17 : Int32) * x9) + x10), .ref 137])) rfl ⟨trivial, sm_K.g (k_116 hS) (sm_sh.rf _), trivial⟩ ?_
      refine sm_w.fld (r_116_48 hS) ?_
      obtain ⟨c2, c3, h⟩ := h
      refine sm_w.run t188 sr188 200 3 (M2 := sm_wI M 137 (((17 : Int32) * x9) + x10).toNatClampNeg (iV M 142 x10.toNatClampNeg)) (f2 := (395, [some (.ref 116), none, none, some (.int (x3)), none, none, none, none, none, some (.int (x9)), some (.int (x10))], [])) rfl ⟨trivial, sm_K.a2 (k_142 hS) (l_142 hS) c2, sm_K.s2 (k_137 hS) (l_137 hS) c3, trivial⟩ ?_
      have hS5 : SH (sm_wI M 137 (((17 : Int32) * x9) + x10).toNatClampNeg (iV M 142 x10.toNatClampNeg)) := SH.wI hS _ _ _
      have h := h _ hS5 rfl
      generalize sm_wI M 137 (((17 : Int32) * x9) + x10).toNatClampNeg (iV M 142 x10.toNatClampNeg) = M4 at h hS5 ⊢
      refine sm_w.run t188 sr188 203 2 (M2 := M4) (f2 := (355, [some (.ref 116), none, none, some (.int (x3)), none, none, none, none, none, some (.int (x9)), some (.int (x10 + (1 : Int32)))], [])) rfl ⟨(Nat.le_of_ble_eq_true rfl), trivial, trivial⟩ ?_
      exact h
    · have h := h.2 hc
      refine sm_w.run t188 sr188 196 2 (M2 := M) (f2 := (394, [some (.ref 116), none, none, some (.int (x3)), none, none, none, none, none, some (.int (x9)), some (.int (x10))], [.int ((0 : Int32)), .int (((17 : Int32) * x9) + x10), .ref 137])) rfl ⟨trivial, trivial, trivial⟩ ?_
      obtain ⟨c6, h⟩ := h
      refine sm_w.run t188 sr188 202 1 (M2 := sm_wI M 137 (((17 : Int32) * x9) + x10).toNatClampNeg (0 : Int32)) (f2 := (395, [some (.ref 116), none, none, some (.int (x3)), none, none, none, none, none, some (.int (x9)), some (.int (x10))], [])) rfl ⟨sm_K.s2 (k_137 hS) (l_137 hS) c6, trivial⟩ ?_
      have hS8 : SH (sm_wI M 137 (((17 : Int32) * x9) + x10).toNatClampNeg (0 : Int32)) := SH.wI hS _ _ _
      have h := h _ hS8 rfl
      generalize sm_wI M 137 (((17 : Int32) * x9) + x10).toNatClampNeg (0 : Int32) = M7 at h hS8 ⊢
      refine sm_w.run t188 sr188 203 2 (M2 := M7) (f2 := (355, [some (.ref 116), none, none, some (.int (x3)), none, none, none, none, none, some (.int (x9)), some (.int (x10 + (1 : Int32)))], [])) rfl ⟨(Nat.le_of_ble_eq_true rfl), trivial, trivial⟩ ?_
      exact h
