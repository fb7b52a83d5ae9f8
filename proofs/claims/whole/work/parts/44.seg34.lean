/-! METHODS by their segments. -/
-- 194 LineSetterModel.widthOf([I[III)J
theorem t194 : sP 194 = (10, sp_194, sh_194) := rfl
theorem sr194 : sm_srt sp_194 = true := by decide +kernel
theorem g194_0 {M : sm_M} {x1 : Nat} {nx1 : Nat} {x2 : Nat} {nx2 : Nat} {x3 : Int32} {x4 : Int32} {K : Int64 → sm_M → Prop} (hS : SH M) (hx1 : sA x1 0 nx1) (hx2 : sA x2 0 nx2) (h : sm_w 194 (9, [some (.ref 116), some (.ref x1), some (.ref x2), none, some (.int (x4)), some (.long ((0 : Int64))), none, some (.int (x3)), some (.int ((-1 : Int32))), none], []) M (rJ K)) : sm_w 194 (sm_in sP 194 [.ref 116, .ref x1, .ref x2, .int (x3), .int (x4)]) M (rJ K) := by
  show sm_w 194 (0, [some (.ref 116), some (.ref x1), some (.ref x2), some (.int (x3)), some (.int (x4)), none, none, none, none, none], []) M (rJ K)
  refine sm_w.run t194 sr194 0 6 (M2 := M) (f2 := (9, [some (.ref 116), some (.ref x1), some (.ref x2), some (.int (x3)), some (.int (x4)), some (.long ((0 : Int64))), none, some (.int (x3)), some (.int ((-1 : Int32))), none], [])) rfl ⟨trivial, (Nat.le_of_ble_eq_true rfl), trivial, (Nat.le_of_ble_eq_true rfl), trivial, (Nat.le_of_ble_eq_true rfl), trivial⟩ ?_
  refine sm_w.weak (ls := [some (.ref 116), some (.ref x1), some (.ref x2), none, some (.int (x4)), some (.long ((0 : Int64))), none, some (.int (x3)), some (.int ((-1 : Int32))), none]) (sm_leI [true, true, true, false, true, true, false, true, true, false] rfl) ?_
  exact h
theorem g194_1 {M : sm_M} {x1 : Nat} {nx1 : Nat} {x2 : Nat} {nx2 : Nat} {x4 : Int32} {x5 : Int64} {x7 : Int32} {x8 : Int32} {K : Int64 → sm_M → Prop} (hS : SH M) (hx1 : sA x1 0 nx1) (hx2 : sA x2 0 nx2) (h : ((x4 ≤ x7 → (((0 : Int64) ≤ x5 → K x5 M) ∧ (¬ (0 : Int64) ≤ x5 → K (0 : Int64) M))) ∧ (¬ x4 ≤ x7 → ((x8 < 0 → sm_w 194 (56, [some (.ref 116), some (.ref x1), some (.ref x2), none, some (.int (x4)), some (.long (x5)), none, some (.int (x7)), none, none], []) M (rJ K)) ∧ (¬ x8 < 0 → (vp_in x7 nx2) ∧ (vp_in (x7 - (1 : Int32)) nx2) ∧ (((iV M x2 x7.toNatClampNeg) = (iV M x2 (x7 - (1 : Int32)).toNatClampNeg) → (vp_in x7 nx2) ∧ (vp_in x7 nx1) ∧ sm_cI 195 [.ref 116, .int (x8), .int (iV M x1 x7.toNatClampNeg)] M (fun v6 M5 => SH M5 → sm_w 194 (56, [some (.ref 116), some (.ref x1), some (.ref x2), none, some (.int (x4)), some (.long (x5 + (p196_0 M5 (iV M x2 x7.toNatClampNeg) v6))), none, some (.int (x7)), none, none], []) M5 (rJ K))) ∧ (¬ (iV M x2 x7.toNatClampNeg) = (iV M x2 (x7 - (1 : Int32)).toNatClampNeg) → sm_w 194 (56, [some (.ref 116), some (.ref x1), some (.ref x2), none, some (.int (x4)), some (.long (x5)), none, some (.int (x7)), none, none], []) M (rJ K)))))))) : sm_w 194 (9, [some (.ref 116), some (.ref x1), some (.ref x2), none, some (.int (x4)), some (.long (x5)), none, some (.int (x7)), some (.int (x8)), none], []) M (rJ K) := by
  refine sm_w.run t194 sr194 6 3 (M2 := M) (f2 := (if x4 ≤ x7 then 169 else 16, [some (.ref 116), some (.ref x1), some (.ref x2), none, some (.int (x4)), some (.long (x5)), none, some (.int (x7)), some (.int (x8)), none], [])) rfl ⟨trivial, trivial, trivial, trivial⟩ ?_
  refine sm_w.ite (fun hc => ?_) (fun hc => ?_)
  · have h := h.1 hc
    refine sm_w.run t194 sr194 100 4 (M2 := M) (f2 := (if 0 ≤ (lg_cmp x5 (0 : Int64)) then 180 else 176, [some (.ref 116), some (.ref x1), some (.ref x2), none, some (.int (x4)), some (.long (x5)), none, some (.int (x7)), some (.int (x8)), none], [])) rfl ⟨trivial, trivial, trivial, trivial, trivial⟩ ?_
    refine sm_w.ite (fun hc => ?_) (fun hc => ?_)
    · have h := h.1 (lc_ge.mp hc)
      refine sm_w.run t194 sr194 106 1 (M2 := M) (f2 := (182, [some (.ref 116), some (.ref x1), some (.ref x2), none, some (.int (x4)), some (.long (x5)), none, some (.int (x7)), some (.int (x8)), none], [.long (x5)])) rfl ⟨trivial, trivial⟩ ?_
      exact sm_w.end t194 sr194 107 (o := .returned (some (.long (x5)))) (M2 := M) rfl trivial (by decide) (⟨_, rfl, h⟩)
    · have h := h.2 (fun z => hc (lc_ge.mpr z))
      refine sm_w.run t194 sr194 104 2 (M2 := M) (f2 := (182, [some (.ref 116), some (.ref x1), some (.ref x2), none, some (.int (x4)), some (.long (x5)), none, some (.int (x7)), some (.int (x8)), none], [.long ((0 : Int64))])) rfl ⟨trivial, trivial, trivial⟩ ?_
      exact sm_w.end t194 sr194 107 (o := .returned (some (.long ((0 : Int64))))) (M2 := M) rfl trivial (by decide) (⟨_, rfl, h⟩)
  · have h := h.2 hc
    refine sm_w.run t194 sr194 9 2 (M2 := M) (f2 := (if x8 < 0 then 56 else 21, [some (.ref 116), some (.ref x1), some (.ref x2), none, some (.int (x4)), some (.long (x5)), none, some (.int (x7)), some (.int (x8)), none], [])) rfl ⟨trivial, trivial, trivial⟩ ?_
    refine sm_w.ite (fun hc => ?_) (fun hc => ?_)
    · have h := h.1 hc
      refine sm_w.weak (ls := [some (.ref 116), some (.ref x1), some (.ref x2), none, some (.int (x4)), some (.long (x5)), none, some (.int (x7)), none, none]) (sm_leI [true, true, true, false, true, true, false, true, false, false] rfl) ?_
      exact h
    · have h := h.2 hc
      obtain ⟨c1, c2, h⟩ := h
      refine sm_w.run t194 sr194 11 9 (M2 := M) (f2 := (if (iV M x2 x7.toNatClampNeg) = (iV M x2 (x7 - (1 : Int32)).toNatClampNeg) then 34 else 56, [some (.ref 116), some (.ref x1), some (.ref x2), none, some (.int (x4)), some (.long (x5)), none, some (.int (x7)), some (.int (x8)), none], [])) rfl ⟨trivial, trivial, sm_K.a2 (hx2.K hS) (hx2.L hS) c1, trivial, trivial, trivial, trivial, sm_K.a2 (hx2.K hS) (hx2.L hS) c2, trivial, trivial⟩ ?_
      refine sm_w.ite (fun hc => ?_) (fun hc => ?_)
      · have h := h.1 hc
        obtain ⟨c3, c4, h⟩ := h
        refine sm_w.run t194 sr194 20 9 (M2 := M) (f2 := (47, [some (.ref 116), some (.ref x1), some (.ref x2), none, some (.int (x4)), some (.long (x5)), none, some (.int (x7)), some (.int (x8)), none], [.int (iV M x1 x7.toNatClampNeg), .int (x8), .ref 116, .int (iV M x2 x7.toNatClampNeg), .long (x5)])) rfl ⟨trivial, trivial, trivial, sm_K.a2 (hx2.K hS) (hx2.L hS) c3, trivial, trivial, trivial, trivial, sm_K.a2 (hx1.K hS) (hx1.L hS) c4, trivial⟩ ?_
        refine sm_w.cI t194 sr194 29 (i := 195) (as := [.ref 116, .int (x8), .int (iV M x1 x7.toNatClampNeg)]) (g := (47, [some (.ref 116), some (.ref x1), some (.ref x2), none, some (.int (x4)), some (.long (x5)), none, some (.int (x7)), some (.int (x8)), none], [.int (iV M x2 x7.toNatClampNeg), .long (x5)])) rfl ⟨by decide, by decide, (Nat.le_of_ble_eq_true rfl), (sm_K.g (k_116 hS) (sm_sh.rf _)).1, (sm_K.g (k_116 hS) (sm_sh.rf _)).2, (Nat.le_of_ble_eq_true rfl)⟩ (Nat.le_of_ble_eq_true rfl) (by decide) (sm_cI.s (by decide) hS h) (fun v6 M5 h => ?_)
        obtain ⟨hS7, h⟩ := h
        refine sm_w.cJ t194 sr194 30 (i := 196) (as := [.int (iV M x2 x7.toNatClampNeg), .int (v6)]) (g := (50, [some (.ref 116), some (.ref x1), some (.ref x2), none, some (.int (x4)), some (.long (x5)), none, some (.int (x7)), some (.int (x8)), none], [.long (x5)])) rfl ⟨(Nat.le_of_ble_eq_true rfl), (Nat.le_of_ble_eq_true rfl)⟩ (Nat.le_of_ble_eq_true rfl) (by decide) (p196_c hS7) (fun vz M2 hz => ?_)
        obtain ⟨hz1, hz2⟩ := hz
        subst hz1
        have hz2 := hz2.symm
        subst hz2
        refine sm_w.run t194 sr194 31 2 (M2 := M5) (f2 := (56, [some (.ref 116), some (.ref x1), some (.ref x2), none, some (.int (x4)), some (.long (x5 + (p196_0 M5 (iV M x2 x7.toNatClampNeg) v6))), none, some (.int (x7)), some (.int (x8)), none], [])) rfl ⟨trivial, (Nat.le_of_ble_eq_true rfl), trivial⟩ ?_
        refine sm_w.weak (ls := [some (.ref 116), some (.ref x1), some (.ref x2), none, some (.int (x4)), some (.long (x5 + (p196_0 M5 (iV M x2 x7.toNatClampNeg) v6))), none, some (.int (x7)), none, none]) (sm_leI [true, true, true, false, true, true, false, true, false, false] rfl) ?_
        exact h
      · have h := h.2 hc
        refine sm_w.weak (ls := [some (.ref 116), some (.ref x1), some (.ref x2), none, some (.int (x4)), some (.long (x5)), none, some (.int (x7)), none, none]) (sm_leI [true, true, true, false, true, true, false, true, false, false] rfl) ?_
        exact h
theorem g194_2 {M : sm_M} {x1 : Nat} {nx1 : Nat} {x2 : Nat} {nx2 : Nat} {x4 : Int32} {x5 : Int64} {x7 : Int32} {K : Int64 → sm_M → Prop} (hS : SH M) (hx1 : sA x1 0 nx1) (hx2 : sA x2 0 nx2) (h : ((x4 ≤ (x7 + (1 : Int32)) → (vp_in x7 nx2) ∧ (vp_in x7 nx1) ∧ (vp_in (iV M x1 x7.toNatClampNeg) 256) ∧ (vp_in x7 nx1) ∧ sm_w 194 (9, [some (.ref 116), some (.ref x1), some (.ref x2), none, some (.int (x4)), some (.long (x5 + (p196_0 M (iV M x2 x7.toNatClampNeg) (iV M 120 (iV M x1 x7.toNatClampNeg).toNatClampNeg)))), none, some (.int (x7 + (1 : Int32))), some (.int (iV M x1 x7.toNatClampNeg)), none], []) M (rJ K)) ∧ (¬ x4 ≤ (x7 + (1 : Int32)) → (vp_in x7 nx2) ∧ (vp_in (x7 + (1 : Int32)) nx2) ∧ (((iV M x2 x7.toNatClampNeg) = (iV M x2 (x7 + (1 : Int32)).toNatClampNeg) → (vp_in x7 nx1) ∧ (vp_in (x7 + (1 : Int32)) nx1) ∧ sm_cI 197 [.ref 116, .int (iV M x1 x7.toNatClampNeg), .int (iV M x1 (x7 + (1 : Int32)).toNatClampNeg)] M (fun v10 M9 => SH M9 → ((v10 < 0 → (vp_in x7 nx2) ∧ (vp_in x7 nx1) ∧ (vp_in (iV M9 x1 x7.toNatClampNeg) 256) ∧ (vp_in x7 nx1) ∧ sm_w 194 (9, [some (.ref 116), some (.ref x1), some (.ref x2), none, some (.int (x4)), some (.long (x5 + (p196_0 M9 (iV M9 x2 x7.toNatClampNeg) (iV M9 120 (iV M9 x1 x7.toNatClampNeg).toNatClampNeg)))), none, some (.int (x7 + (1 : Int32))), some (.int (iV M9 x1 x7.toNatClampNeg)), none], []) M9 (rJ K)) ∧ (¬ v10 < 0 → (vp_in x7 nx2) ∧ (vp_in v10 60) ∧ (vp_in (x7 + (1 : Int32)) nx1) ∧ sm_w 194 (9, [some (.ref 116), some (.ref x1), some (.ref x2), none, some (.int (x4)), some (.long (x5 + (p196_0 M9 (iV M9 x2 x7.toNatClampNeg) (iV M9 127 v10.toNatClampNeg)))), none, some (.int (x7 + (2 : Int32))), some (.int (iV M9 x1 (x7 + (1 : Int32)).toNatClampNeg)), none], []) M9 (rJ K))))) ∧ (¬ (iV M x2 x7.toNatClampNeg) = (iV M x2 (x7 + (1 : Int32)).toNatClampNeg) → (vp_in x7 nx2) ∧ (vp_in x7 nx1) ∧ (vp_in (iV M x1 x7.toNatClampNeg) 256) ∧ (vp_in x7 nx1) ∧ sm_w 194 (9, [some (.ref 116), some (.ref x1), some (.ref x2), none, some (.int (x4)), some (.long (x5 + (p196_0 M (iV M x2 x7.toNatClampNeg) (iV M 120 (iV M x1 x7.toNatClampNeg).toNatClampNeg)))), none, some (.int (x7 + (1 : Int32))), some (.int (iV M x1 x7.toNatClampNeg)), none], []) M (rJ K)))))) : sm_w 194 (56, [some (.ref 116), some (.ref x1), some (.ref x2), none, some (.int (x4)), some (.long (x5)), none, some (.int (x7)), none, none], []) M (rJ K) := by
  refine sm_w.run t194 sr194 33 5 (M2 := M) (f2 := (if x4 ≤ (x7 + (1 : Int32)) then 95 else 65, [some (.ref 116), some (.ref x1), some (.ref x2), none, some (.int (x4)), some (.long (x5)), none, some (.int (x7)), none, none], [])) rfl ⟨trivial, trivial, trivial, trivial, trivial, trivial⟩ ?_
  refine sm_w.ite (fun hc => ?_) (fun hc => ?_)
  · have h := h.1 hc
    refine sm_w.run t194 sr194 58 4 (M2 := M) (f2 := (if (-1 : Int32) < 0 then 136 else 103, [some (.ref 116), some (.ref x1), some (.ref x2), none, some (.int (x4)), some (.long (x5)), none, some (.int (x7)), none, some (.int ((-1 : Int32)))], [])) rfl ⟨trivial, (Nat.le_of_ble_eq_true rfl), trivial, trivial, trivial⟩ ?_
    rw [if_pos (by decide)]
    obtain ⟨c1, h⟩ := h
    refine sm_w.run t194 sr194 81 6 (M2 := M) (f2 := (146, [some (.ref 116), some (.ref x1), some (.ref x2), none, some (.int (x4)), some (.long (x5)), none, some (.int (x7)), none, some (.int ((-1 : Int32)))], [va_rf (sm_rv M 116 14), .int (iV M x2 x7.toNatClampNeg), .long (x5)])) rfl ⟨trivial, trivial, trivial, sm_K.a2 (hx2.K hS) (hx2.L hS) c1, trivial, sm_K.g (k_116 hS) (sm_sh.rf _), trivial⟩ ?_
    refine sm_w.fld (r_116_14 hS) ?_
    obtain ⟨c2, c3, h⟩ := h
    refine sm_w.run t194 sr194 87 4 (M2 := M) (f2 := (151, [some (.ref 116), some (.ref x1), some (.ref x2), none, some (.int (x4)), some (.long (x5)), none, some (.int (x7)), none, some (.int ((-1 : Int32)))], [.int (iV M 120 (iV M x1 x7.toNatClampNeg).toNatClampNeg), .int (iV M x2 x7.toNatClampNeg), .long (x5)])) rfl ⟨trivial, trivial, sm_K.a2 (hx1.K hS) (hx1.L hS) c2, sm_K.a2 (k_120 hS) (l_120 hS) c3, trivial⟩ ?_
    refine sm_w.cJ t194 sr194 91 (i := 196) (as := [.int (iV M x2 x7.toNatClampNeg), .int (iV M 120 (iV M x1 x7.toNatClampNeg).toNatClampNeg)]) (g := (151, [some (.ref 116), some (.ref x1), some (.ref x2), none, some (.int (x4)), some (.long (x5)), none, some (.int (x7)), none, some (.int ((-1 : Int32)))], [.long (x5)])) rfl ⟨(Nat.le_of_ble_eq_true rfl), (Nat.le_of_ble_eq_true rfl)⟩ (Nat.le_of_ble_eq_true rfl) (by decide) (p196_c hS) (fun vz M2 hz => ?_)
    obtain ⟨hz1, hz2⟩ := hz
    subst hz1
    have hz2 := hz2.symm
    subst hz2
    obtain ⟨c4, h⟩ := h
    refine sm_w.run t194 sr194 92 8 (M2 := M) (f2 := (9, [some (.ref 116), some (.ref x1), some (.ref x2), none, some (.int (x4)), some (.long (x5 + (p196_0 M (iV M x2 x7.toNatClampNeg) (iV M 120 (iV M x1 x7.toNatClampNeg).toNatClampNeg)))), none, some (.int (x7 + (1 : Int32))), some (.int (iV M x1 x7.toNatClampNeg)), some (.int ((-1 : Int32)))], [])) rfl ⟨trivial, (Nat.le_of_ble_eq_true rfl), trivial, trivial, sm_K.a2 (hx1.K hS) (hx1.L hS) c4, (Nat.le_of_ble_eq_true rfl), (Nat.le_of_ble_eq_true rfl), trivial, trivial⟩ ?_
    refine sm_w.weak (ls := [some (.ref 116), some (.ref x1), some (.ref x2), none, some (.int (x4)), some (.long (x5 + (p196_0 M (iV M x2 x7.toNatClampNeg) (iV M 120 (iV M x1 x7.toNatClampNeg).toNatClampNeg)))), none, some (.int (x7 + (1 : Int32))), some (.int (iV M x1 x7.toNatClampNeg)), none]) (sm_leI [true, true, true, false, true, true, false, true, true, false] rfl) ?_
    exact h
  · have h := h.2 hc
    obtain ⟨c5, c6, h⟩ := h
    refine sm_w.run t194 sr194 38 9 (M2 := M) (f2 := (if (iV M x2 x7.toNatClampNeg) = (iV M x2 (x7 + (1 : Int32)).toNatClampNeg) then 78 else 95, [some (.ref 116), some (.ref x1), some (.ref x2), none, some (.int (x4)), some (.long (x5)), none, some (.int (x7)), none, none], [])) rfl ⟨trivial, trivial, sm_K.a2 (hx2.K hS) (hx2.L hS) c5, trivial, trivial, trivial, trivial, sm_K.a2 (hx2.K hS) (hx2.L hS) c6, trivial, trivial⟩ ?_
    refine sm_w.ite (fun hc => ?_) (fun hc => ?_)
    · have h := h.1 hc
      obtain ⟨c7, c8, h⟩ := h
      refine sm_w.run t194 sr194 47 9 (M2 := M) (f2 := (89, [some (.ref 116), some (.ref x1), some (.ref x2), none, some (.int (x4)), some (.long (x5)), none, some (.int (x7)), none, none], [.int (iV M x1 (x7 + (1 : Int32)).toNatClampNeg), .int (iV M x1 x7.toNatClampNeg), .ref 116])) rfl ⟨trivial, trivial, trivial, sm_K.a2 (hx1.K hS) (hx1.L hS) c7, trivial, trivial, trivial, trivial, sm_K.a2 (hx1.K hS) (hx1.L hS) c8, trivial⟩ ?_
      refine sm_w.cI t194 sr194 56 (i := 197) (as := [.ref 116, .int (iV M x1 x7.toNatClampNeg), .int (iV M x1 (x7 + (1 : Int32)).toNatClampNeg)]) (g := (89, [some (.ref 116), some (.ref x1), some (.ref x2), none, some (.int (x4)), some (.long (x5)), none, some (.int (x7)), none, none], [])) rfl ⟨by decide, by decide, (Nat.le_of_ble_eq_true rfl), (sm_K.g (k_116 hS) (sm_sh.rf _)).1, (sm_K.g (k_116 hS) (sm_sh.rf _)).2, (Nat.le_of_ble_eq_true rfl)⟩ (Nat.le_of_ble_eq_true rfl) (by decide) (sm_cI.s (by decide) hS h) (fun v10 M9 h => ?_)
      obtain ⟨hS11, h⟩ := h
      refine sm_w.run t194 sr194 57 1 (M2 := M9) (f2 := (96, [some (.ref 116), some (.ref x1), some (.ref x2), none, some (.int (x4)), some (.long (x5)), none, some (.int (x7)), none, none], [.int (v10)])) rfl ⟨trivial, trivial⟩ ?_
      refine sm_w.run t194 sr194 59 3 (M2 := M9) (f2 := (if v10 < 0 then 136 else 103, [some (.ref 116), some (.ref x1), some (.ref x2), none, some (.int (x4)), some (.long (x5)), none, some (.int (x7)), none, some (.int (v10))], [])) rfl ⟨(Nat.le_of_ble_eq_true rfl), trivial, trivial, trivial⟩ ?_
      refine sm_w.ite (fun hc => ?_) (fun hc => ?_)
      · have h := h.1 hc
        obtain ⟨c12, h⟩ := h
        refine sm_w.run t194 sr194 81 6 (M2 := M9) (f2 := (146, [some (.ref 116), some (.ref x1), some (.ref x2), none, some (.int (x4)), some (.long (x5)), none, some (.int (x7)), none, some (.int (v10))], [va_rf (sm_rv M9 116 14), .int (iV M9 x2 x7.toNatClampNeg), .long (x5)])) rfl ⟨trivial, trivial, trivial, sm_K.a2 (hx2.K hS11) (hx2.L hS11) c12, trivial, sm_K.g (k_116 hS11) (sm_sh.rf _), trivial⟩ ?_
        refine sm_w.fld (r_116_14 hS11) ?_
        obtain ⟨c13, c14, h⟩ := h
        refine sm_w.run t194 sr194 87 4 (M2 := M9) (f2 := (151, [some (.ref 116), some (.ref x1), some (.ref x2), none, some (.int (x4)), some (.long (x5)), none, some (.int (x7)), none, some (.int (v10))], [.int (iV M9 120 (iV M9 x1 x7.toNatClampNeg).toNatClampNeg), .int (iV M9 x2 x7.toNatClampNeg), .long (x5)])) rfl ⟨trivial, trivial, sm_K.a2 (hx1.K hS11) (hx1.L hS11) c13, sm_K.a2 (k_120 hS11) (l_120 hS11) c14, trivial⟩ ?_
        refine sm_w.cJ t194 sr194 91 (i := 196) (as := [.int (iV M9 x2 x7.toNatClampNeg), .int (iV M9 120 (iV M9 x1 x7.toNatClampNeg).toNatClampNeg)]) (g := (151, [some (.ref 116), some (.ref x1), some (.ref x2), none, some (.int (x4)), some (.long (x5)), none, some (.int (x7)), none, some (.int (v10))], [.long (x5)])) rfl ⟨(Nat.le_of_ble_eq_true rfl), (Nat.le_of_ble_eq_true rfl)⟩ (Nat.le_of_ble_eq_true rfl) (by decide) (p196_c hS11) (fun vz M2 hz => ?_)
        obtain ⟨hz1, hz2⟩ := hz
        subst hz1
        have hz2 := hz2.symm
        subst hz2
        obtain ⟨c15, h⟩ := h
        refine sm_w.run t194 sr194 92 8 (M2 := M9) (f2 := (9, [some (.ref 116), some (.ref x1), some (.ref x2), none, some (.int (x4)), some (.long (x5 + (p196_0 M9 (iV M9 x2 x7.toNatClampNeg) (iV M9 120 (iV M9 x1 x7.toNatClampNeg).toNatClampNeg)))), none, some (.int (x7 + (1 : Int32))), some (.int (iV M9 x1 x7.toNatClampNeg)), some (.int (v10))], [])) rfl ⟨trivial, (Nat.le_of_ble_eq_true rfl), trivial, trivial, sm_K.a2 (hx1.K hS11) (hx1.L hS11) c15, (Nat.le_of_ble_eq_true rfl), (Nat.le_of_ble_eq_true rfl), trivial, trivial⟩ ?_
        refine sm_w.weak (ls := [some (.ref 116), some (.ref x1), some (.ref x2), none, some (.int (x4)), some (.long (x5 + (p196_0 M9 (iV M9 x2 x7.toNatClampNeg) (iV M9 120 (iV M9 x1 x7.toNatClampNeg).toNatClampNeg)))), none, some (.int (x7 + (1 : Int32))), some (.int (iV M9 x1 x7.toNatClampNeg)), none]) (sm_leI [true, true, true, false, true, true, false, true, true, false] rfl) ?_
        exact h
      · have h := h.2 hc
        obtain ⟨c16, h⟩ := h
        refine sm_w.run t194 sr194 62 6 (M2 := M9) (f2 := (113, [some (.ref 116), some (.ref x1), some (.ref x2), none, some (.int (x4)), some (.long (x5)), none, some (.int (x7)), none, some (.int (v10))], [va_rf (sm_rv M9 116 21), .int (iV M9 x2 x7.toNatClampNeg), .long (x5)])) rfl ⟨trivial, trivial, trivial, sm_K.a2 (hx2.K hS11) (hx2.L hS11) c16, trivial, sm_K.g (k_116 hS11) (sm_sh.rf _), trivial⟩ ?_
        refine sm_w.fld (r_116_21 hS11) ?_
        obtain ⟨c17, h⟩ := h
        refine sm_w.run t194 sr194 68 2 (M2 := M9) (f2 := (116, [some (.ref 116), some (.ref x1), some (.ref x2), none, some (.int (x4)), some (.long (x5)), none, some (.int (x7)), none, some (.int (v10))], [.int (iV M9 127 v10.toNatClampNeg), .int (iV M9 x2 x7.toNatClampNeg), .long (x5)])) rfl ⟨trivial, sm_K.a2 (k_127 hS11) (l_127 hS11) c17, trivial⟩ ?_
        refine sm_w.cJ t194 sr194 70 (i := 196) (as := [.int (iV M9 x2 x7.toNatClampNeg), .int (iV M9 127 v10.toNatClampNeg)]) (g := (116, [some (.ref 116), some (.ref x1), some (.ref x2), none, some (.int (x4)), some (.long (x5)), none, some (.int (x7)), none, some (.int (v10))], [.long (x5)])) rfl ⟨(Nat.le_of_ble_eq_true rfl), (Nat.le_of_ble_eq_true rfl)⟩ (Nat.le_of_ble_eq_true rfl) (by decide) (p196_c hS11) (fun vz M2 hz => ?_)
        obtain ⟨hz1, hz2⟩ := hz
        subst hz1
        have hz2 := hz2.symm
        subst hz2
        obtain ⟨c18, h⟩ := h
        refine sm_w.run t194 sr194 71 10 (M2 := M9) (f2 := (166, [some (.ref 116), some (.ref x1), some (.ref x2), none, some (.int (x4)), some (.long (x5 + (p196_0 M9 (iV M9 x2 x7.toNatClampNeg) (iV M9 127 v10.toNatClampNeg)))), none, some (.int (x7 + (2 : Int32))), some (.int (iV M9 x1 (x7 + (1 : Int32)).toNatClampNeg)), some (.int (v10))], [])) rfl ⟨trivial, (Nat.le_of_ble_eq_true rfl), trivial, trivial, trivial, trivial, sm_K.a2 (hx1.K hS11) (hx1.L hS11) c18, (Nat.le_of_ble_eq_true rfl), (Nat.le_of_ble_eq_true rfl), trivial, trivial⟩ ?_
        refine sm_w.run t194 sr194 99 1 (M2 := M9) (f2 := (9, [some (.ref 116), some (.ref x1), some (.ref x2), none, some (.int (x4)), some (.long (x5 + (p196_0 M9 (iV M9 x2 x7.toNatClampNeg) (iV M9 127 v10.toNatClampNeg)))), none, some (.int (x7 + (2 : Int32))), some (.int (iV M9 x1 (x7 + (1 : Int32)).toNatClampNeg)), some (.int (v10))], [])) rfl ⟨trivial, trivial⟩ ?_
        refine sm_w.weak (ls := [some (.ref 116), some (.ref x1), some (.ref x2), none, some (.int (x4)), some (.long (x5 + (p196_0 M9 (iV M9 x2 x7.toNatClampNeg) (iV M9 127 v10.toNatClampNeg)))), none, some (.int (x7 + (2 : Int32))), some (.int (iV M9 x1 (x7 + (1 : Int32)).toNatClampNeg)), none]) (sm_leI [true, true, true, false, true, true, false, true, true, false] rfl) ?_
        exact h
    · have h := h.2 hc
      refine sm_w.run t194 sr194 58 4 (M2 := M) (f2 := (if (-1 : Int32) < 0 then 136 else 103, [some (.ref 116), some (.ref x1), some (.ref x2), none, some (.int (x4)), some (.long (x5)), none, some (.int (x7)), none, some (.int ((-1 : Int32)))], [])) rfl ⟨trivial, (Nat.le_of_ble_eq_true rfl), trivial, trivial, trivial⟩ ?_
      rw [if_pos (by decide)]
      obtain ⟨c19, h⟩ := h
      refine sm_w.run t194 sr194 81 6 (M2 := M) (f2 := (146, [some (.ref 116), some (.ref x1), some (.ref x2), none, some (.int (x4)), some (.long (x5)), none, some (.int (x7)), none, some (.int ((-1 : Int32)))], [va_rf (sm_rv M 116 14), .int (iV M x2 x7.toNatClampNeg), .long (x5)])) rfl ⟨trivial, trivial, trivial, sm_K.a2 (hx2.K hS) (hx2.L hS) c19, trivial, sm_K.g (k_116 hS) (sm_sh.rf _), trivial⟩ ?_
      refine sm_w.fld (r_116_14 hS) ?_
      obtain ⟨c20, c21, h⟩ := h
      refine sm_w.run t194 sr194 87 4 (M2 := M) (f2 := (151, [some (.ref 116), some (.ref x1), some (.ref x2), none, some (.int (x4)), some (.long (x5)), none, some (.int (x7)), none, some (.int ((-1 : Int32)))], [.int (iV M 120 (iV M x1 x7.toNatClampNeg).toNatClampNeg), .int (iV M x2 x7.toNatClampNeg), .long (x5)])) rfl ⟨trivial, trivial, sm_K.a2 (hx1.K hS) (hx1.L hS) c20, sm_K.a2 (k_120 hS) (l_120 hS) c21, trivial⟩ ?_
      refine sm_w.cJ t194 sr194 91 (i := 196) (as := [.int (iV M x2 x7.toNatClampNeg), .int (iV M 120 (iV M x1 x7.toNatClampNeg).toNatClampNeg)]) (g := (151, [some (.ref 116), some (.ref x1), some (.ref x2), none, some (.int (x4)), some (.long (x5)), none, some (.int (x7)), none, some (.int ((-1 : Int32)))], [.long (x5)])) rfl ⟨(Nat.le_of_ble_eq_true rfl), (Nat.le_of_ble_eq_true rfl)⟩ (Nat.le_of_ble_eq_true rfl) (by decide) (p196_c hS) (fun vz M2 hz => ?_)
      obtain ⟨hz1, hz2⟩ := hz
      subst hz1
      have hz2 := hz2.symm
      subst hz2
      obtain ⟨c22, h⟩ := h
      refine sm_w.run t194 sr194 92 8 (M2 := M) (f2 := (9, [some (.ref 116), some (.ref x1), some (.ref x2), none, some (.int (x4)), some (.long (x5 + (p196_0 M (iV M x2 x7.toNatClampNeg) (iV M 120 (iV M x1 x7.toNatClampNeg).toNatClampNeg)))), none, some (.int (x7 + (1 : Int32))), some (.int (iV M x1 x7.toNatClampNeg)), some (.int ((-1 : Int32)))], [])) rfl ⟨trivial, (Nat.le_of_ble_eq_true rfl), trivial, trivial, sm_K.a2 (hx1.K hS) (hx1.L hS) c22, (Nat.le_of_ble_eq_true rfl), (Nat.le_of_ble_eq_true rfl), trivial, trivial⟩ ?_
      refine sm_w.weak (ls := [some (.ref 116), some (.ref x1), some (.ref x2), none, some (.int (x4)), some (.long (x5 + (p196_0 M (iV M x2 x7.toNatClampNeg) (iV M 120 (iV M x1 x7.toNatClampNeg).toNatClampNeg)))), none, some (.int (x7 + (1 : Int32))), some (.int (iV M x1 x7.toNatClampNeg)), none]) (sm_leI [true, true, true, false, true, true, false, true, true, false] rfl) ?_
      exact h
-- 193 LineSetterModel.width(I)J
theorem t193 : sP 193 = (3, sp_193, sh_193) := rfl
theorem sr193 : sm_srt sp_193 = true := by decide +kernel
theorem g193_0 {M : sm_M} {x1 : Int32} {K : Int64 → sm_M → Prop} (hS : SH M)  (h : sm_cV 169 [.ref 116] M (fun M1 => SH M1 → (((p166_0 M1 x1.toInt64 (1000 : Int64) (100000 : Int64)) = 0 → ∀ M7, SH M7 → M7 = sm_wI M1 116 0 (1 : Int32) → K (0 : Int32).toInt64 M7) ∧ (¬ (p166_0 M1 x1.toInt64 (1000 : Int64) (100000 : Int64)) = 0 → sm_w 193 (27, [some (.ref 116), some (.int (x1)), some (.int ((0 : Int32)))], []) M1 (rJ K))))) : sm_w 193 (sm_in sP 193 [.ref 116, .int (x1)]) M (rJ K) := by
  show sm_w 193 (0, [some (.ref 116), some (.int (x1)), none], []) M (rJ K)
  refine sm_w.run t193 sr193 0 1 (M2 := M) (f2 := (1, [some (.ref 116), some (.int (x1)), none], [.ref 116])) rfl ⟨trivial, trivial⟩ ?_
  refine sm_w.cV t193 sr193 1 (i := 169) (as := [.ref 116]) (g := (1, [some (.ref 116), some (.int (x1)), none], [])) rfl ⟨by decide, by decide, (Nat.le_of_ble_eq_true rfl), (sm_K.g (k_116 hS) (sm_sh.rf _)).1, (sm_K.g (k_116 hS) (sm_sh.rf _)).2, (Nat.le_of_ble_eq_true rfl)⟩ (Nat.le_of_ble_eq_true rfl) (by decide) (sm_cV.s (by decide) hS h) (fun M1 h => ?_)
  obtain ⟨hS3, h⟩ := h
  refine sm_w.run t193 sr193 2 4 (M2 := M1) (f2 := (12, [some (.ref 116), some (.int (x1)), none], [.long ((100000 : Int64)), .long ((1000 : Int64)), .long (x1.toInt64)])) rfl ⟨trivial, trivial, trivial, trivial, trivial⟩ ?_
  refine sm_w.cI t193 sr193 6 (i := 166) (as := [.long (x1.toInt64), .long ((1000 : Int64)), .long ((100000 : Int64))]) (g := (12, [some (.ref 116), some (.int (x1)), none], [])) rfl ⟨(Nat.le_of_ble_eq_true rfl), (Nat.le_of_ble_eq_true rfl)⟩ (Nat.le_of_ble_eq_true rfl) (by decide) (p166_c hS3) (fun vz M2 hz => ?_)
  obtain ⟨hz1, hz2⟩ := hz
  subst hz1
  have hz2 := hz2.symm
  subst hz2
  refine sm_w.run t193 sr193 7 1 (M2 := M1) (f2 := (if (p166_0 M1 x1.toInt64 (1000 : Int64) (100000 : Int64)) = 0 then 18 else 25, [some (.ref 116), some (.int (x1)), none], [])) rfl ⟨trivial, trivial⟩ ?_
  refine sm_w.ite (fun hc => ?_) (fun hc => ?_)
  · have h := h.1 hc
    refine sm_w.run t193 sr193 8 2 (M2 := M1) (f2 := (20, [some (.ref 116), some (.int (x1)), none], [.int ((1 : Int32)), .ref 116])) rfl ⟨trivial, trivial, trivial⟩ ?_
    refine sm_w.cI t193 sr193 10 (i := 163) (as := [.ref 116, .int ((1 : Int32))]) (g := (20, [some (.ref 116), some (.int (x1)), none], [])) rfl ⟨by decide, by decide, (Nat.le_of_ble_eq_true rfl), (sm_K.g (k_116 hS3) (sm_sh.rf _)).1, (sm_K.g (k_116 hS3) (sm_sh.rf _)).2, (Nat.le_of_ble_eq_true rfl)⟩ (Nat.le_of_ble_eq_true rfl) (by decide) (sm_cI.s2 (by decide) hS3 (g163_0 (K := fun v5 M4 => K v5.toInt64 M4) hS3 h)) (fun v5 M4 h => ?_)
    obtain ⟨hS6, h⟩ := h
    refine sm_w.run t193 sr193 11 1 (M2 := M4) (f2 := (24, [some (.ref 116), some (.int (x1)), none], [.long (v5.toInt64)])) rfl ⟨trivial, trivial⟩ ?_
    exact sm_w.end t193 sr193 12 (o := .returned (some (.long (v5.toInt64)))) (M2 := M4) rfl trivial (by decide) (⟨_, rfl, h⟩)
  · have h := h.2 hc
    refine sm_w.run t193 sr193 13 2 (M2 := M1) (f2 := (27, [some (.ref 116), some (.int (x1)), some (.int ((0 : Int32)))], [])) rfl ⟨trivial, (Nat.le_of_ble_eq_true rfl), trivial⟩ ?_
    exact h
theorem g193_1 {M : sm_M} {x1 : Int32} {x2 : Int32} {K : Int64 → sm_M → Prop} (hS : SH M)  (h : (((iV M 116 4) ≤ x2 → ∀ M1, SH M1 → M1 = sm_wI M 116 0 (0 : Int32) → sm_w 193 (74, [some (.ref 116), some (.int (x1)), some (.int ((0 : Int32)))], []) M1 (rJ K)) ∧ (¬ (iV M 116 4) ≤ x2 → (vp_in x2 8192) ∧ (((p166_0 M ((iV M 118 x2.toNatClampNeg).toInt64) (32 : Int64) (126 : Int64)) = 0 → ∀ M7, SH M7 → M7 = sm_wI M 116 0 (1 : Int32) → K (0 : Int32).toInt64 M7) ∧ (¬ (p166_0 M ((iV M 118 x2.toNatClampNeg).toInt64) (32 : Int64) (126 : Int64)) = 0 → sm_w 193 (27, [some (.ref 116), some (.int (x1)), some (.int (x2 + (1 : Int32)))], []) M (rJ K)))))) : sm_w 193 (27, [some (.ref 116), some (.int (x1)), some (.int (x2))], []) M (rJ K) := by
  refine sm_w.run t193 sr193 15 4 (M2 := M) (f2 := (if (iV M 116 4) ≤ x2 then 67 else 35, [some (.ref 116), some (.int (x1)), some (.int (x2))], [])) rfl ⟨trivial, trivial, sm_K.g (k_116 hS) (sm_sh.rf _), trivial, trivial⟩ ?_
  refine sm_w.ite (fun hc => ?_) (fun hc => ?_)
  · have h := h.1 hc
    refine sm_w.run t193 sr193 35 3 (M2 := sm_wI M 116 0 (0 : Int32)) (f2 := (72, [some (.ref 116), some (.int (x1)), some (.int (x2))], [])) rfl ⟨trivial, trivial, ⟨(sm_K.p (k_116 hS) (sm_sh.rf _)).1, (sm_K.p (k_116 hS) (sm_sh.rf _)).2.1, (sm_K.p (k_116 hS) (sm_sh.rf _)).2.2, Or.inl rfl⟩, trivial⟩ ?_
    have hS2 : SH (sm_wI M 116 0 (0 : Int32)) := SH.wI hS _ _ _
    have h := h _ hS2 rfl
    generalize sm_wI M 116 0 (0 : Int32) = M1 at h hS2 ⊢
    refine sm_w.run t193 sr193 38 2 (M2 := M1) (f2 := (74, [some (.ref 116), some (.int (x1)), some (.int ((0 : Int32)))], [])) rfl ⟨trivial, (Nat.le_of_ble_eq_true rfl), trivial⟩ ?_
    exact h
  · have h := h.2 hc
    refine sm_w.run t193 sr193 19 2 (M2 := M) (f2 := (39, [some (.ref 116), some (.int (x1)), some (.int (x2))], [va_rf (sm_rv M 116 2)])) rfl ⟨trivial, sm_K.g (k_116 hS) (sm_sh.rf _), trivial⟩ ?_
    refine sm_w.fld (r_116_2 hS) ?_
    obtain ⟨c3, h⟩ := h
    refine sm_w.run t193 sr193 21 5 (M2 := M) (f2 := (48, [some (.ref 116), some (.int (x1)), some (.int (x2))], [.long ((126 : Int64)), .long ((32 : Int64)), .long ((iV M 118 x2.toNatClampNeg).toInt64)])) rfl ⟨trivial, sm_K.a2 (k_118 hS) (l_118 hS) c3, trivial, trivial, trivial, trivial⟩ ?_
    refine sm_w.cI t193 sr193 26 (i := 166) (as := [.long ((iV M 118 x2.toNatClampNeg).toInt64), .long ((32 : Int64)), .long ((126 : Int64))]) (g := (48, [some (.ref 116), some (.int (x1)), some (.int (x2))], [])) rfl ⟨(Nat.le_of_ble_eq_true rfl), (Nat.le_of_ble_eq_true rfl)⟩ (Nat.le_of_ble_eq_true rfl) (by decide) (p166_c hS) (fun vz M2 hz => ?_)
    obtain ⟨hz1, hz2⟩ := hz
    subst hz1
    have hz2 := hz2.symm
    subst hz2
    refine sm_w.run t193 sr193 27 1 (M2 := M) (f2 := (if (p166_0 M ((iV M 118 x2.toNatClampNeg).toInt64) (32 : Int64) (126 : Int64)) = 0 then 54 else 61, [some (.ref 116), some (.int (x1)), some (.int (x2))], [])) rfl ⟨trivial, trivial⟩ ?_
    refine sm_w.ite (fun hc => ?_) (fun hc => ?_)
    · have h := h.1 hc
      refine sm_w.run t193 sr193 28 2 (M2 := M) (f2 := (56, [some (.ref 116), some (.int (x1)), some (.int (x2))], [.int ((1 : Int32)), .ref 116])) rfl ⟨trivial, trivial, trivial⟩ ?_
      refine sm_w.cI t193 sr193 30 (i := 163) (as := [.ref 116, .int ((1 : Int32))]) (g := (56, [some (.ref 116), some (.int (x1)), some (.int (x2))], [])) rfl ⟨by decide, by decide, (Nat.le_of_ble_eq_true rfl), (sm_K.g (k_116 hS) (sm_sh.rf _)).1, (sm_K.g (k_116 hS) (sm_sh.rf _)).2, (Nat.le_of_ble_eq_true rfl)⟩ (Nat.le_of_ble_eq_true rfl) (by decide) (sm_cI.s2 (by decide) hS (g163_0 (K := fun v5 M4 => K v5.toInt64 M4) hS h)) (fun v5 M4 h => ?_)
      obtain ⟨hS6, h⟩ := h
      refine sm_w.run t193 sr193 31 1 (M2 := M4) (f2 := (60, [some (.ref 116), some (.int (x1)), some (.int (x2))], [.long (v5.toInt64)])) rfl ⟨trivial, trivial⟩ ?_
      exact sm_w.end t193 sr193 32 (o := .returned (some (.long (v5.toInt64)))) (M2 := M4) rfl trivial (by decide) (⟨_, rfl, h⟩)
    · have h := h.2 hc
      refine sm_w.run t193 sr193 33 2 (M2 := M) (f2 := (27, [some (.ref 116), some (.int (x1)), some (.int (x2 + (1 : Int32)))], [])) rfl ⟨(Nat.le_of_ble_eq_true rfl), trivial, trivial⟩ ?_
      exact h
theorem g193_2 {M : sm_M} {x1 : Int32} {x2 : Int32} {K : Int64 → sm_M → Prop} (hS : SH M)  (h : (((iV M 116 4) ≤ x2 → sm_cJ 194 [.ref 116, .ref 118, .ref 148, .int ((0 : Int32)), .int (iV M 116 4)] M (fun v2 M1 => SH M1 → K v2 M1)) ∧ (¬ (iV M 116 4) ≤ x2 → (vp_in x2 8192) ∧ ∀ M5, SH M5 → M5 = sm_wI M 148 x2.toNatClampNeg x1 → sm_w 193 (74, [some (.ref 116), some (.int (x1)), some (.int (x2 + (1 : Int32)))], []) M5 (rJ K)))) : sm_w 193 (74, [some (.ref 116), some (.int (x1)), some (.int (x2))], []) M (rJ K) := by
  refine sm_w.run t193 sr193 40 4 (M2 := M) (f2 := (if (iV M 116 4) ≤ x2 then 95 else 82, [some (.ref 116), some (.int (x1)), some (.int (x2))], [])) rfl ⟨trivial, trivial, sm_K.g (k_116 hS) (sm_sh.rf _), trivial, trivial⟩ ?_
  refine sm_w.ite (fun hc => ?_) (fun hc => ?_)
  · have h := h.1 hc
    refine sm_w.run t193 sr193 51 3 (M2 := M) (f2 := (100, [some (.ref 116), some (.int (x1)), some (.int (x2))], [va_rf (sm_rv M 116 2), .ref 116])) rfl ⟨trivial, trivial, sm_K.g (k_116 hS) (sm_sh.rf _), trivial⟩ ?_
    refine sm_w.fld (r_116_2 hS) ?_
    refine sm_w.run t193 sr193 54 2 (M2 := M) (f2 := (104, [some (.ref 116), some (.int (x1)), some (.int (x2))], [va_rf (sm_rv M 116 58), .ref 118, .ref 116])) rfl ⟨trivial, sm_K.g (k_116 hS) (sm_sh.rf _), trivial⟩ ?_
    refine sm_w.fld (r_116_58 hS) ?_
    refine sm_w.run t193 sr193 56 3 (M2 := M) (f2 := (109, [some (.ref 116), some (.int (x1)), some (.int (x2))], [.int (iV M 116 4), .int ((0 : Int32)), .ref 148, .ref 118, .ref 116])) rfl ⟨trivial, trivial, sm_K.g (k_116 hS) (sm_sh.rf _), trivial⟩ ?_
    refine sm_w.cJ t193 sr193 59 (i := 194) (as := [.ref 116, .ref 118, .ref 148, .int ((0 : Int32)), .int (iV M 116 4)]) (g := (109, [some (.ref 116), some (.int (x1)), some (.int (x2))], [])) rfl ⟨by decide, by decide, (Nat.le_of_ble_eq_true rfl), (sm_K.g (k_116 hS) (sm_sh.rf _)).1, (sm_K.g (k_116 hS) (sm_sh.rf _)).2, (Nat.le_of_ble_eq_true rfl)⟩ (Nat.le_of_ble_eq_true rfl) (by decide) (sm_cJ.s (by decide) hS h) (fun v2 M1 h => ?_)
    obtain ⟨hS3, h⟩ := h
    exact sm_w.end t193 sr193 60 (o := .returned (some (.long (v2)))) (M2 := M1) rfl trivial (by decide) (⟨_, rfl, h⟩)
  · have h := h.2 hc
    refine sm_w.run t193 sr193 44 2 (M2 := M) (f2 := (86, [some (.ref 116), some (.int (x1)), some (.int (x2))], [va_rf (sm_rv M 116 58)])) rfl ⟨trivial, sm_K.g (k_116 hS) (sm_sh.rf _), trivial⟩ ?_
    refine sm_w.fld (r_116_58 hS) ?_
    obtain ⟨c4, h⟩ := h
    refine sm_w.run t193 sr193 46 3 (M2 := sm_wI M 148 x2.toNatClampNeg x1) (f2 := (89, [some (.ref 116), some (.int (x1)), some (.int (x2))], [])) rfl ⟨trivial, trivial, sm_K.s2 (k_148 hS) (l_148 hS) c4, trivial⟩ ?_
    have hS6 : SH (sm_wI M 148 x2.toNatClampNeg x1) := SH.wI hS _ _ _
    have h := h _ hS6 rfl
    generalize sm_wI M 148 x2.toNatClampNeg x1 = M5 at h hS6 ⊢
    refine sm_w.run t193 sr193 49 2 (M2 := M5) (f2 := (74, [some (.ref 116), some (.int (x1)), some (.int (x2 + (1 : Int32)))], [])) rfl ⟨(Nat.le_of_ble_eq_true rfl), trivial, trivial⟩ ?_
    exact h
-- 200 LineSetterModel.isLetter(I)Z
theorem t200 : sP 200 = (1, sp_200, sh_200) := rfl
theorem sr200 : sm_srt sp_200 = true := by decide +kernel
theorem g200_0 {M : sm_M} {x0 : Int32} {K : Int32 → sm_M → Prop} (hS : SH M)  (h : (((p173_0 M x0) = 0 → ((x0 < (65 : Int32) → K (0 : Int32) M) ∧ (¬ x0 < (65 : Int32) → (((90 : Int32) < x0 → K (0 : Int32) M) ∧ (¬ (90 : Int32) < x0 → K (1 : Int32) M))))) ∧ (¬ (p173_0 M x0) = 0 → K (1 : Int32) M))) : sm_w 200 (sm_in sP 200 [.int (x0)]) M (rI K) := by
  show sm_w 200 (0, [some (.int (x0))], []) M (rI K)
  refine sm_w.run t200 sr200 0 1 (M2 := M) (f2 := (1, [some (.int (x0))], [.int (x0)])) rfl ⟨trivial, trivial⟩ ?_
  refine sm_w.cI t200 sr200 1 (i := 173) (as := [.int (x0)]) (g := (1, [some (.int (x0))], [])) rfl ⟨(Nat.le_of_ble_eq_true rfl), (Nat.le_of_ble_eq_true rfl)⟩ (Nat.le_of_ble_eq_true rfl) (by decide) (p173_c hS) (fun vz M2 hz => ?_)
  obtain ⟨hz1, hz2⟩ := hz
  subst hz1
  have hz2 := hz2.symm
  subst hz2
  refine sm_w.run t200 sr200 2 1 (M2 := M) (f2 := (if (p173_0 M x0) = 0 then 7 else 19, [some (.int (x0))], [])) rfl ⟨trivial, trivial⟩ ?_
  refine sm_w.ite (fun hc => ?_) (fun hc => ?_)
  · have h := h.1 hc
    refine sm_w.run t200 sr200 3 3 (M2 := M) (f2 := (if x0 < (65 : Int32) then 23 else 13, [some (.int (x0))], [])) rfl ⟨trivial, trivial, trivial, trivial⟩ ?_
    refine sm_w.ite (fun hc => ?_) (fun hc => ?_)
    · have h := h.1 hc
      refine sm_w.run t200 sr200 11 1 (M2 := M) (f2 := (24, [some (.int (x0))], [.int ((0 : Int32))])) rfl ⟨trivial, trivial⟩ ?_
      exact sm_w.end t200 sr200 12 (o := .returned (some (.int ((0 : Int32))))) (M2 := M) rfl rfl (by decide) (⟨_, rfl, h⟩)
    · have h := h.2 hc
      refine sm_w.run t200 sr200 6 3 (M2 := M) (f2 := (if (90 : Int32) < x0 then 23 else 19, [some (.int (x0))], [])) rfl ⟨trivial, trivial, trivial, trivial⟩ ?_
      refine sm_w.ite (fun hc => ?_) (fun hc => ?_)
      · have h := h.1 hc
        refine sm_w.run t200 sr200 11 1 (M2 := M) (f2 := (24, [some (.int (x0))], [.int ((0 : Int32))])) rfl ⟨trivial, trivial⟩ ?_
        exact sm_w.end t200 sr200 12 (o := .returned (some (.int ((0 : Int32))))) (M2 := M) rfl rfl (by decide) (⟨_, rfl, h⟩)
      · have h := h.2 hc
        refine sm_w.run t200 sr200 9 2 (M2 := M) (f2 := (24, [some (.int (x0))], [.int ((1 : Int32))])) rfl ⟨trivial, trivial, trivial⟩ ?_
        exact sm_w.end t200 sr200 12 (o := .returned (some (.int ((1 : Int32))))) (M2 := M) rfl rfl (by decide) (⟨_, rfl, h⟩)
  · have h := h.2 hc
    refine sm_w.run t200 sr200 9 2 (M2 := M) (f2 := (24, [some (.int (x0))], [.int ((1 : Int32))])) rfl ⟨trivial, trivial, trivial⟩ ?_
    exact sm_w.end t200 sr200 12 (o := .returned (some (.int ((1 : Int32))))) (M2 := M) rfl rfl (by decide) (⟨_, rfl, h⟩)
def p200_0 (M : sm_M) (x0 : Int32) : Int32 := if (p173_0 M x0) = 0 then (if x0 < (65 : Int32) then (0 : Int32) else (if (90 : Int32) < x0 then (0 : Int32) else (1 : Int32))) else (1 : Int32)
theorem p200_c {M : sm_M} {x0 : Int32} (hS : SH M)  : sm_cI 200 [.int (x0)] M (fun v M2 => v = p200_0 M x0 ∧ M2 = M) := by
  refine g200_0 (K := (fun v M2 => v = p200_0 M x0 ∧ M2 = M)) hS ?_
  refine ⟨fun e1 => ?_, fun e1 => ?_⟩
  · refine ⟨fun e2 => ?_, fun e2 => ?_⟩
    · refine ⟨?_, rfl⟩
      unfold p200_0
      rw [if_pos e1, if_pos e2]
    · refine ⟨fun e3 => ?_, fun e3 => ?_⟩
      · refine ⟨?_, rfl⟩
        unfold p200_0
        rw [if_pos e1, if_neg e2, if_pos e3]
      · refine ⟨?_, rfl⟩
        unfold p200_0
        rw [if_pos e1, if_neg e2, if_neg e3]
  · refine ⟨?_, rfl⟩
    unfold p200_0
    rw [if_neg e1]
-- 201 LineSetterModel.small(I)I
theorem t201 : sP 201 = (1, sp_201, sh_201) := rfl
theorem sr201 : sm_srt sp_201 = true := by decide +kernel
theorem g201_0 {M : sm_M} {x0 : Int32} {K : Int32 → sm_M → Prop} (hS : SH M)  (h : ((x0 < (65 : Int32) → K x0 M) ∧ (¬ x0 < (65 : Int32) → (((90 : Int32) < x0 → K x0 M) ∧ (¬ (90 : Int32) < x0 → K (x0 + (32 : Int32)) M))))) : sm_w 201 (sm_in sP 201 [.int (x0)]) M (rI K) := by
  show sm_w 201 (0, [some (.int (x0))], []) M (rI K)
  refine sm_w.run t201 sr201 0 3 (M2 := M) (f2 := (if x0 < (65 : Int32) then 19 else 6, [some (.int (x0))], [])) rfl ⟨trivial, trivial, trivial, trivial⟩ ?_
  refine sm_w.ite (fun hc => ?_) (fun hc => ?_)
  · have h := h.1 hc
    refine sm_w.run t201 sr201 10 1 (M2 := M) (f2 := (20, [some (.int (x0))], [.int (x0)])) rfl ⟨trivial, trivial⟩ ?_
    exact sm_w.end t201 sr201 11 (o := .returned (some (.int (x0)))) (M2 := M) rfl rfl (by decide) (⟨_, rfl, h⟩)
  · have h := h.2 hc
    refine sm_w.run t201 sr201 3 3 (M2 := M) (f2 := (if (90 : Int32) < x0 then 19 else 12, [some (.int (x0))], [])) rfl ⟨trivial, trivial, trivial, trivial⟩ ?_
    refine sm_w.ite (fun hc => ?_) (fun hc => ?_)
    · have h := h.1 hc
      refine sm_w.run t201 sr201 10 1 (M2 := M) (f2 := (20, [some (.int (x0))], [.int (x0)])) rfl ⟨trivial, trivial⟩ ?_
      exact sm_w.end t201 sr201 11 (o := .returned (some (.int (x0)))) (M2 := M) rfl rfl (by decide) (⟨_, rfl, h⟩)
    · have h := h.2 hc
      refine sm_w.run t201 sr201 6 4 (M2 := M) (f2 := (20, [some (.int (x0))], [.int (x0 + (32 : Int32))])) rfl ⟨trivial, trivial, trivial, trivial, trivial⟩ ?_
      exact sm_w.end t201 sr201 11 (o := .returned (some (.int (x0 + (32 : Int32))))) (M2 := M) rfl rfl (by decide) (⟨_, rfl, h⟩)
def p201_0 (M : sm_M) (x0 : Int32) : Int32 := if x0 < (65 : Int32) then x0 else (if (90 : Int32) < x0 then x0 else (x0 + (32 : Int32)))
theorem p201_c {M : sm_M} {x0 : Int32} (hS : SH M)  : sm_cI 201 [.int (x0)] M (fun v M2 => v = p201_0 M x0 ∧ M2 = M) := by
  refine g201_0 (K := (fun v M2 => v = p201_0 M x0 ∧ M2 = M)) hS ?_
  refine ⟨fun e1 => ?_, fun e1 => ?_⟩
  · refine ⟨?_, rfl⟩
    unfold p201_0
    rw [if_pos e1]
  · refine ⟨fun e2 => ?_, fun e2 => ?_⟩
    · refine ⟨?_, rfl⟩
      unfold p201_0
      rw [if_neg e1, if_pos e2]
    · refine ⟨?_, rfl⟩
      unfold p201_0
      rw [if_neg e1, if_neg e2]
