/-! METHODS by their segments. -/
-- 210 LineSetterModel.costOf(III)J
theorem t210 : sP 210 = (7, sp_210, sh_210) := rfl
theorem sr210 : sm_srt sp_210 = true := by decide +kernel
theorem g210_0 {M : sm_M} {x1 : Int32} {x2 : Int32} {x3 : Int32} {K : Int64 → sm_M → Prop} (hS : SH M)  (h : (vp_in x2 602) ∧ (((iV M 150 x2.toNatClampNeg) = (1 : Int32) → sm_w 210 (39, [some (.ref 116), some (.int (x1)), some (.int (x2)), some (.int (x3)), some (.long ((((10 : Int64) + ((iV M 116 84).toInt64)) * ((10 : Int64) + ((iV M 116 84).toInt64))) + (2500 : Int64))), none, none], []) M (rJ K)) ∧ (¬ (iV M 150 x2.toNatClampNeg) = (1 : Int32) → sm_w 210 (39, [some (.ref 116), some (.int (x1)), some (.int (x2)), some (.int (x3)), some (.long (((10 : Int64) + ((iV M 116 84).toInt64)) * ((10 : Int64) + ((iV M 116 84).toInt64)))), none, none], []) M (rJ K)))) : sm_w 210 (sm_in sP 210 [.ref 116, .int (x1), .int (x2), .int (x3)]) M (rJ K) := by
  show sm_w 210 (0, [some (.ref 116), some (.int (x1)), some (.int (x2)), some (.int (x3)), none, none, none], []) M (rJ K)
  refine sm_w.run t210 sr210 0 14 (M2 := M) (f2 := (25, [some (.ref 116), some (.int (x1)), some (.int (x2)), some (.int (x3)), some (.long (((10 : Int64) + ((iV M 116 84).toInt64)) * ((10 : Int64) + ((iV M 116 84).toInt64)))), none, none], [va_rf (sm_rv M 116 70)])) rfl ⟨trivial, trivial, sm_K.g (k_116 hS) (sm_sh.rf _), trivial, trivial, trivial, trivial, sm_K.g (k_116 hS) (sm_sh.rf _), trivial, trivial, trivial, (Nat.le_of_ble_eq_true rfl), trivial, sm_K.g (k_116 hS) (sm_sh.rf _), trivial⟩ ?_
  refine sm_w.fld (r_116_70 hS) ?_
  obtain ⟨c1, h⟩ := h
  refine sm_w.run t210 sr210 14 4 (M2 := M) (f2 := (if (iV M 150 x2.toNatClampNeg) = (1 : Int32) then 31 else 39, [some (.ref 116), some (.int (x1)), some (.int (x2)), some (.int (x3)), some (.long (((10 : Int64) + ((iV M 116 84).toInt64)) * ((10 : Int64) + ((iV M 116 84).toInt64)))), none, none], [])) rfl ⟨trivial, sm_K.a2 (k_150 hS) (l_150 hS) c1, trivial, trivial, trivial⟩ ?_
  refine sm_w.ite (fun hc => ?_) (fun hc => ?_)
  · have h := h.1 hc
    refine sm_w.run t210 sr210 18 4 (M2 := M) (f2 := (39, [some (.ref 116), some (.int (x1)), some (.int (x2)), some (.int (x3)), some (.long ((((10 : Int64) + ((iV M 116 84).toInt64)) * ((10 : Int64) + ((iV M 116 84).toInt64))) + (2500 : Int64))), none, none], [])) rfl ⟨trivial, trivial, trivial, (Nat.le_of_ble_eq_true rfl), trivial⟩ ?_
    exact h
  · have h := h.2 hc
    exact h
theorem g210_1 {M : sm_M} {x1 : Int32} {x2 : Int32} {x3 : Int32} {x4 : Int64} {K : Int64 → sm_M → Prop} (hS : SH M)  (h : (vp_in x2 602) ∧ (((iV M 150 x2.toNatClampNeg) = (2 : Int32) → sm_w 210 (57, [some (.ref 116), some (.int (x1)), some (.int (x2)), some (.int (x3)), some (.long (x4 + (900 : Int64))), none, none], []) M (rJ K)) ∧ (¬ (iV M 150 x2.toNatClampNeg) = (2 : Int32) → sm_w 210 (57, [some (.ref 116), some (.int (x1)), some (.int (x2)), some (.int (x3)), some (.long (x4)), none, none], []) M (rJ K)))) : sm_w 210 (39, [some (.ref 116), some (.int (x1)), some (.int (x2)), some (.int (x3)), some (.long (x4)), none, none], []) M (rJ K) := by
  refine sm_w.run t210 sr210 22 2 (M2 := M) (f2 := (43, [some (.ref 116), some (.int (x1)), some (.int (x2)), some (.int (x3)), some (.long (x4)), none, none], [va_rf (sm_rv M 116 70)])) rfl ⟨trivial, sm_K.g (k_116 hS) (sm_sh.rf _), trivial⟩ ?_
  refine sm_w.fld (r_116_70 hS) ?_
  obtain ⟨c1, h⟩ := h
  refine sm_w.run t210 sr210 24 4 (M2 := M) (f2 := (if (iV M 150 x2.toNatClampNeg) = (2 : Int32) then 49 else 57, [some (.ref 116), some (.int (x1)), some (.int (x2)), some (.int (x3)), some (.long (x4)), none, none], [])) rfl ⟨trivial, sm_K.a2 (k_150 hS) (l_150 hS) c1, trivial, trivial, trivial⟩ ?_
  refine sm_w.ite (fun hc => ?_) (fun hc => ?_)
  · have h := h.1 hc
    refine sm_w.run t210 sr210 28 4 (M2 := M) (f2 := (57, [some (.ref 116), some (.int (x1)), some (.int (x2)), some (.int (x3)), some (.long (x4 + (900 : Int64))), none, none], [])) rfl ⟨trivial, trivial, trivial, (Nat.le_of_ble_eq_true rfl), trivial⟩ ?_
    exact h
  · have h := h.2 hc
    exact h
theorem g210_2 {M : sm_M} {x1 : Int32} {x2 : Int32} {x3 : Int32} {x4 : Int64} {K : Int64 → sm_M → Prop} (hS : SH M)  (h : (q211_0 M x1) ∧ (((p211_0 M x1) = 0 → sm_w 210 (81, [some (.ref 116), some (.int (x1)), some (.int (x2)), some (.int (x3)), some (.long (x4)), none, none], []) M (rJ K)) ∧ (¬ (p211_0 M x1) = 0 → (q211_0 M x2) ∧ (((p211_0 M x2) = 0 → sm_w 210 (81, [some (.ref 116), some (.int (x1)), some (.int (x2)), some (.int (x3)), some (.long (x4)), none, none], []) M (rJ K)) ∧ (¬ (p211_0 M x2) = 0 → sm_w 210 (81, [some (.ref 116), some (.int (x1)), some (.int (x2)), some (.int (x3)), some (.long (x4 + (3000 : Int64))), none, none], []) M (rJ K)))))) : sm_w 210 (57, [some (.ref 116), some (.int (x1)), some (.int (x2)), some (.int (x3)), some (.long (x4)), none, none], []) M (rJ K) := by
  obtain ⟨c1, h⟩ := h
  refine sm_w.run t210 sr210 32 2 (M2 := M) (f2 := (59, [some (.ref 116), some (.int (x1)), some (.int (x2)), some (.int (x3)), some (.long (x4)), none, none], [.int (x1), .ref 116])) rfl ⟨trivial, trivial, trivial⟩ ?_
  refine sm_w.cI t210 sr210 34 (i := 211) (as := [.ref 116, .int (x1)]) (g := (59, [some (.ref 116), some (.int (x1)), some (.int (x2)), some (.int (x3)), some (.long (x4)), none, none], [])) rfl ⟨by decide, by decide, (Nat.le_of_ble_eq_true rfl), (sm_K.g (k_116 hS) (sm_sh.rf _)).1, (sm_K.g (k_116 hS) (sm_sh.rf _)).2, (Nat.le_of_ble_eq_true rfl)⟩ (Nat.le_of_ble_eq_true rfl) (by decide) (p211_c hS c1) (fun vz M2 hz => ?_)
  obtain ⟨hz1, hz2⟩ := hz
  subst hz1
  have hz2 := hz2.symm
  subst hz2
  refine sm_w.run t210 sr210 35 1 (M2 := M) (f2 := (if (p211_0 M x1) = 0 then 81 else 65, [some (.ref 116), some (.int (x1)), some (.int (x2)), some (.int (x3)), some (.long (x4)), none, none], [])) rfl ⟨trivial, trivial⟩ ?_
  refine sm_w.ite (fun hc => ?_) (fun hc => ?_)
  · have h := h.1 hc
    exact h
  · have h := h.2 hc
    obtain ⟨c2, h⟩ := h
    refine sm_w.run t210 sr210 36 2 (M2 := M) (f2 := (67, [some (.ref 116), some (.int (x1)), some (.int (x2)), some (.int (x3)), some (.long (x4)), none, none], [.int (x2), .ref 116])) rfl ⟨trivial, trivial, trivial⟩ ?_
    refine sm_w.cI t210 sr210 38 (i := 211) (as := [.ref 116, .int (x2)]) (g := (67, [some (.ref 116), some (.int (x1)), some (.int (x2)), some (.int (x3)), some (.long (x4)), none, none], [])) rfl ⟨by decide, by decide, (Nat.le_of_ble_eq_true rfl), (sm_K.g (k_116 hS) (sm_sh.rf _)).1, (sm_K.g (k_116 hS) (sm_sh.rf _)).2, (Nat.le_of_ble_eq_true rfl)⟩ (Nat.le_of_ble_eq_true rfl) (by decide) (p211_c hS c2) (fun vz M2 hz => ?_)
    obtain ⟨hz1, hz2⟩ := hz
    subst hz1
    have hz2 := hz2.symm
    subst hz2
    refine sm_w.run t210 sr210 39 1 (M2 := M) (f2 := (if (p211_0 M x2) = 0 then 81 else 73, [some (.ref 116), some (.int (x1)), some (.int (x2)), some (.int (x3)), some (.long (x4)), none, none], [])) rfl ⟨trivial, trivial⟩ ?_
    refine sm_w.ite (fun hc => ?_) (fun hc => ?_)
    · have h := h.1 hc
      exact h
    · have h := h.2 hc
      refine sm_w.run t210 sr210 40 4 (M2 := M) (f2 := (81, [some (.ref 116), some (.int (x1)), some (.int (x2)), some (.int (x3)), some (.long (x4 + (3000 : Int64))), none, none], [])) rfl ⟨trivial, trivial, trivial, (Nat.le_of_ble_eq_true rfl), trivial⟩ ?_
      exact h
theorem g210_3 {M : sm_M} {x1 : Int32} {x2 : Int32} {x3 : Int32} {x4 : Int64} {K : Int64 → sm_M → Prop} (hS : SH M)  (h : (((1 : Int32) < ((p209_0 M) - x3) → sm_w 210 (101, [some (.ref 116), some (.int (x1)), some (.int (x2)), none, some (.long (x4)), none, none], []) M (rJ K)) ∧ (¬ (1 : Int32) < ((p209_0 M) - x3) → (((-1 : Int32) ≤ ((p209_0 M) - x3) → (vp_in x2 602) ∧ (((iV M 150 x2.toNatClampNeg) = (3 : Int32) → (q211_0 M x1) ∧ (((p211_0 M x1) = 0 → (((iV M 116 85) = 0 → K x4 M) ∧ (¬ (iV M 116 85) = 0 → K (x4 + ((((1000000000 : Int64) + (jV M 116 78)) - (jV M 116 81)) - (jV M 116 79))) M))) ∧ (¬ (p211_0 M x1) = 0 → (((iV M 116 85) = 0 → K (x4 + (5000 : Int64)) M) ∧ (¬ (iV M 116 85) = 0 → K ((x4 + (5000 : Int64)) + ((((1000000000 : Int64) + (jV M 116 78)) - (jV M 116 81)) - (jV M 116 79))) M))))) ∧ (¬ (iV M 150 x2.toNatClampNeg) = (3 : Int32) → (((iV M 116 85) = 0 → K x4 M) ∧ (¬ (iV M 116 85) = 0 → K (x4 + ((((1000000000 : Int64) + (jV M 116 78)) - (jV M 116 81)) - (jV M 116 79))) M))))) ∧ (¬ (-1 : Int32) ≤ ((p209_0 M) - x3) → sm_w 210 (101, [some (.ref 116), some (.int (x1)), some (.int (x2)), none, some (.long (x4)), none, none], []) M (rJ K)))))) : sm_w 210 (81, [some (.ref 116), some (.int (x1)), some (.int (x2)), some (.int (x3)), some (.long (x4)), none, none], []) M (rJ K) := by
  refine sm_w.run t210 sr210 44 1 (M2 := M) (f2 := (82, [some (.ref 116), some (.int (x1)), some (.int (x2)), some (.int (x3)), some (.long (x4)), none, none], [.ref 116])) rfl ⟨trivial, trivial⟩ ?_
  refine sm_w.cI t210 sr210 45 (i := 209) (as := [.ref 116]) (g := (82, [some (.ref 116), some (.int (x1)), some (.int (x2)), some (.int (x3)), some (.long (x4)), none, none], [])) rfl ⟨by decide, by decide, (Nat.le_of_ble_eq_true rfl), (sm_K.g (k_116 hS) (sm_sh.rf _)).1, (sm_K.g (k_116 hS) (sm_sh.rf _)).2, (Nat.le_of_ble_eq_true rfl)⟩ (Nat.le_of_ble_eq_true rfl) (by decide) (p209_c hS) (fun vz M2 hz => ?_)
  obtain ⟨hz1, hz2⟩ := hz
  subst hz1
  have hz2 := hz2.symm
  subst hz2
  refine sm_w.run t210 sr210 46 6 (M2 := M) (f2 := (if (1 : Int32) < ((p209_0 M) - x3) then 101 else 95, [some (.ref 116), some (.int (x1)), some (.int (x2)), some (.int (x3)), some (.long (x4)), none, some (.int ((p209_0 M) - x3))], [])) rfl ⟨trivial, trivial, (Nat.le_of_ble_eq_true rfl), trivial, trivial, trivial, trivial⟩ ?_
  refine sm_w.ite (fun hc => ?_) (fun hc => ?_)
  · have h := h.1 hc
    refine sm_w.weak (ls := [some (.ref 116), some (.int (x1)), some (.int (x2)), none, some (.long (x4)), none, none]) (sm_leI [true, true, true, false, true, false, false] rfl) ?_
    exact h
  · have h := h.2 hc
    refine sm_w.run t210 sr210 52 3 (M2 := M) (f2 := (if (-1 : Int32) ≤ ((p209_0 M) - x3) then 109 else 101, [some (.ref 116), some (.int (x1)), some (.int (x2)), some (.int (x3)), some (.long (x4)), none, some (.int ((p209_0 M) - x3))], [])) rfl ⟨trivial, trivial, trivial, trivial⟩ ?_
    refine sm_w.ite (fun hc => ?_) (fun hc => ?_)
    · have h := h.1 hc
      refine sm_w.run t210 sr210 59 2 (M2 := M) (f2 := (113, [some (.ref 116), some (.int (x1)), some (.int (x2)), some (.int (x3)), some (.long (x4)), none, some (.int ((p209_0 M) - x3))], [va_rf (sm_rv M 116 70)])) rfl ⟨trivial, sm_K.g (k_116 hS) (sm_sh.rf _), trivial⟩ ?_
      refine sm_w.fld (r_116_70 hS) ?_
      obtain ⟨c1, h⟩ := h
      refine sm_w.run t210 sr210 61 4 (M2 := M) (f2 := (if (iV M 150 x2.toNatClampNeg) = (3 : Int32) then 119 else 135, [some (.ref 116), some (.int (x1)), some (.int (x2)), some (.int (x3)), some (.long (x4)), none, some (.int ((p209_0 M) - x3))], [])) rfl ⟨trivial, sm_K.a2 (k_150 hS) (l_150 hS) c1, trivial, trivial, trivial⟩ ?_
      refine sm_w.ite (fun hc => ?_) (fun hc => ?_)
      · have h := h.1 hc
        obtain ⟨c2, h⟩ := h
        refine sm_w.run t210 sr210 65 2 (M2 := M) (f2 := (121, [some (.ref 116), some (.int (x1)), some (.int (x2)), some (.int (x3)), some (.long (x4)), none, some (.int ((p209_0 M) - x3))], [.int (x1), .ref 116])) rfl ⟨trivial, trivial, trivial⟩ ?_
        refine sm_w.cI t210 sr210 67 (i := 211) (as := [.ref 116, .int (x1)]) (g := (121, [some (.ref 116), some (.int (x1)), some (.int (x2)), some (.int (x3)), some (.long (x4)), none, some (.int ((p209_0 M) - x3))], [])) rfl ⟨by decide, by decide, (Nat.le_of_ble_eq_true rfl), (sm_K.g (k_116 hS) (sm_sh.rf _)).1, (sm_K.g (k_116 hS) (sm_sh.rf _)).2, (Nat.le_of_ble_eq_true rfl)⟩ (Nat.le_of_ble_eq_true rfl) (by decide) (p211_c hS c2) (fun vz M2 hz => ?_)
        obtain ⟨hz1, hz2⟩ := hz
        subst hz1
        have hz2 := hz2.symm
        subst hz2
        refine sm_w.run t210 sr210 68 1 (M2 := M) (f2 := (if (p211_0 M x1) = 0 then 135 else 127, [some (.ref 116), some (.int (x1)), some (.int (x2)), some (.int (x3)), some (.long (x4)), none, some (.int ((p209_0 M) - x3))], [])) rfl ⟨trivial, trivial⟩ ?_
        refine sm_w.ite (fun hc => ?_) (fun hc => ?_)
        · have h := h.1 hc
          refine sm_w.run t210 sr210 73 3 (M2 := M) (f2 := (if (iV M 116 85) = 0 then 165 else 142, [some (.ref 116), some (.int (x1)), some (.int (x2)), some (.int (x3)), some (.long (x4)), none, some (.int ((p209_0 M) - x3))], [])) rfl ⟨trivial, sm_K.g (k_116 hS) (sm_sh.rf _), trivial, trivial⟩ ?_
          refine sm_w.ite (fun hc => ?_) (fun hc => ?_)
          · have h := h.1 hc
            refine sm_w.run t210 sr210 89 1 (M2 := M) (f2 := (167, [some (.ref 116), some (.int (x1)), some (.int (x2)), some (.int (x3)), some (.long (x4)), none, some (.int ((p209_0 M) - x3))], [.long (x4)])) rfl ⟨trivial, trivial⟩ ?_
            exact sm_w.end t210 sr210 90 (o := .returned (some (.long (x4)))) (M2 := M) rfl trivial (by decide) (⟨_, rfl, h⟩)
          · have h := h.2 hc
            refine sm_w.run t210 sr210 76 14 (M2 := M) (f2 := (167, [some (.ref 116), some (.int (x1)), some (.int (x2)), some (.int (x3)), some (.long (x4 + ((((1000000000 : Int64) + (jV M 116 78)) - (jV M 116 81)) - (jV M 116 79)))), none, some (.int ((p209_0 M) - x3))], [.long (x4 + ((((1000000000 : Int64) + (jV M 116 78)) - (jV M 116 81)) - (jV M 116 79)))])) rfl ⟨trivial, trivial, trivial, sm_K.g (k_116 hS) (sm_sh.rf _), trivial, trivial, sm_K.g (k_116 hS) (sm_sh.rf _), trivial, trivial, sm_K.g (k_116 hS) (sm_sh.rf _), trivial, trivial, (Nat.le_of_ble_eq_true rfl), trivial, trivial⟩ ?_
            exact sm_w.end t210 sr210 90 (o := .returned (some (.long (x4 + ((((1000000000 : Int64) + (jV M 116 78)) - (jV M 116 81)) - (jV M 116 79)))))) (M2 := M) rfl trivial (by decide) (⟨_, rfl, h⟩)
        · have h := h.2 hc
          refine sm_w.run t210 sr210 69 7 (M2 := M) (f2 := (if (iV M 116 85) = 0 then 165 else 142, [some (.ref 116), some (.int (x1)), some (.int (x2)), some (.int (x3)), some (.long (x4 + (5000 : Int64))), none, some (.int ((p209_0 M) - x3))], [])) rfl ⟨trivial, trivial, trivial, (Nat.le_of_ble_eq_true rfl), trivial, sm_K.g (k_116 hS) (sm_sh.rf _), trivial, trivial⟩ ?_
          refine sm_w.ite (fun hc => ?_) (fun hc => ?_)
          · have h := h.1 hc
            refine sm_w.run t210 sr210 89 1 (M2 := M) (f2 := (167, [some (.ref 116), some (.int (x1)), some (.int (x2)), some (.int (x3)), some (.long (x4 + (5000 : Int64))), none, some (.int ((p209_0 M) - x3))], [.long (x4 + (5000 : Int64))])) rfl ⟨trivial, trivial⟩ ?_
            exact sm_w.end t210 sr210 90 (o := .returned (some (.long (x4 + (5000 : Int64))))) (M2 := M) rfl trivial (by decide) (⟨_, rfl, h⟩)
          · have h := h.2 hc
            refine sm_w.run t210 sr210 76 14 (M2 := M) (f2 := (167, [some (.ref 116), some (.int (x1)), some (.int (x2)), some (.int (x3)), some (.long ((x4 + (5000 : Int64)) + ((((1000000000 : Int64) + (jV M 116 78)) - (jV M 116 81)) - (jV M 116 79)))), none, some (.int ((p209_0 M) - x3))], [.long ((x4 + (5000 : Int64)) + ((((1000000000 : Int64) + (jV M 116 78)) - (jV M 116 81)) - (jV M 116 79)))])) rfl ⟨trivial, trivial, trivial, sm_K.g (k_116 hS) (sm_sh.rf _), trivial, trivial, sm_K.g (k_116 hS) (sm_sh.rf _), trivial, trivial, sm_K.g (k_116 hS) (sm_sh.rf _), trivial, trivial, (Nat.le_of_ble_eq_true rfl), trivial, trivial⟩ ?_
            exact sm_w.end t210 sr210 90 (o := .returned (some (.long ((x4 + (5000 : Int64)) + ((((1000000000 : Int64) + (jV M 116 78)) - (jV M 116 81)) - (jV M 116 79)))))) (M2 := M) rfl trivial (by decide) (⟨_, rfl, h⟩)
      · have h := h.2 hc
        refine sm_w.run t210 sr210 73 3 (M2 := M) (f2 := (if (iV M 116 85) = 0 then 165 else 142, [some (.ref 116), some (.int (x1)), some (.int (x2)), some (.int (x3)), some (.long (x4)), none, some (.int ((p209_0 M) - x3))], [])) rfl ⟨trivial, sm_K.g (k_116 hS) (sm_sh.rf _), trivial, trivial⟩ ?_
        refine sm_w.ite (fun hc => ?_) (fun hc => ?_)
        · have h := h.1 hc
          refine sm_w.run t210 sr210 89 1 (M2 := M) (f2 := (167, [some (.ref 116), some (.int (x1)), some (.int (x2)), some (.int (x3)), some (.long (x4)), none, some (.int ((p209_0 M) - x3))], [.long (x4)])) rfl ⟨trivial, trivial⟩ ?_
          exact sm_w.end t210 sr210 90 (o := .returned (some (.long (x4)))) (M2 := M) rfl trivial (by decide) (⟨_, rfl, h⟩)
        · have h := h.2 hc
          refine sm_w.run t210 sr210 76 14 (M2 := M) (f2 := (167, [some (.ref 116), some (.int (x1)), some (.int (x2)), some (.int (x3)), some (.long (x4 + ((((1000000000 : Int64) + (jV M 116 78)) - (jV M 116 81)) - (jV M 116 79)))), none, some (.int ((p209_0 M) - x3))], [.long (x4 + ((((1000000000 : Int64) + (jV M 116 78)) - (jV M 116 81)) - (jV M 116 79)))])) rfl ⟨trivial, trivial, trivial, sm_K.g (k_116 hS) (sm_sh.rf _), trivial, trivial, sm_K.g (k_116 hS) (sm_sh.rf _), trivial, trivial, sm_K.g (k_116 hS) (sm_sh.rf _), trivial, trivial, (Nat.le_of_ble_eq_true rfl), trivial, trivial⟩ ?_
          exact sm_w.end t210 sr210 90 (o := .returned (some (.long (x4 + ((((1000000000 : Int64) + (jV M 116 78)) - (jV M 116 81)) - (jV M 116 79)))))) (M2 := M) rfl trivial (by decide) (⟨_, rfl, h⟩)
    · have h := h.2 hc
      refine sm_w.weak (ls := [some (.ref 116), some (.int (x1)), some (.int (x2)), none, some (.long (x4)), none, none]) (sm_leI [true, true, true, false, true, false, false] rfl) ?_
      exact h
theorem g210_4 {M : sm_M} {x1 : Int32} {x2 : Int32} {x4 : Int64} {K : Int64 → sm_M → Prop} (hS : SH M)  (h : (vp_in x2 602) ∧ (((iV M 150 x2.toNatClampNeg) = (3 : Int32) → (q211_0 M x1) ∧ (((p211_0 M x1) = 0 → (((iV M 116 85) = 0 → K (x4 + (10000 : Int64)) M) ∧ (¬ (iV M 116 85) = 0 → K ((x4 + (10000 : Int64)) + ((((1000000000 : Int64) + (jV M 116 78)) - (jV M 116 81)) - (jV M 116 79))) M))) ∧ (¬ (p211_0 M x1) = 0 → (((iV M 116 85) = 0 → K ((x4 + (10000 : Int64)) + (5000 : Int64)) M) ∧ (¬ (iV M 116 85) = 0 → K (((x4 + (10000 : Int64)) + (5000 : Int64)) + ((((1000000000 : Int64) + (jV M 116 78)) - (jV M 116 81)) - (jV M 116 79))) M))))) ∧ (¬ (iV M 150 x2.toNatClampNeg) = (3 : Int32) → (((iV M 116 85) = 0 → K (x4 + (10000 : Int64)) M) ∧ (¬ (iV M 116 85) = 0 → K ((x4 + (10000 : Int64)) + ((((1000000000 : Int64) + (jV M 116 78)) - (jV M 116 81)) - (jV M 116 79))) M))))) : sm_w 210 (101, [some (.ref 116), some (.int (x1)), some (.int (x2)), none, some (.long (x4)), none, none], []) M (rJ K) := by
  refine sm_w.run t210 sr210 55 6 (M2 := M) (f2 := (113, [some (.ref 116), some (.int (x1)), some (.int (x2)), none, some (.long (x4 + (10000 : Int64))), none, none], [va_rf (sm_rv M 116 70)])) rfl ⟨trivial, trivial, trivial, (Nat.le_of_ble_eq_true rfl), trivial, sm_K.g (k_116 hS) (sm_sh.rf _), trivial⟩ ?_
  refine sm_w.fld (r_116_70 hS) ?_
  obtain ⟨c1, h⟩ := h
  refine sm_w.run t210 sr210 61 4 (M2 := M) (f2 := (if (iV M 150 x2.toNatClampNeg) = (3 : Int32) then 119 else 135, [some (.ref 116), some (.int (x1)), some (.int (x2)), none, some (.long (x4 + (10000 : Int64))), none, none], [])) rfl ⟨trivial, sm_K.a2 (k_150 hS) (l_150 hS) c1, trivial, trivial, trivial⟩ ?_
  refine sm_w.ite (fun hc => ?_) (fun hc => ?_)
  · have h := h.1 hc
    obtain ⟨c2, h⟩ := h
    refine sm_w.run t210 sr210 65 2 (M2 := M) (f2 := (121, [some (.ref 116), some (.int (x1)), some (.int (x2)), none, some (.long (x4 + (10000 : Int64))), none, none], [.int (x1), .ref 116])) rfl ⟨trivial, trivial, trivial⟩ ?_
    refine sm_w.cI t210 sr210 67 (i := 211) (as := [.ref 116, .int (x1)]) (g := (121, [some (.ref 116), some (.int (x1)), some (.int (x2)), none, some (.long (x4 + (10000 : Int64))), none, none], [])) rfl ⟨by decide, by decide, (Nat.le_of_ble_eq_true rfl), (sm_K.g (k_116 hS) (sm_sh.rf _)).1, (sm_K.g (k_116 hS) (sm_sh.rf _)).2, (Nat.le_of_ble_eq_true rfl)⟩ (Nat.le_of_ble_eq_true rfl) (by decide) (p211_c hS c2) (fun vz M2 hz => ?_)
    obtain ⟨hz1, hz2⟩ := hz
    subst hz1
    have hz2 := hz2.symm
    subst hz2
    refine sm_w.run t210 sr210 68 1 (M2 := M) (f2 := (if (p211_0 M x1) = 0 then 135 else 127, [some (.ref 116), some (.int (x1)), some (.int (x2)), none, some (.long (x4 + (10000 : Int64))), none, none], [])) rfl ⟨trivial, trivial⟩ ?_
    refine sm_w.ite (fun hc => ?_) (fun hc => ?_)
    · have h := h.1 hc
      refine sm_w.run t210 sr210 73 3 (M2 := M) (f2 := (if (iV M 116 85) = 0 then 165 else 142, [some (.ref 116), some (.int (x1)), some (.int (x2)), none, some (.long (x4 + (10000 : Int64))), none, none], [])) rfl ⟨trivial, sm_K.g (k_116 hS) (sm_sh.rf _), trivial, trivial⟩ ?_
      refine sm_w.ite (fun hc => ?_) (fun hc => ?_)
      · have h := h.1 hc
        refine sm_w.run t210 sr210 89 1 (M2 := M) (f2 := (167, [some (.ref 116), some (.int (x1)), some (.int (x2)), none, some (.long (x4 + (10000 : Int64))), none, none], [.long (x4 + (10000 : Int64))])) rfl ⟨trivial, trivial⟩ ?_
        exact sm_w.end t210 sr210 90 (o := .returned (some (.long (x4 + (10000 : Int64))))) (M2 := M) rfl trivial (by decide) (⟨_, rfl, h⟩)
      · have h := h.2 hc
        refine sm_w.run t210 sr210 76 14 (M2 := M) (f2 := (167, [some (.ref 116), some (.int (x1)), some (.int (x2)), none, some (.long ((x4 + (10000 : Int64)) + ((((1000000000 : Int64) + (jV M 116 78)) - (jV M 116 81)) - (jV M 116 79)))), none, none], [.long ((x4 + (10000 : Int64)) + ((((1000000000 : Int64) + (jV M 116 78)) - (jV M 116 81)) - (jV M 116 79)))])) rfl ⟨trivial, trivial, trivial, sm_K.g (k_116 hS) (sm_sh.rf _), trivial, trivial, sm_K.g (k_116 hS) (sm_sh.rf _), trivial, trivial, sm_K.g (k_116 hS) (sm_sh.rf _), trivial, trivial, (Nat.le_of_ble_eq_true rfl), trivial, trivial⟩ ?_
        exact sm_w.end t210 sr210 90 (o := .returned (some (.long ((x4 + (10000 : Int64)) + ((((1000000000 : Int64) + (jV M 116 78)) - (jV M 116 81)) - (jV M 116 79)))))) (M2 := M) rfl trivial (by decide) (⟨_, rfl, h⟩)
    · have h := h.2 hc
      refine sm_w.run t210 sr210 69 7 (M2 := M) (f2 := (if (iV M 116 85) = 0 then 165 else 142, [some (.ref 116), some (.int (x1)), some (.int (x2)), none, some (.long ((x4 + (10000 : Int64)) + (5000 : Int64))), none, none], [])) rfl ⟨trivial, trivial, trivial, (Nat.le_of_ble_eq_true rfl), trivial, sm_K.g (k_116 hS) (sm_sh.rf _), trivial, trivial⟩ ?_
      refine sm_w.ite (fun hc => ?_) (fun hc => ?_)
      · have h := h.1 hc
        refine sm_w.run t210 sr210 89 1 (M2 := M) (f2 := (167, [some (.ref 116), some (.int (x1)), some (.int (x2)), none, some (.long ((x4 + (10000 : Int64)) + (5000 : Int64))), none, none], [.long ((x4 + (10000 : Int64)) + (5000 : Int64))])) rfl ⟨trivial, trivial⟩ ?_
        exact sm_w.end t210 sr210 90 (o := .returned (some (.long ((x4 + (10000 : Int64)) + (5000 : Int64))))) (M2 := M) rfl trivial (by decide) (⟨_, rfl, h⟩)
      · have h := h.2 hc
        refine sm_w.run t210 sr210 76 14 (M2 := M) (f2 := (167, [some (.ref 116), some (.int (x1)), some (.int (x2)), none, some (.long (((x4 + (10000 : Int64)) + (5000 : Int64)) + ((((1000000000 : Int64) + (jV M 116 78)) - (jV M 116 81)) - (jV M 116 79)))), none, none], [.long (((x4 + (10000 : Int64)) + (5000 : Int64)) + ((((1000000000 : Int64) + (jV M 116 78)) - (jV M 116 81)) - (jV M 116 79)))])) rfl ⟨trivial, trivial, trivial, sm_K.g (k_116 hS) (sm_sh.rf _), trivial, trivial, sm_K.g (k_116 hS) (sm_sh.rf _), trivial, trivial, sm_K.g (k_116 hS) (sm_sh.rf _), trivial, trivial, (Nat.le_of_ble_eq_true rfl), trivial, trivial⟩ ?_
        exact sm_w.end t210 sr210 90 (o := .returned (some (.long (((x4 + (10000 : Int64)) + (5000 : Int64)) + ((((1000000000 : Int64) + (jV M 116 78)) - (jV M 116 81)) - (jV M 116 79)))))) (M2 := M) rfl trivial (by decide) (⟨_, rfl, h⟩)
  · have h := h.2 hc
    refine sm_w.run t210 sr210 73 3 (M2 := M) (f2 := (if (iV M 116 85) = 0 then 165 else 142, [some (.ref 116), some (.int (x1)), some (.int (x2)), none, some (.long (x4 + (10000 : Int64))), none, none], [])) rfl ⟨trivial, sm_K.g (k_116 hS) (sm_sh.rf _), trivial, trivial⟩ ?_
    refine sm_w.ite (fun hc => ?_) (fun hc => ?_)
    · have h := h.1 hc
      refine sm_w.run t210 sr210 89 1 (M2 := M) (f2 := (167, [some (.ref 116), some (.int (x1)), some (.int (x2)), none, some (.long (x4 + (10000 : Int64))), none, none], [.long (x4 + (10000 : Int64))])) rfl ⟨trivial, trivial⟩ ?_
      exact sm_w.end t210 sr210 90 (o := .returned (some (.long (x4 + (10000 : Int64))))) (M2 := M) rfl trivial (by decide) (⟨_, rfl, h⟩)
    · have h := h.2 hc
      refine sm_w.run t210 sr210 76 14 (M2 := M) (f2 := (167, [some (.ref 116), some (.int (x1)), some (.int (x2)), none, some (.long ((x4 + (10000 : Int64)) + ((((1000000000 : Int64) + (jV M 116 78)) - (jV M 116 81)) - (jV M 116 79)))), none, none], [.long ((x4 + (10000 : Int64)) + ((((1000000000 : Int64) + (jV M 116 78)) - (jV M 116 81)) - (jV M 116 79)))])) rfl ⟨trivial, trivial, trivial, sm_K.g (k_116 hS) (sm_sh.rf _), trivial, trivial, sm_K.g (k_116 hS) (sm_sh.rf _), trivial, trivial, sm_K.g (k_116 hS) (sm_sh.rf _), trivial, trivial, (Nat.le_of_ble_eq_true rfl), trivial, trivial⟩ ?_
      exact sm_w.end t210 sr210 90 (o := .returned (some (.long ((x4 + (10000 : Int64)) + ((((1000000000 : Int64) + (jV M 116 78)) - (jV M 116 81)) - (jV M 116 79)))))) (M2 := M) rfl trivial (by decide) (⟨_, rfl, h⟩)
def p210_4 (M : sm_M) (x1 : Int32) (x2 : Int32) (x4 : Int64) : Int64 := if (iV M 150 x2.toNatClampNeg) = (3 : Int32) then (if (p211_0 M x1) = 0 then (if (iV M 116 85) = 0 then (x4 + (10000 : Int64)) else ((x4 + (10000 : Int64)) + ((((1000000000 : Int64) + (jV M 116 78)) - (jV M 116 81)) - (jV M 116 79)))) else (if (iV M 116 85) = 0 then ((x4 + (10000 : Int64)) + (5000 : Int64)) else (((x4 + (10000 : Int64)) + (5000 : Int64)) + ((((1000000000 : Int64) + (jV M 116 78)) - (jV M 116 81)) - (jV M 116 79))))) else (if (iV M 116 85) = 0 then (x4 + (10000 : Int64)) else ((x4 + (10000 : Int64)) + ((((1000000000 : Int64) + (jV M 116 78)) - (jV M 116 81)) - (jV M 116 79))))
def q210_4 (M : sm_M) (x1 : Int32) (x2 : Int32) (x4 : Int64) : Prop := (vp_in x2 602) ∧ (((iV M 150 x2.toNatClampNeg) = (3 : Int32) → (q211_0 M x1)) ∧ (¬ (iV M 150 x2.toNatClampNeg) = (3 : Int32) → True))
theorem p210_4c {M : sm_M} {x1 : Int32} {x2 : Int32} {x4 : Int64} (hS : SH M)  (hq : q210_4 M x1 x2 x4) : sm_w 210 (101, [some (.ref 116), some (.int (x1)), some (.int (x2)), none, some (.long (x4)), none, none], []) M (rJ (fun v M2 => v = p210_4 M x1 x2 x4 ∧ M2 = M)) := by
  refine g210_4 (K := (fun v M2 => v = p210_4 M x1 x2 x4 ∧ M2 = M)) hS ?_
  unfold q210_4 at hq
  obtain ⟨d1, hq⟩ := hq
  refine ⟨d1, ?_⟩
  refine ⟨fun e2 => ?_, fun e2 => ?_⟩
  · have hq := hq.1 e2
    have d3 := hq
    refine ⟨d3, ?_⟩
    refine ⟨fun e4 => ?_, fun e4 => ?_⟩
    · refine ⟨fun e5 => ?_, fun e5 => ?_⟩
      · refine ⟨?_, rfl⟩
        unfold p210_4
        rw [if_pos e2, if_pos e4, if_pos e5]
      · refine ⟨?_, rfl⟩
        unfold p210_4
        rw [if_pos e2, if_pos e4, if_neg e5]
    · refine ⟨fun e6 => ?_, fun e6 => ?_⟩
      · refine ⟨?_, rfl⟩
        unfold p210_4
        rw [if_pos e2, if_neg e4, if_pos e6]
      · refine ⟨?_, rfl⟩
        unfold p210_4
        rw [if_pos e2, if_neg e4, if_neg e6]
  · refine ⟨fun e7 => ?_, fun e7 => ?_⟩
    · refine ⟨?_, rfl⟩
      unfold p210_4
      rw [if_neg e2, if_pos e7]
    · refine ⟨?_, rfl⟩
      unfold p210_4
      rw [if_neg e2, if_neg e7]
def p210_3 (M : sm_M) (x1 : Int32) (x2 : Int32) (x3 : Int32) (x4 : Int64) : Int64 := if (1 : Int32) < ((p209_0 M) - x3) then (p210_4 M x1 x2 x4) else (if (-1 : Int32) ≤ ((p209_0 M) - x3) then (if (iV M 150 x2.toNatClampNeg) = (3 : Int32) then (if (p211_0 M x1) = 0 then (if (iV M 116 85) = 0 then x4 else (x4 + ((((1000000000 : Int64) + (jV M 116 78)) - (jV M 116 81)) - (jV M 116 79)))) else (if (iV M 116 85) = 0 then (x4 + (5000 : Int64)) else ((x4 + (5000 : Int64)) + ((((1000000000 : Int64) + (jV M 116 78)) - (jV M 116 81)) - (jV M 116 79))))) else (if (iV M 116 85) = 0 then x4 else (x4 + ((((1000000000 : Int64) + (jV M 116 78)) - (jV M 116 81)) - (jV M 116 79))))) else (p210_4 M x1 x2 x4))
def q210_3 (M : sm_M) (x1 : Int32) (x2 : Int32) (x3 : Int32) (x4 : Int64) : Prop := (((1 : Int32) < ((p209_0 M) - x3) → (q210_4 M x1 x2 x4)) ∧ (¬ (1 : Int32) < ((p209_0 M) - x3) → (((-1 : Int32) ≤ ((p209_0 M) - x3) → (vp_in x2 602) ∧ (((iV M 150 x2.toNatClampNeg) = (3 : Int32) → (q211_0 M x1)) ∧ (¬ (iV M 150 x2.toNatClampNeg) = (3 : Int32) → True))) ∧ (¬ (-1 : Int32) ≤ ((p209_0 M) - x3) → (q210_4 M x1 x2 x4)))))
theorem p210_3c {M : sm_M} {x1 : Int32} {x2 : Int32} {x3 : Int32} {x4 : Int64} (hS : SH M)  (hq : q210_3 M x1 x2 x3 x4) : sm_w 210 (81, [some (.ref 116), some (.int (x1)), some (.int (x2)), some (.int (x3)), some (.long (x4)), none, none], []) M (rJ (fun v M2 => v = p210_3 M x1 x2 x3 x4 ∧ M2 = M)) := by
  refine g210_3 (K := (fun v M2 => v = p210_3 M x1 x2 x3 x4 ∧ M2 = M)) hS ?_
  unfold q210_3 at hq
  refine ⟨fun e1 => ?_, fun e1 => ?_⟩
  · have hq := hq.1 e1
    refine (p210_4c hS hq).mono (fun o M2 z => ?_)
    obtain ⟨v, z1, z2, z3⟩ := z
    refine ⟨v, z1, ?_, z3⟩
    rw [z2]
    unfold p210_3
    rw [if_pos e1]
  · have hq := hq.2 e1
    refine ⟨fun e2 => ?_, fun e2 => ?_⟩
    · have hq := hq.1 e2
      obtain ⟨d3, hq⟩ := hq
      refine ⟨d3, ?_⟩
      refine ⟨fun e4 => ?_, fun e4 => ?_⟩
      · have hq := hq.1 e4
        have d5 := hq
        refine ⟨d5, ?_⟩
        refine ⟨fun e6 => ?_, fun e6 => ?_⟩
        · refine ⟨fun e7 => ?_, fun e7 => ?_⟩
          · refine ⟨?_, rfl⟩
            unfold p210_3
            rw [if_neg e1, if_pos e2, if_pos e4, if_pos e6, if_pos e7]
          · refine ⟨?_, rfl⟩
            unfold p210_3
            rw [if_neg e1, if_pos e2, if_pos e4, if_pos e6, if_neg e7]
        · refine ⟨fun e8 => ?_, fun e8 => ?_⟩
          · refine ⟨?_, rfl⟩
            unfold p210_3
            rw [if_neg e1, if_pos e2, if_pos e4, if_neg e6, if_pos e8]
          · refine ⟨?_, rfl⟩
            unfold p210_3
            rw [if_neg e1, if_pos e2, if_pos e4, if_neg e6, if_neg e8]
      · refine ⟨fun e9 => ?_, fun e9 => ?_⟩
        · refine ⟨?_, rfl⟩
          unfold p210_3
          rw [if_neg e1, if_pos e2, if_neg e4, if_pos e9]
        · refine ⟨?_, rfl⟩
          unfold p210_3
          rw [if_neg e1, if_pos e2, if_neg e4, if_neg e9]
    · have hq := hq.2 e2
      refine (p210_4c hS hq).mono (fun o M2 z => ?_)
      obtain ⟨v, z1, z2, z3⟩ := z
      refine ⟨v, z1, ?_, z3⟩
      rw [z2]
      unfold p210_3
      rw [if_neg e1, if_neg e2]
def p210_2 (M : sm_M) (x1 : Int32) (x2 : Int32) (x3 : Int32) (x4 : Int64) : Int64 := if (p211_0 M x1) = 0 then (p210_3 M x1 x2 x3 x4) else (if (p211_0 M x2) = 0 then (p210_3 M x1 x2 x3 x4) else (p210_3 M x1 x2 x3 (x4 + (3000 : Int64))))
def q210_2 (M : sm_M) (x1 : Int32) (x2 : Int32) (x3 : Int32) (x4 : Int64) : Prop := (q211_0 M x1) ∧ (((p211_0 M x1) = 0 → (q210_3 M x1 x2 x3 x4)) ∧ (¬ (p211_0 M x1) = 0 → (q211_0 M x2) ∧ (((p211_0 M x2) = 0 → (q210_3 M x1 x2 x3 x4)) ∧ (¬ (p211_0 M x2) = 0 → (q210_3 M x1 x2 x3 (x4 + (3000 : Int64)))))))
theorem p210_2c {M : sm_M} {x1 : Int32} {x2 : Int32} {x3 : Int32} {x4 : Int64} (hS : SH M)  (hq : q210_2 M x1 x2 x3 x4) : sm_w 210 (57, [some (.ref 116), some (.int (x1)), some (.int (x2)), some (.int (x3)), some (.long (x4)), none, none], []) M (rJ (fun v M2 => v = p210_2 M x1 x2 x3 x4 ∧ M2 = M)) := by
  refine g210_2 (K := (fun v M2 => v = p210_2 M x1 x2 x3 x4 ∧ M2 = M)) hS ?_
  unfold q210_2 at hq
  obtain ⟨d1, hq⟩ := hq
  refine ⟨d1, ?_⟩
  refine ⟨fun e2 => ?_, fun e2 => ?_⟩
  · have hq := hq.1 e2
    refine (p210_3c hS hq).mono (fun o M2 z => ?_)
    obtain ⟨v, z1, z2, z3⟩ := z
    refine ⟨v, z1, ?_, z3⟩
    rw [z2]
    unfold p210_2
    rw [if_pos e2]
  · have hq := hq.2 e2
    obtain ⟨d3, hq⟩ := hq
    refine ⟨d3, ?_⟩
    refine ⟨fun e4 => ?_, fun e4 => ?_⟩
    · have hq := hq.1 e4
      refine (p210_3c hS hq).mono (fun o M2 z => ?_)
      obtain ⟨v, z1, z2, z3⟩ := z
      refine ⟨v, z1, ?_, z3⟩
      rw [z2]
      unfold p210_2
      rw [if_neg e2, if_pos e4]
    · have hq := hq.2 e4
      refine (p210_3c hS hq).mono (fun o M2 z => ?_)
      obtain ⟨v, z1, z2, z3⟩ := z
      refine ⟨v, z1, ?_, z3⟩
      rw [z2]
      unfold p210_2
      rw [if_neg e2, if_neg e4]
def p210_1 (M : sm_M) (x1 : Int32) (x2 : Int32) (x3 : Int32) (x4 : Int64) : Int64 := if (iV M 150 x2.toNatClampNeg) = (2 : Int32) then (p210_2 M x1 x2 x3 (x4 + (900 : Int64))) else (p210_2 M x1 x2 x3 x4)
def q210_1 (M : sm_M) (x1 : Int32) (x2 : Int32) (x3 : Int32) (x4 : Int64) : Prop := (vp_in x2 602) ∧ (((iV M 150 x2.toNatClampNeg) = (2 : Int32) → (q210_2 M x1 x2 x3 (x4 + (900 : Int64)))) ∧ (¬ (iV M 150 x2.toNatClampNeg) = (2 : Int32) → (q210_2 M x1 x2 x3 x4)))
theorem p210_1c {M : sm_M} {x1 : Int32} {x2 : Int32} {x3 : Int32} {x4 : Int64} (hS : SH M)  (hq : q210_1 M x1 x2 x3 x4) : sm_w 210 (39, [some (.ref 116), some (.int (x1)), some (.int (x2)), some (.int (x3)), some (.long (x4)), none, none], []) M (rJ (fun v M2 => v = p210_1 M x1 x2 x3 x4 ∧ M2 = M)) := by
  refine g210_1 (K := (fun v M2 => v = p210_1 M x1 x2 x3 x4 ∧ M2 = M)) hS ?_
  unfold q210_1 at hq
  obtain ⟨d1, hq⟩ := hq
  refine ⟨d1, ?_⟩
  refine ⟨fun e2 => ?_, fun e2 => ?_⟩
  · have hq := hq.1 e2
    refine (p210_2c hS hq).mono (fun o M2 z => ?_)
    obtain ⟨v, z1, z2, z3⟩ := z
    refine ⟨v, z1, ?_, z3⟩
    rw [z2]
    unfold p210_1
    rw [if_pos e2]
  · have hq := hq.2 e2
    refine (p210_2c hS hq).mono (fun o M2 z => ?_)
    obtain ⟨v, z1, z2, z3⟩ := z
    refine ⟨v, z1, ?_, z3⟩
    rw [z2]
    unfold p210_1
    rw [if_neg e2]
def p210_0 (M : sm_M) (x1 : Int32) (x2 : Int32) (x3 : Int32) : Int64 := if (iV M 150 x2.toNatClampNeg) = (1 : Int32) then (p210_1 M x1 x2 x3 ((((10 : Int64) + ((iV M 116 84).toInt64)) * ((10 : Int64) + ((iV M 116 84).toInt64))) + (2500 : Int64))) else (p210_1 M x1 x2 x3 (((10 : Int64) + ((iV M 116 84).toInt64)) * ((10 : Int64) + ((iV M 116 84).toInt64))))
def q210_0 (M : sm_M) (x1 : Int32) (x2 : Int32) (x3 : Int32) : Prop := (vp_in x2 602) ∧ (((iV M 150 x2.toNatClampNeg) = (1 : Int32) → (q210_1 M x1 x2 x3 ((((10 : Int64) + ((iV M 116 84).toInt64)) * ((10 : Int64) + ((iV M 116 84).toInt64))) + (2500 : Int64)))) ∧ (¬ (iV M 150 x2.toNatClampNeg) = (1 : Int32) → (q210_1 M x1 x2 x3 (((10 : Int64) + ((iV M 116 84).toInt64)) * ((10 : Int64) + ((iV M 116 84).toInt64))))))
theorem p210_c {M : sm_M} {x1 : Int32} {x2 : Int32} {x3 : Int32} (hS : SH M)  (hq : q210_0 M x1 x2 x3) : sm_cJ 210 [.ref 116, .int (x1), .int (x2), .int (x3)] M (fun v M2 => v = p210_0 M x1 x2 x3 ∧ M2 = M) := by
  refine g210_0 (K := (fun v M2 => v = p210_0 M x1 x2 x3 ∧ M2 = M)) hS ?_
  unfold q210_0 at hq
  obtain ⟨d1, hq⟩ := hq
  refine ⟨d1, ?_⟩
  refine ⟨fun e2 => ?_, fun e2 => ?_⟩
  · have hq := hq.1 e2
    refine (p210_1c hS hq).mono (fun o M2 z => ?_)
    obtain ⟨v, z1, z2, z3⟩ := z
    refine ⟨v, z1, ?_, z3⟩
    rw [z2]
    unfold p210_0
    rw [if_pos e2]
  · have hq := hq.2 e2
    refine (p210_1c hS hq).mono (fun o M2 z => ?_)
    obtain ⟨v, z1, z2, z3⟩ := z
    refine ⟨v, z1, ?_, z3⟩
    rw [z2]
    unfold p210_0
    rw [if_neg e2]
-- 212 LineSetterModel.comesAhead(II)Z
theorem t212 : sP 212 = (5, sp_212, sh_212) := rfl
theorem sr212 : sm_srt sp_212 = true := by decide +kernel
theorem g212_0 {M : sm_M} {x1 : Int32} {x2 : Int32} {K : Int32 → sm_M → Prop} (hS : SH M)  (h : sm_w 212 (5, [some (.ref 116), none, none, some (.int (x1)), some (.int (x2))], []) M (rI K)) : sm_w 212 (sm_in sP 212 [.ref 116, .int (x1), .int (x2)]) M (rI K) := by
  show sm_w 212 (0, [some (.ref 116), some (.int (x1)), some (.int (x2)), none, none], []) M (rI K)
  refine sm_w.run t212 sr212 0 4 (M2 := M) (f2 := (5, [some (.ref 116), some (.int (x1)), some (.int (x2)), some (.int (x1)), some (.int (x2))], [])) rfl ⟨trivial, (Nat.le_of_ble_eq_true rfl), trivial, (Nat.le_of_ble_eq_true rfl), trivial⟩ ?_
  refine sm_w.weak (ls := [some (.ref 116), none, none, some (.int (x1)), some (.int (x2))]) (sm_leI [true, false, false, true, true] rfl) ?_
  exact h
theorem g212_1 {M : sm_M} {x3 : Int32} {x4 : Int32} {K : Int32 → sm_M → Prop} (hS : SH M)  (h : ((x3 = x4 → K (0 : Int32) M) ∧ (¬ x3 = x4 → (((x3 / (4 : Int32)) = (x4 / (4 : Int32)) → (vp_in x3 2408) ∧ (vp_in x4 2408) ∧ sm_w 212 (5, [some (.ref 116), none, none, some (.int (iV M 159 x3.toNatClampNeg)), some (.int (iV M 159 x4.toNatClampNeg))], []) M (rI K)) ∧ (¬ (x3 / (4 : Int32)) = (x4 / (4 : Int32)) → (((x4 / (4 : Int32)) ≤ (x3 / (4 : Int32)) → K (0 : Int32) M) ∧ (¬ (x4 / (4 : Int32)) ≤ (x3 / (4 : Int32)) → K (1 : Int32) M))))))) : sm_w 212 (5, [some (.ref 116), none, none, some (.int (x3)), some (.int (x4))], []) M (rI K) := by
  refine sm_w.run t212 sr212 4 3 (M2 := M) (f2 := (if x3 = x4 then 56 else 11, [some (.ref 116), none, none, some (.int (x3)), some (.int (x4))], [])) rfl ⟨trivial, trivial, trivial, trivial⟩ ?_
  refine sm_w.ite (fun hc => ?_) (fun hc => ?_)
  · have h := h.1 hc
    refine sm_w.run t212 sr212 36 1 (M2 := M) (f2 := (57, [some (.ref 116), none, none, some (.int (x3)), some (.int (x4))], [.int ((0 : Int32))])) rfl ⟨trivial, trivial⟩ ?_
    exact sm_w.end t212 sr212 37 (o := .returned (some (.int ((0 : Int32))))) (M2 := M) rfl rfl (by decide) (⟨_, rfl, h⟩)
  · have h := h.2 hc
    refine sm_w.run t212 sr212 7 7 (M2 := M) (f2 := (if (x3 / (4 : Int32)) = (x4 / (4 : Int32)) then 37 else 21, [some (.ref 116), none, none, some (.int (x3)), some (.int (x4))], [])) rfl ⟨trivial, trivial, by decide, trivial, trivial, by decide, trivial, trivial⟩ ?_
    refine sm_w.ite (fun hc => ?_) (fun hc => ?_)
    · have h := h.1 hc
      refine sm_w.run t212 sr212 25 2 (M2 := M) (f2 := (41, [some (.ref 116), none, none, some (.int (x3)), some (.int (x4))], [va_rf (sm_rv M 116 87)])) rfl ⟨trivial, sm_K.g (k_116 hS) (sm_sh.rf _), trivial⟩ ?_
      refine sm_w.fld (r_116_87 hS) ?_
      obtain ⟨c1, h⟩ := h
      refine sm_w.run t212 sr212 27 5 (M2 := M) (f2 := (48, [some (.ref 116), none, none, some (.int (iV M 159 x3.toNatClampNeg)), some (.int (x4))], [va_rf (sm_rv M 116 87)])) rfl ⟨trivial, sm_K.a2 (k_159 hS) (l_159 hS) c1, (Nat.le_of_ble_eq_true rfl), trivial, sm_K.g (k_116 hS) (sm_sh.rf _), trivial⟩ ?_
      refine sm_w.fld (r_116_87 hS) ?_
      obtain ⟨c2, h⟩ := h
      refine sm_w.run t212 sr212 32 4 (M2 := M) (f2 := (5, [some (.ref 116), none, none, some (.int (iV M 159 x3.toNatClampNeg)), some (.int (iV M 159 x4.toNatClampNeg))], [])) rfl ⟨trivial, sm_K.a2 (k_159 hS) (l_159 hS) c2, (Nat.le_of_ble_eq_true rfl), trivial, trivial⟩ ?_
      exact h
    · have h := h.2 hc
      refine sm_w.run t212 sr212 14 7 (M2 := M) (f2 := (if (x4 / (4 : Int32)) ≤ (x3 / (4 : Int32)) then 35 else 31, [some (.ref 116), none, none, some (.int (x3)), some (.int (x4))], [])) rfl ⟨trivial, trivial, by decide, trivial, trivial, by decide, trivial, trivial⟩ ?_
      refine sm_w.ite (fun hc => ?_) (fun hc => ?_)
      · have h := h.1 hc
        refine sm_w.run t212 sr212 23 1 (M2 := M) (f2 := (36, [some (.ref 116), none, none, some (.int (x3)), some (.int (x4))], [.int ((0 : Int32))])) rfl ⟨trivial, trivial⟩ ?_
        exact sm_w.end t212 sr212 24 (o := .returned (some (.int ((0 : Int32))))) (M2 := M) rfl rfl (by decide) (⟨_, rfl, h⟩)
      · have h := h.2 hc
        refine sm_w.run t212 sr212 21 2 (M2 := M) (f2 := (36, [some (.ref 116), none, none, some (.int (x3)), some (.int (x4))], [.int ((1 : Int32))])) rfl ⟨trivial, trivial, trivial⟩ ?_
        exact sm_w.end t212 sr212 24 (o := .returned (some (.int ((1 : Int32))))) (M2 := M) rfl rfl (by decide) (⟨_, rfl, h⟩)
