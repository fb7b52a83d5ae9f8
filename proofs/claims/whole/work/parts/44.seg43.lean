/-! METHODS by their segments. -/
-- 215 LineSetterModel.at(II)J
theorem t215 : sP 215 = (3, sp_215, sh_215) := rfl
theorem sr215 : sm_srt sp_215 = true := by decide +kernel
theorem g215_0 {M : sm_M} {x1 : Int32} {x2 : Int32} {K : Int64 → sm_M → Prop} (hS : SH M)  (h : (((p166_0 M x2.toInt64 (0 : Int64) (3 : Int64)) = 0 → ∀ M4, SH M4 → M4 = sm_wI M 116 0 (1 : Int32) → K (0 : Int32).toInt64 M4) ∧ (¬ (p166_0 M x2.toInt64 (0 : Int64) (3 : Int64)) = 0 → (((1 : Int32) ≤ x1 → (((iV M 116 59) = 0 → ∀ M9, SH M9 → M9 = sm_wI M 116 0 (2 : Int32) → K (0 : Int32).toInt64 M9) ∧ (¬ (iV M 116 59) = 0 → ((x1 ≤ (iV M 116 63) → ∀ M11, SH M11 → M11 = sm_wI M 116 0 (0 : Int32) → ((x2 = 0 → (vp_in x1 602) ∧ K ((iV M11 150 x1.toNatClampNeg).toInt64) M11) ∧ (¬ x2 = 0 → ((x2 = (1 : Int32) → (vp_in x1 602) ∧ K ((iV M11 151 x1.toNatClampNeg).toInt64) M11) ∧ (¬ x2 = (1 : Int32) → ((x2 = (2 : Int32) → (vp_in x1 602) ∧ K (jV M11 152 x1.toNatClampNeg) M11) ∧ (¬ x2 = (2 : Int32) → (vp_in x1 602) ∧ K (jV M11 153 x1.toNatClampNeg) M11))))))) ∧ (¬ x1 ≤ (iV M 116 63) → ∀ M20, SH M20 → M20 = sm_wI M 116 0 (1 : Int32) → K (0 : Int32).toInt64 M20))))) ∧ (¬ (1 : Int32) ≤ x1 → ∀ M25, SH M25 → M25 = sm_wI M 116 0 (1 : Int32) → K (0 : Int32).toInt64 M25))))) : sm_w 215 (sm_in sP 215 [.ref 116, .int (x1), .int (x2)]) M (rJ K) := by
  show sm_w 215 (0, [some (.ref 116), some (.int (x1)), some (.int (x2))], []) M (rJ K)
  refine sm_w.run t215 sr215 0 4 (M2 := M) (f2 := (6, [some (.ref 116), some (.int (x1)), some (.int (x2))], [.long ((3 : Int64)), .long ((0 : Int64)), .long (x2.toInt64)])) rfl ⟨trivial, trivial, trivial, trivial, trivial⟩ ?_
  refine sm_w.cI t215 sr215 4 (i := 166) (as := [.long (x2.toInt64), .long ((0 : Int64)), .long ((3 : Int64))]) (g := (6, [some (.ref 116), some (.int (x1)), some (.int (x2))], [])) rfl ⟨(Nat.le_of_ble_eq_true rfl), (Nat.le_of_ble_eq_true rfl)⟩ (Nat.le_of_ble_eq_true rfl) (by decide) (p166_c hS) (fun vz M2 hz => ?_)
  obtain ⟨hz1, hz2⟩ := hz
  subst hz1
  have hz2 := hz2.symm
  subst hz2
  refine sm_w.run t215 sr215 5 1 (M2 := M) (f2 := (if (p166_0 M x2.toInt64 (0 : Int64) (3 : Int64)) = 0 then 17 else 12, [some (.ref 116), some (.int (x1)), some (.int (x2))], [])) rfl ⟨trivial, trivial⟩ ?_
  refine sm_w.ite (fun hc => ?_) (fun hc => ?_)
  · have h := h.1 hc
    refine sm_w.run t215 sr215 9 2 (M2 := M) (f2 := (19, [some (.ref 116), some (.int (x1)), some (.int (x2))], [.int ((1 : Int32)), .ref 116])) rfl ⟨trivial, trivial, trivial⟩ ?_
    refine sm_w.cI t215 sr215 11 (i := 163) (as := [.ref 116, .int ((1 : Int32))]) (g := (19, [some (.ref 116), some (.int (x1)), some (.int (x2))], [])) rfl ⟨by decide, by decide, (Nat.le_of_ble_eq_true rfl), (sm_K.g (k_116 hS) (sm_sh.rf _)).1, (sm_K.g (k_116 hS) (sm_sh.rf _)).2, (Nat.le_of_ble_eq_true rfl)⟩ (Nat.le_of_ble_eq_true rfl) (by decide) (sm_cI.s2 (by decide) hS (g163_0 (K := fun v2 M1 => K v2.toInt64 M1) hS h)) (fun v2 M1 h => ?_)
    obtain ⟨hS3, h⟩ := h
    refine sm_w.run t215 sr215 12 1 (M2 := M1) (f2 := (23, [some (.ref 116), some (.int (x1)), some (.int (x2))], [.long (v2.toInt64)])) rfl ⟨trivial, trivial⟩ ?_
    exact sm_w.end t215 sr215 13 (o := .returned (some (.long (v2.toInt64)))) (M2 := M1) rfl trivial (by decide) (⟨_, rfl, h⟩)
  · have h := h.2 hc
    refine sm_w.run t215 sr215 6 3 (M2 := M) (f2 := (if (1 : Int32) ≤ x1 then 24 else 17, [some (.ref 116), some (.int (x1)), some (.int (x2))], [])) rfl ⟨trivial, trivial, trivial, trivial⟩ ?_
    refine sm_w.ite (fun hc => ?_) (fun hc => ?_)
    · have h := h.1 hc
      refine sm_w.run t215 sr215 14 3 (M2 := M) (f2 := (if (iV M 116 59) = 0 then 31 else 38, [some (.ref 116), some (.int (x1)), some (.int (x2))], [])) rfl ⟨trivial, sm_K.g (k_116 hS) (sm_sh.rf _), trivial, trivial⟩ ?_
      refine sm_w.ite (fun hc => ?_) (fun hc => ?_)
      · have h := h.1 hc
        refine sm_w.run t215 sr215 17 2 (M2 := M) (f2 := (33, [some (.ref 116), some (.int (x1)), some (.int (x2))], [.int ((2 : Int32)), .ref 116])) rfl ⟨trivial, trivial, trivial⟩ ?_
        refine sm_w.cI t215 sr215 19 (i := 163) (as := [.ref 116, .int ((2 : Int32))]) (g := (33, [some (.ref 116), some (.int (x1)), some (.int (x2))], [])) rfl ⟨by decide, by decide, (Nat.le_of_ble_eq_true rfl), (sm_K.g (k_116 hS) (sm_sh.rf _)).1, (sm_K.g (k_116 hS) (sm_sh.rf _)).2, (Nat.le_of_ble_eq_true rfl)⟩ (Nat.le_of_ble_eq_true rfl) (by decide) (sm_cI.s2 (by decide) hS (g163_0 (K := fun v7 M6 => K v7.toInt64 M6) hS h)) (fun v7 M6 h => ?_)
        obtain ⟨hS8, h⟩ := h
        refine sm_w.run t215 sr215 20 1 (M2 := M6) (f2 := (37, [some (.ref 116), some (.int (x1)), some (.int (x2))], [.long (v7.toInt64)])) rfl ⟨trivial, trivial⟩ ?_
        exact sm_w.end t215 sr215 21 (o := .returned (some (.long (v7.toInt64)))) (M2 := M6) rfl trivial (by decide) (⟨_, rfl, h⟩)
      · have h := h.2 hc
        refine sm_w.run t215 sr215 22 4 (M2 := M) (f2 := (if x1 ≤ (iV M 116 63) then 53 else 46, [some (.ref 116), some (.int (x1)), some (.int (x2))], [])) rfl ⟨trivial, trivial, sm_K.g (k_116 hS) (sm_sh.rf _), trivial, trivial⟩ ?_
        refine sm_w.ite (fun hc => ?_) (fun hc => ?_)
        · have h := h.1 hc
          refine sm_w.run t215 sr215 31 3 (M2 := sm_wI M 116 0 (0 : Int32)) (f2 := (58, [some (.ref 116), some (.int (x1)), some (.int (x2))], [])) rfl ⟨trivial, trivial, ⟨(sm_K.p (k_116 hS) (sm_sh.rf _)).1, (sm_K.p (k_116 hS) (sm_sh.rf _)).2.1, (sm_K.p (k_116 hS) (sm_sh.rf _)).2.2, Or.inl rfl⟩, trivial⟩ ?_
          have hS12 : SH (sm_wI M 116 0 (0 : Int32)) := SH.wI hS _ _ _
          have h := h _ hS12 rfl
          generalize sm_wI M 116 0 (0 : Int32) = M11 at h hS12 ⊢
          refine sm_w.run t215 sr215 34 2 (M2 := M11) (f2 := (if x2 = 0 then 62 else 70, [some (.ref 116), some (.int (x1)), some (.int (x2))], [])) rfl ⟨trivial, trivial, trivial⟩ ?_
          refine sm_w.ite (fun hc => ?_) (fun hc => ?_)
          · have h := h.1 hc
            refine sm_w.run t215 sr215 36 2 (M2 := M11) (f2 := (66, [some (.ref 116), some (.int (x1)), some (.int (x2))], [va_rf (sm_rv M11 116 70)])) rfl ⟨trivial, sm_K.g (k_116 hS12) (sm_sh.rf _), trivial⟩ ?_
            refine sm_w.fld (r_116_70 hS12) ?_
            obtain ⟨c13, h⟩ := h
            refine sm_w.run t215 sr215 38 3 (M2 := M11) (f2 := (69, [some (.ref 116), some (.int (x1)), some (.int (x2))], [.long ((iV M11 150 x1.toNatClampNeg).toInt64)])) rfl ⟨trivial, sm_K.a2 (k_150 hS12) (l_150 hS12) c13, trivial, trivial⟩ ?_
            exact sm_w.end t215 sr215 41 (o := .returned (some (.long ((iV M11 150 x1.toNatClampNeg).toInt64)))) (M2 := M11) rfl trivial (by decide) (⟨_, rfl, h⟩)
          · have h := h.2 hc
            refine sm_w.run t215 sr215 42 3 (M2 := M11) (f2 := (if x2 = (1 : Int32) then 75 else 83, [some (.ref 116), some (.int (x1)), some (.int (x2))], [])) rfl ⟨trivial, trivial, trivial, trivial⟩ ?_
            refine sm_w.ite (fun hc => ?_) (fun hc => ?_)
            · have h := h.1 hc
              refine sm_w.run t215 sr215 45 2 (M2 := M11) (f2 := (79, [some (.ref 116), some (.int (x1)), some (.int (x2))], [va_rf (sm_rv M11 116 71)])) rfl ⟨trivial, sm_K.g (k_116 hS12) (sm_sh.rf _), trivial⟩ ?_
              refine sm_w.fld (r_116_71 hS12) ?_
              obtain ⟨c14, h⟩ := h
              refine sm_w.run t215 sr215 47 3 (M2 := M11) (f2 := (82, [some (.ref 116), some (.int (x1)), some (.int (x2))], [.long ((iV M11 151 x1.toNatClampNeg).toInt64)])) rfl ⟨trivial, sm_K.a2 (k_151 hS12) (l_151 hS12) c14, trivial, trivial⟩ ?_
              exact sm_w.end t215 sr215 50 (o := .returned (some (.long ((iV M11 151 x1.toNatClampNeg).toInt64)))) (M2 := M11) rfl trivial (by decide) (⟨_, rfl, h⟩)
            · have h := h.2 hc
              refine sm_w.run t215 sr215 51 3 (M2 := M11) (f2 := (if x2 = (2 : Int32) then 88 else 97, [some (.ref 116), some (.int (x1)), some (.int (x2))], [])) rfl ⟨trivial, trivial, trivial, trivial⟩ ?_
              refine sm_w.ite (fun hc => ?_) (fun hc => ?_)
              · have h := h.1 hc
                refine sm_w.run t215 sr215 54 2 (M2 := M11) (f2 := (92, [some (.ref 116), some (.int (x1)), some (.int (x2))], [va_rf (sm_rv M11 116 72)])) rfl ⟨trivial, sm_K.g (k_116 hS12) (sm_sh.rf _), trivial⟩ ?_
                refine sm_w.fld (r_116_72 hS12) ?_
                obtain ⟨c15, h⟩ := h
                refine sm_w.run t215 sr215 56 3 (M2 := M11) (f2 := (103, [some (.ref 116), some (.int (x1)), some (.int (x2))], [.long (jV M11 152 x1.toNatClampNeg)])) rfl ⟨trivial, sm_K.a2 (k_152 hS12) (l_152 hS12) c15, trivial, trivial⟩ ?_
                exact sm_w.end t215 sr215 63 (o := .returned (some (.long (jV M11 152 x1.toNatClampNeg)))) (M2 := M11) rfl trivial (by decide) (⟨_, rfl, h⟩)
              · have h := h.2 hc
                refine sm_w.run t215 sr215 59 2 (M2 := M11) (f2 := (101, [some (.ref 116), some (.int (x1)), some (.int (x2))], [va_rf (sm_rv M11 116 73)])) rfl ⟨trivial, sm_K.g (k_116 hS12) (sm_sh.rf _), trivial⟩ ?_
                refine sm_w.fld (r_116_73 hS12) ?_
                obtain ⟨c16, h⟩ := h
                refine sm_w.run t215 sr215 61 2 (M2 := M11) (f2 := (103, [some (.ref 116), some (.int (x1)), some (.int (x2))], [.long (jV M11 153 x1.toNatClampNeg)])) rfl ⟨trivial, sm_K.a2 (k_153 hS12) (l_153 hS12) c16, trivial⟩ ?_
                exact sm_w.end t215 sr215 63 (o := .returned (some (.long (jV M11 153 x1.toNatClampNeg)))) (M2 := M11) rfl trivial (by decide) (⟨_, rfl, h⟩)
        · have h := h.2 hc
          refine sm_w.run t215 sr215 26 2 (M2 := M) (f2 := (48, [some (.ref 116), some (.int (x1)), some (.int (x2))], [.int ((1 : Int32)), .ref 116])) rfl ⟨trivial, trivial, trivial⟩ ?_
          refine sm_w.cI t215 sr215 28 (i := 163) (as := [.ref 116, .int ((1 : Int32))]) (g := (48, [some (.ref 116), some (.int (x1)), some (.int (x2))], [])) rfl ⟨by decide, by decide, (Nat.le_of_ble_eq_true rfl), (sm_K.g (k_116 hS) (sm_sh.rf _)).1, (sm_K.g (k_116 hS) (sm_sh.rf _)).2, (Nat.le_of_ble_eq_true rfl)⟩ (Nat.le_of_ble_eq_true rfl) (by decide) (sm_cI.s2 (by decide) hS (g163_0 (K := fun v18 M17 => K v18.toInt64 M17) hS h)) (fun v18 M17 h => ?_)
          obtain ⟨hS19, h⟩ := h
          refine sm_w.run t215 sr215 29 1 (M2 := M17) (f2 := (52, [some (.ref 116), some (.int (x1)), some (.int (x2))], [.long (v18.toInt64)])) rfl ⟨trivial, trivial⟩ ?_
          exact sm_w.end t215 sr215 30 (o := .returned (some (.long (v18.toInt64)))) (M2 := M17) rfl trivial (by decide) (⟨_, rfl, h⟩)
    · have h := h.2 hc
      refine sm_w.run t215 sr215 9 2 (M2 := M) (f2 := (19, [some (.ref 116), some (.int (x1)), some (.int (x2))], [.int ((1 : Int32)), .ref 116])) rfl ⟨trivial, trivial, trivial⟩ ?_
      refine sm_w.cI t215 sr215 11 (i := 163) (as := [.ref 116, .int ((1 : Int32))]) (g := (19, [some (.ref 116), some (.int (x1)), some (.int (x2))], [])) rfl ⟨by decide, by decide, (Nat.le_of_ble_eq_true rfl), (sm_K.g (k_116 hS) (sm_sh.rf _)).1, (sm_K.g (k_116 hS) (sm_sh.rf _)).2, (Nat.le_of_ble_eq_true rfl)⟩ (Nat.le_of_ble_eq_true rfl) (by decide) (sm_cI.s2 (by decide) hS (g163_0 (K := fun v23 M22 => K v23.toInt64 M22) hS h)) (fun v23 M22 h => ?_)
      obtain ⟨hS24, h⟩ := h
      refine sm_w.run t215 sr215 12 1 (M2 := M22) (f2 := (23, [some (.ref 116), some (.int (x1)), some (.int (x2))], [.long (v23.toInt64)])) rfl ⟨trivial, trivial⟩ ?_
      exact sm_w.end t215 sr215 13 (o := .returned (some (.long (v23.toInt64)))) (M2 := M22) rfl trivial (by decide) (⟨_, rfl, h⟩)
