/-! METHODS by their segments. -/
-- 216 LineSetterModel.line(II)J
theorem t216 : sP 216 = (3, sp_216, sh_216) := rfl
theorem sr216 : sm_srt sp_216 = true := by decide +kernel
theorem g216_0 {M : sm_M} {x1 : Int32} {x2 : Int32} {K : Int64 → sm_M → Prop} (hS : SH M)  (h : (((p166_0 M x2.toInt64 (0 : Int64) (7 : Int64)) = 0 → ∀ M4, SH M4 → M4 = sm_wI M 116 0 (1 : Int32) → K (0 : Int32).toInt64 M4) ∧ (¬ (p166_0 M x2.toInt64 (0 : Int64) (7 : Int64)) = 0 → ((0 ≤ x1 → (((iV M 116 59) = 0 → ∀ M9, SH M9 → M9 = sm_wI M 116 0 (2 : Int32) → K (0 : Int32).toInt64 M9) ∧ (¬ (iV M 116 59) = 0 → ((x1 < (iV M 116 64) → ∀ M11, SH M11 → M11 = sm_wI M 116 0 (0 : Int32) → ((x2 = 0 → (vp_in x1 602) ∧ K ((iV M11 161 x1.toNatClampNeg).toInt64) M11) ∧ (¬ x2 = 0 → ((x2 = (1 : Int32) → (vp_in x1 602) ∧ K ((iV M11 162 x1.toNatClampNeg).toInt64) M11) ∧ (¬ x2 = (1 : Int32) → ((x2 = (4 : Int32) → sm_cJ 217 [.ref 116, .int (x1), .int ((0 : Int32))] M11 (fun v16 M15 => SH M15 → K v16 M15)) ∧ (¬ x2 = (4 : Int32) → ((x2 = (5 : Int32) → (vp_in x1 602) ∧ K (jV M11 163 x1.toNatClampNeg) M11) ∧ (¬ x2 = (5 : Int32) → ((x2 = (6 : Int32) → sm_cI 218 [.ref 116, .int (x1)] M11 (fun v20 M19 => SH M19 → K v20.toInt64 M19)) ∧ (¬ x2 = (6 : Int32) → (vp_in x1 602) ∧ (vp_in x1 602) ∧ sm_cV 207 [.ref 116, .int (iV M11 161 x1.toNatClampNeg), .int (iV M11 162 x1.toNatClampNeg)] M11 (fun M24 => SH M24 → ((x2 = (2 : Int32) → K ((iV M24 116 83).toInt64) M24) ∧ (¬ x2 = (2 : Int32) → ((x2 = (3 : Int32) → K (jV M24 116 78) M24) ∧ (¬ x2 = (3 : Int32) → K ((iV M24 116 84).toInt64) M24)))))))))))))))) ∧ (¬ x1 < (iV M 116 64) → ∀ M30, SH M30 → M30 = sm_wI M 116 0 (1 : Int32) → K (0 : Int32).toInt64 M30))))) ∧ (¬ 0 ≤ x1 → ∀ M35, SH M35 → M35 = sm_wI M 116 0 (1 : Int32) → K (0 : Int32).toInt64 M35))))) : sm_w 216 (sm_in sP 216 [.ref 116, .int (x1), .int (x2)]) M (rJ K) := by
  show sm_w 216 (0, [some (.ref 116), some (.int (x1)), some (.int (x2))], []) M (rJ K)
  refine sm_w.run t216 sr216 0 4 (M2 := M) (f2 := (6, [some (.ref 116), some (.int (x1)), some (.int (x2))], [.long ((7 : Int64)), .long ((0 : Int64)), .long (x2.toInt64)])) rfl ⟨trivial, trivial, trivial, trivial, trivial⟩ ?_
  refine sm_w.cI t216 sr216 4 (i := 166) (as := [.long (x2.toInt64), .long ((0 : Int64)), .long ((7 : Int64))]) (g := (6, [some (.ref 116), some (.int (x1)), some (.int (x2))], [])) rfl ⟨(Nat.le_of_ble_eq_true rfl), (Nat.le_of_ble_eq_true rfl)⟩ (Nat.le_of_ble_eq_true rfl) (by decide) (p166_c hS) (fun vz M2 hz => ?_)
  obtain ⟨hz1, hz2⟩ := hz
  subst hz1
  have hz2 := hz2.symm
  subst hz2
  refine sm_w.run t216 sr216 5 1 (M2 := M) (f2 := (if (p166_0 M x2.toInt64 (0 : Int64) (7 : Int64)) = 0 then 16 else 12, [some (.ref 116), some (.int (x1)), some (.int (x2))], [])) rfl ⟨trivial, trivial⟩ ?_
  refine sm_w.ite (fun hc => ?_) (fun hc => ?_)
  · have h := h.1 hc
    refine sm_w.run t216 sr216 8 2 (M2 := M) (f2 := (18, [some (.ref 116), some (.int (x1)), some (.int (x2))], [.int ((1 : Int32)), .ref 116])) rfl ⟨trivial, trivial, trivial⟩ ?_
    refine sm_w.cI t216 sr216 10 (i := 163) (as := [.ref 116, .int ((1 : Int32))]) (g := (18, [some (.ref 116), some (.int (x1)), some (.int (x2))], [])) rfl ⟨by decide, by decide, (Nat.le_of_ble_eq_true rfl), (sm_K.g (k_116 hS) (sm_sh.rf _)).1, (sm_K.g (k_116 hS) (sm_sh.rf _)).2, (Nat.le_of_ble_eq_true rfl)⟩ (Nat.le_of_ble_eq_true rfl) (by decide) (sm_cI.s2 (by decide) hS (g163_0 (K := fun v2 M1 => K v2.toInt64 M1) hS h)) (fun v2 M1 h => ?_)
    obtain ⟨hS3, h⟩ := h
    refine sm_w.run t216 sr216 11 1 (M2 := M1) (f2 := (22, [some (.ref 116), some (.int (x1)), some (.int (x2))], [.long (v2.toInt64)])) rfl ⟨trivial, trivial⟩ ?_
    exact sm_w.end t216 sr216 12 (o := .returned (some (.long (v2.toInt64)))) (M2 := M1) rfl trivial (by decide) (⟨_, rfl, h⟩)
  · have h := h.2 hc
    refine sm_w.run t216 sr216 6 2 (M2 := M) (f2 := (if 0 ≤ x1 then 23 else 16, [some (.ref 116), some (.int (x1)), some (.int (x2))], [])) rfl ⟨trivial, trivial, trivial⟩ ?_
    refine sm_w.ite (fun hc => ?_) (fun hc => ?_)
    · have h := h.1 hc
      refine sm_w.run t216 sr216 13 3 (M2 := M) (f2 := (if (iV M 116 59) = 0 then 30 else 37, [some (.ref 116), some (.int (x1)), some (.int (x2))], [])) rfl ⟨trivial, sm_K.g (k_116 hS) (sm_sh.rf _), trivial, trivial⟩ ?_
      refine sm_w.ite (fun hc => ?_) (fun hc => ?_)
      · have h := h.1 hc
        refine sm_w.run t216 sr216 16 2 (M2 := M) (f2 := (32, [some (.ref 116), some (.int (x1)), some (.int (x2))], [.int ((2 : Int32)), .ref 116])) rfl ⟨trivial, trivial, trivial⟩ ?_
        refine sm_w.cI t216 sr216 18 (i := 163) (as := [.ref 116, .int ((2 : Int32))]) (g := (32, [some (.ref 116), some (.int (x1)), some (.int (x2))], [])) rfl ⟨by decide, by decide, (Nat.le_of_ble_eq_true rfl), (sm_K.g (k_116 hS) (sm_sh.rf _)).1, (sm_K.g (k_116 hS) (sm_sh.rf _)).2, (Nat.le_of_ble_eq_true rfl)⟩ (Nat.le_of_ble_eq_true rfl) (by decide) (sm_cI.s2 (by decide) hS (g163_0 (K := fun v7 M6 => K v7.toInt64 M6) hS h)) (fun v7 M6 h => ?_)
        obtain ⟨hS8, h⟩ := h
        refine sm_w.run t216 sr216 19 1 (M2 := M6) (f2 := (36, [some (.ref 116), some (.int (x1)), some (.int (x2))], [.long (v7.toInt64)])) rfl ⟨trivial, trivial⟩ ?_
        exact sm_w.end t216 sr216 20 (o := .returned (some (.long (v7.toInt64)))) (M2 := M6) rfl trivial (by decide) (⟨_, rfl, h⟩)
      · have h := h.2 hc
        refine sm_w.run t216 sr216 21 4 (M2 := M) (f2 := (if x1 < (iV M 116 64) then 52 else 45, [some (.ref 116), some (.int (x1)), some (.int (x2))], [])) rfl ⟨trivial, trivial, sm_K.g (k_116 hS) (sm_sh.rf _), trivial, trivial⟩ ?_
        refine sm_w.ite (fun hc => ?_) (fun hc => ?_)
        · have h := h.1 hc
          refine sm_w.run t216 sr216 30 3 (M2 := sm_wI M 116 0 (0 : Int32)) (f2 := (57, [some (.ref 116), some (.int (x1)), some (.int (x2))], [])) rfl ⟨trivial, trivial, ⟨(sm_K.p (k_116 hS) (sm_sh.rf _)).1, (sm_K.p (k_116 hS) (sm_sh.rf _)).2.1, (sm_K.p (k_116 hS) (sm_sh.rf _)).2.2, Or.inl rfl⟩, trivial⟩ ?_
          have hS12 : SH (sm_wI M 116 0 (0 : Int32)) := SH.wI hS _ _ _
          have h := h _ hS12 rfl
          generalize sm_wI M 116 0 (0 : Int32) = M11 at h hS12 ⊢
          refine sm_w.run t216 sr216 33 2 (M2 := M11) (f2 := (if x2 = 0 then 61 else 69, [some (.ref 116), some (.int (x1)), some (.int (x2))], [])) rfl ⟨trivial, trivial, trivial⟩ ?_
          refine sm_w.ite (fun hc => ?_) (fun hc => ?_)
          · have h := h.1 hc
            refine sm_w.run t216 sr216 35 2 (M2 := M11) (f2 := (65, [some (.ref 116), some (.int (x1)), some (.int (x2))], [va_rf (sm_rv M11 116 89)])) rfl ⟨trivial, sm_K.g (k_116 hS12) (sm_sh.rf _), trivial⟩ ?_
            refine sm_w.fld (r_116_89 hS12) ?_
            obtain ⟨c13, h⟩ := h
            refine sm_w.run t216 sr216 37 3 (M2 := M11) (f2 := (68, [some (.ref 116), some (.int (x1)), some (.int (x2))], [.long ((iV M11 161 x1.toNatClampNeg).toInt64)])) rfl ⟨trivial, sm_K.a2 (k_161 hS12) (l_161 hS12) c13, trivial, trivial⟩ ?_
            exact sm_w.end t216 sr216 40 (o := .returned (some (.long ((iV M11 161 x1.toNatClampNeg).toInt64)))) (M2 := M11) rfl trivial (by decide) (⟨_, rfl, h⟩)
          · have h := h.2 hc
            refine sm_w.run t216 sr216 41 3 (M2 := M11) (f2 := (if x2 = (1 : Int32) then 74 else 82, [some (.ref 116), some (.int (x1)), some (.int (x2))], [])) rfl ⟨trivial, trivial, trivial, trivial⟩ ?_
            refine sm_w.ite (fun hc => ?_) (fun hc => ?_)
            · have h := h.1 hc
              refine sm_w.run t216 sr216 44 2 (M2 := M11) (f2 := (78, [some (.ref 116), some (.int (x1)), some (.int (x2))], [va_rf (sm_rv M11 116 90)])) rfl ⟨trivial, sm_K.g (k_116 hS12) (sm_sh.rf _), trivial⟩ ?_
              refine sm_w.fld (r_116_90 hS12) ?_
              obtain ⟨c14, h⟩ := h
              refine sm_w.run t216 sr216 46 3 (M2 := M11) (f2 := (81, [some (.ref 116), some (.int (x1)), some (.int (x2))], [.long ((iV M11 162 x1.toNatClampNeg).toInt64)])) rfl ⟨trivial, sm_K.a2 (k_162 hS12) (l_162 hS12) c14, trivial, trivial⟩ ?_
              exact sm_w.end t216 sr216 49 (o := .returned (some (.long ((iV M11 162 x1.toNatClampNeg).toInt64)))) (M2 := M11) rfl trivial (by decide) (⟨_, rfl, h⟩)
            · have h := h.2 hc
              refine sm_w.run t216 sr216 50 3 (M2 := M11) (f2 := (if x2 = (4 : Int32) then 87 else 94, [some (.ref 116), some (.int (x1)), some (.int (x2))], [])) rfl ⟨trivial, trivial, trivial, trivial⟩ ?_
              refine sm_w.ite (fun hc => ?_) (fun hc => ?_)
              · have h := h.1 hc
                refine sm_w.run t216 sr216 53 3 (M2 := M11) (f2 := (90, [some (.ref 116), some (.int (x1)), some (.int (x2))], [.int ((0 : Int32)), .int (x1), .ref 116])) rfl ⟨trivial, trivial, trivial, trivial⟩ ?_
                refine sm_w.cJ t216 sr216 56 (i := 217) (as := [.ref 116, .int (x1), .int ((0 : Int32))]) (g := (90, [some (.ref 116), some (.int (x1)), some (.int (x2))], [])) rfl ⟨by decide, by decide, (Nat.le_of_ble_eq_true rfl), (sm_K.g (k_116 hS12) (sm_sh.rf _)).1, (sm_K.g (k_116 hS12) (sm_sh.rf _)).2, (Nat.le_of_ble_eq_true rfl)⟩ (Nat.le_of_ble_eq_true rfl) (by decide) (sm_cJ.s (by decide) hS12 h) (fun v16 M15 h => ?_)
                obtain ⟨hS17, h⟩ := h
                exact sm_w.end t216 sr216 57 (o := .returned (some (.long (v16)))) (M2 := M15) rfl trivial (by decide) (⟨_, rfl, h⟩)
              · have h := h.2 hc
                refine sm_w.run t216 sr216 58 3 (M2 := M11) (f2 := (if x2 = (5 : Int32) then 99 else 106, [some (.ref 116), some (.int (x1)), some (.int (x2))], [])) rfl ⟨trivial, trivial, trivial, trivial⟩ ?_
                refine sm_w.ite (fun hc => ?_) (fun hc => ?_)
                · have h := h.1 hc
                  refine sm_w.run t216 sr216 61 2 (M2 := M11) (f2 := (103, [some (.ref 116), some (.int (x1)), some (.int (x2))], [va_rf (sm_rv M11 116 91)])) rfl ⟨trivial, sm_K.g (k_116 hS12) (sm_sh.rf _), trivial⟩ ?_
                  refine sm_w.fld (r_116_91 hS12) ?_
                  obtain ⟨c18, h⟩ := h
                  refine sm_w.run t216 sr216 63 2 (M2 := M11) (f2 := (105, [some (.ref 116), some (.int (x1)), some (.int (x2))], [.long (jV M11 163 x1.toNatClampNeg)])) rfl ⟨trivial, sm_K.a2 (k_163 hS12) (l_163 hS12) c18, trivial⟩ ?_
                  exact sm_w.end t216 sr216 65 (o := .returned (some (.long (jV M11 163 x1.toNatClampNeg)))) (M2 := M11) rfl trivial (by decide) (⟨_, rfl, h⟩)
                · have h := h.2 hc
                  refine sm_w.run t216 sr216 66 3 (M2 := M11) (f2 := (if x2 = (6 : Int32) then 112 else 119, [some (.ref 116), some (.int (x1)), some (.int (x2))], [])) rfl ⟨trivial, trivial, trivial, trivial⟩ ?_
                  refine sm_w.ite (fun hc => ?_) (fun hc => ?_)
                  · have h := h.1 hc
                    refine sm_w.run t216 sr216 69 2 (M2 := M11) (f2 := (114, [some (.ref 116), some (.int (x1)), some (.int (x2))], [.int (x1), .ref 116])) rfl ⟨trivial, trivial, trivial⟩ ?_
                    refine sm_w.cI t216 sr216 71 (i := 218) (as := [.ref 116, .int (x1)]) (g := (114, [some (.ref 116), some (.int (x1)), some (.int (x2))], [])) rfl ⟨by decide, by decide, (Nat.le_of_ble_eq_true rfl), (sm_K.g (k_116 hS12) (sm_sh.rf _)).1, (sm_K.g (k_116 hS12) (sm_sh.rf _)).2, (Nat.le_of_ble_eq_true rfl)⟩ (Nat.le_of_ble_eq_true rfl) (by decide) (sm_cI.s (by decide) hS12 h) (fun v20 M19 h => ?_)
                    obtain ⟨hS21, h⟩ := h
                    refine sm_w.run t216 sr216 72 1 (M2 := M19) (f2 := (118, [some (.ref 116), some (.int (x1)), some (.int (x2))], [.long (v20.toInt64)])) rfl ⟨trivial, trivial⟩ ?_
                    exact sm_w.end t216 sr216 73 (o := .returned (some (.long (v20.toInt64)))) (M2 := M19) rfl trivial (by decide) (⟨_, rfl, h⟩)
                  · have h := h.2 hc
                    refine sm_w.run t216 sr216 74 3 (M2 := M11) (f2 := (124, [some (.ref 116), some (.int (x1)), some (.int (x2))], [va_rf (sm_rv M11 116 89), .ref 116])) rfl ⟨trivial, trivial, sm_K.g (k_116 hS12) (sm_sh.rf _), trivial⟩ ?_
                    refine sm_w.fld (r_116_89 hS12) ?_
                    obtain ⟨c22, h⟩ := h
                    refine sm_w.run t216 sr216 77 4 (M2 := M11) (f2 := (130, [some (.ref 116), some (.int (x1)), some (.int (x2))], [va_rf (sm_rv M11 116 90), .int (iV M11 161 x1.toNatClampNeg), .ref 116])) rfl ⟨trivial, sm_K.a2 (k_161 hS12) (l_161 hS12) c22, trivial, sm_K.g (k_116 hS12) (sm_sh.rf _), trivial⟩ ?_
                    refine sm_w.fld (r_116_90 hS12) ?_
                    obtain ⟨c23, h⟩ := h
                    refine sm_w.run t216 sr216 81 2 (M2 := M11) (f2 := (132, [some (.ref 116), some (.int (x1)), some (.int (x2))], [.int (iV M11 162 x1.toNatClampNeg), .int (iV M11 161 x1.toNatClampNeg), .ref 116])) rfl ⟨trivial, sm_K.a2 (k_162 hS12) (l_162 hS12) c23, trivial⟩ ?_
                    refine sm_w.cV t216 sr216 83 (i := 207) (as := [.ref 116, .int (iV M11 161 x1.toNatClampNeg), .int (iV M11 162 x1.toNatClampNeg)]) (g := (132, [some (.ref 116), some (.int (x1)), some (.int (x2))], [])) rfl ⟨by decide, by decide, (Nat.le_of_ble_eq_true rfl), (sm_K.g (k_116 hS12) (sm_sh.rf _)).1, (sm_K.g (k_116 hS12) (sm_sh.rf _)).2, (Nat.le_of_ble_eq_true rfl)⟩ (Nat.le_of_ble_eq_true rfl) (by decide) (sm_cV.s (by decide) hS12 h) (fun M24 h => ?_)
                    obtain ⟨hS26, h⟩ := h
                    refine sm_w.run t216 sr216 84 3 (M2 := M24) (f2 := (if x2 = (2 : Int32) then 140 else 148, [some (.ref 116), some (.int (x1)), some (.int (x2))], [])) rfl ⟨trivial, trivial, trivial, trivial⟩ ?_
                    refine sm_w.ite (fun hc => ?_) (fun hc => ?_)
                    · have h := h.1 hc
                      refine sm_w.run t216 sr216 87 4 (M2 := M24) (f2 := (165, [some (.ref 116), some (.int (x1)), some (.int (x2))], [.long ((iV M24 116 83).toInt64)])) rfl ⟨trivial, sm_K.g (k_116 hS26) (sm_sh.rf _), trivial, trivial, trivial⟩ ?_
                      exact sm_w.end t216 sr216 100 (o := .returned (some (.long ((iV M24 116 83).toInt64)))) (M2 := M24) rfl trivial (by decide) (⟨_, rfl, h⟩)
                    · have h := h.2 hc
                      refine sm_w.run t216 sr216 91 3 (M2 := M24) (f2 := (if x2 = (3 : Int32) then 153 else 160, [some (.ref 116), some (.int (x1)), some (.int (x2))], [])) rfl ⟨trivial, trivial, trivial, trivial⟩ ?_
                      refine sm_w.ite (fun hc => ?_) (fun hc => ?_)
                      · have h := h.1 hc
                        refine sm_w.run t216 sr216 94 3 (M2 := M24) (f2 := (165, [some (.ref 116), some (.int (x1)), some (.int (x2))], [.long (jV M24 116 78)])) rfl ⟨trivial, sm_K.g (k_116 hS26) (sm_sh.rf _), trivial, trivial⟩ ?_
                        exact sm_w.end t216 sr216 100 (o := .returned (some (.long (jV M24 116 78)))) (M2 := M24) rfl trivial (by decide) (⟨_, rfl, h⟩)
                      · have h := h.2 hc
                        refine sm_w.run t216 sr216 97 3 (M2 := M24) (f2 := (165, [some (.ref 116), some (.int (x1)), some (.int (x2))], [.long ((iV M24 116 84).toInt64)])) rfl ⟨trivial, sm_K.g (k_116 hS26) (sm_sh.rf _), trivial, trivial⟩ ?_
                        exact sm_w.end t216 sr216 100 (o := .returned (some (.long ((iV M24 116 84).toInt64)))) (M2 := M24) rfl trivial (by decide) (⟨_, rfl, h⟩)
        · have h := h.2 hc
          refine sm_w.run t216 sr216 25 2 (M2 := M) (f2 := (47, [some (.ref 116), some (.int (x1)), some (.int (x2))], [.int ((1 : Int32)), .ref 116])) rfl ⟨trivial, trivial, trivial⟩ ?_
          refine sm_w.cI t216 sr216 27 (i := 163) (as := [.ref 116, .int ((1 : Int32))]) (g := (47, [some (.ref 116), some (.int (x1)), some (.int (x2))], [])) rfl ⟨by decide, by decide, (Nat.le_of_ble_eq_true rfl), (sm_K.g (k_116 hS) (sm_sh.rf _)).1, (sm_K.g (k_116 hS) (sm_sh.rf _)).2, (Nat.le_of_ble_eq_true rfl)⟩ (Nat.le_of_ble_eq_true rfl) (by decide) (sm_cI.s2 (by decide) hS (g163_0 (K := fun v28 M27 => K v28.toInt64 M27) hS h)) (fun v28 M27 h => ?_)
          obtain ⟨hS29, h⟩ := h
          refine sm_w.run t216 sr216 28 1 (M2 := M27) (f2 := (51, [some (.ref 116), some (.int (x1)), some (.int (x2))], [.long (v28.toInt64)])) rfl ⟨trivial, trivial⟩ ?_
          exact sm_w.end t216 sr216 29 (o := .returned (some (.long (v28.toInt64)))) (M2 := M27) rfl trivial (by decide) (⟨_, rfl, h⟩)
    · have h := h.2 hc
      refine sm_w.run t216 sr216 8 2 (M2 := M) (f2 := (18, [some (.ref 116), some (.int (x1)), some (.int (x2))], [.int ((1 : Int32)), .ref 116])) rfl ⟨trivial, trivial, trivial⟩ ?_
      refine sm_w.cI t216 sr216 10 (i := 163) (as := [.ref 116, .int ((1 : Int32))]) (g := (18, [some (.ref 116), some (.int (x1)), some (.int (x2))], [])) rfl ⟨by decide, by decide, (Nat.le_of_ble_eq_true rfl), (sm_K.g (k_116 hS) (sm_sh.rf _)).1, (sm_K.g (k_116 hS) (sm_sh.rf _)).2, (Nat.le_of_ble_eq_true rfl)⟩ (Nat.le_of_ble_eq_true rfl) (by decide) (sm_cI.s2 (by decide) hS (g163_0 (K := fun v33 M32 => K v33.toInt64 M32) hS h)) (fun v33 M32 h => ?_)
      obtain ⟨hS34, h⟩ := h
      refine sm_w.run t216 sr216 11 1 (M2 := M32) (f2 := (22, [some (.ref 116), some (.int (x1)), some (.int (x2))], [.long (v33.toInt64)])) rfl ⟨trivial, trivial⟩ ?_
      exact sm_w.end t216 sr216 12 (o := .returned (some (.long (v33.toInt64)))) (M2 := M32) rfl trivial (by decide) (⟨_, rfl, h⟩)
-- 219 LineSetterModel.spot(II)J
theorem t219 : sP 219 = (3, sp_219, sh_219) := rfl
theorem sr219 : sm_srt sp_219 = true := by decide +kernel
theorem g219_0 {M : sm_M} {x1 : Int32} {x2 : Int32} {K : Int64 → sm_M → Prop} (hS : SH M)  (h : ((0 ≤ x1 → (((iV M 116 59) = 0 → ∀ M4, SH M4 → M4 = sm_wI M 116 0 (2 : Int32) → K (0 : Int32).toInt64 M4) ∧ (¬ (iV M 116 59) = 0 → ((x1 < (iV M 116 64) → sm_cI 218 [.ref 116, .int (x1)] M (fun v7 M6 => SH M6 → (((p166_0 M6 x2.toInt64 (0 : Int64) ((v7 - (1 : Int32)).toInt64)) = 0 → ∀ M12, SH M12 → M12 = sm_wI M6 116 0 (3 : Int32) → K (0 : Int32).toInt64 M12) ∧ (¬ (p166_0 M6 x2.toInt64 (0 : Int64) ((v7 - (1 : Int32)).toInt64)) = 0 → ∀ M14, SH M14 → M14 = sm_wI M6 116 0 (0 : Int32) → sm_cJ 217 [.ref 116, .int (x1), .int (x2)] M14 (fun v17 M16 => SH M16 → K v17 M16))))) ∧ (¬ x1 < (iV M 116 64) → ∀ M22, SH M22 → M22 = sm_wI M 116 0 (1 : Int32) → K (0 : Int32).toInt64 M22))))) ∧ (¬ 0 ≤ x1 → ∀ M27, SH M27 → M27 = sm_wI M 116 0 (1 : Int32) → K (0 : Int32).toInt64 M27))) : sm_w 219 (sm_in sP 219 [.ref 116, .int (x1), .int (x2)]) M (rJ K) := by
  show sm_w 219 (0, [some (.ref 116), some (.int (x1)), some (.int (x2))], []) M (rJ K)
  refine sm_w.run t219 sr219 0 2 (M2 := M) (f2 := (if 0 ≤ x1 then 11 else 4, [some (.ref 116), some (.int (x1)), some (.int (x2))], [])) rfl ⟨trivial, trivial, trivial⟩ ?_
  refine sm_w.ite (fun hc => ?_) (fun hc => ?_)
  · have h := h.1 hc
    refine sm_w.run t219 sr219 7 3 (M2 := M) (f2 := (if (iV M 116 59) = 0 then 18 else 25, [some (.ref 116), some (.int (x1)), some (.int (x2))], [])) rfl ⟨trivial, sm_K.g (k_116 hS) (sm_sh.rf _), trivial, trivial⟩ ?_
    refine sm_w.ite (fun hc => ?_) (fun hc => ?_)
    · have h := h.1 hc
      refine sm_w.run t219 sr219 10 2 (M2 := M) (f2 := (20, [some (.ref 116), some (.int (x1)), some (.int (x2))], [.int ((2 : Int32)), .ref 116])) rfl ⟨trivial, trivial, trivial⟩ ?_
      refine sm_w.cI t219 sr219 12 (i := 163) (as := [.ref 116, .int ((2 : Int32))]) (g := (20, [some (.ref 116), some (.int (x1)), some (.int (x2))], [])) rfl ⟨by decide, by decide, (Nat.le_of_ble_eq_true rfl), (sm_K.g (k_116 hS) (sm_sh.rf _)).1, (sm_K.g (k_116 hS) (sm_sh.rf _)).2, (Nat.le_of_ble_eq_true rfl)⟩ (Nat.le_of_ble_eq_true rfl) (by decide) (sm_cI.s2 (by decide) hS (g163_0 (K := fun v2 M1 => K v2.toInt64 M1) hS h)) (fun v2 M1 h => ?_)
      obtain ⟨hS3, h⟩ := h
      refine sm_w.run t219 sr219 13 1 (M2 := M1) (f2 := (24, [some (.ref 116), some (.int (x1)), some (.int (x2))], [.long (v2.toInt64)])) rfl ⟨trivial, trivial⟩ ?_
      exact sm_w.end t219 sr219 14 (o := .returned (some (.long (v2.toInt64)))) (M2 := M1) rfl trivial (by decide) (⟨_, rfl, h⟩)
    · have h := h.2 hc
      refine sm_w.run t219 sr219 15 4 (M2 := M) (f2 := (if x1 < (iV M 116 64) then 40 else 33, [some (.ref 116), some (.int (x1)), some (.int (x2))], [])) rfl ⟨trivial, trivial, sm_K.g (k_116 hS) (sm_sh.rf _), trivial, trivial⟩ ?_
      refine sm_w.ite (fun hc => ?_) (fun hc => ?_)
      · have h := h.1 hc
        refine sm_w.run t219 sr219 24 5 (M2 := M) (f2 := (45, [some (.ref 116), some (.int (x1)), some (.int (x2))], [.int (x1), .ref 116, .long ((0 : Int64)), .long (x2.toInt64)])) rfl ⟨trivial, trivial, trivial, trivial, trivial, trivial⟩ ?_
        refine sm_w.cI t219 sr219 29 (i := 218) (as := [.ref 116, .int (x1)]) (g := (45, [some (.ref 116), some (.int (x1)), some (.int (x2))], [.long ((0 : Int64)), .long (x2.toInt64)])) rfl ⟨by decide, by decide, (Nat.le_of_ble_eq_true rfl), (sm_K.g (k_116 hS) (sm_sh.rf _)).1, (sm_K.g (k_116 hS) (sm_sh.rf _)).2, (Nat.le_of_ble_eq_true rfl)⟩ (Nat.le_of_ble_eq_true rfl) (by decide) (sm_cI.s (by decide) hS h) (fun v7 M6 h => ?_)
        obtain ⟨hS8, h⟩ := h
        refine sm_w.run t219 sr219 30 3 (M2 := M6) (f2 := (51, [some (.ref 116), some (.int (x1)), some (.int (x2))], [.long ((v7 - (1 : Int32)).toInt64), .long ((0 : Int64)), .long (x2.toInt64)])) rfl ⟨trivial, trivial, trivial, trivial⟩ ?_
        refine sm_w.cI t219 sr219 33 (i := 166) (as := [.long (x2.toInt64), .long ((0 : Int64)), .long ((v7 - (1 : Int32)).toInt64)]) (g := (51, [some (.ref 116), some (.int (x1)), some (.int (x2))], [])) rfl ⟨(Nat.le_of_ble_eq_true rfl), (Nat.le_of_ble_eq_true rfl)⟩ (Nat.le_of_ble_eq_true rfl) (by decide) (p166_c hS8) (fun vz M2 hz => ?_)
        obtain ⟨hz1, hz2⟩ := hz
        subst hz1
        have hz2 := hz2.symm
        subst hz2
        refine sm_w.run t219 sr219 34 1 (M2 := M6) (f2 := (if (p166_0 M6 x2.toInt64 (0 : Int64) ((v7 - (1 : Int32)).toInt64)) = 0 then 57 else 64, [some (.ref 116), some (.int (x1)), some (.int (x2))], [])) rfl ⟨trivial, trivial⟩ ?_
        refine sm_w.ite (fun hc => ?_) (fun hc => ?_)
        · have h := h.1 hc
          refine sm_w.run t219 sr219 35 2 (M2 := M6) (f2 := (59, [some (.ref 116), some (.int (x1)), some (.int (x2))], [.int ((3 : Int32)), .ref 116])) rfl ⟨trivial, trivial, trivial⟩ ?_
          refine sm_w.cI t219 sr219 37 (i := 163) (as := [.ref 116, .int ((3 : Int32))]) (g := (59, [some (.ref 116), some (.int (x1)), some (.int (x2))], [])) rfl ⟨by decide, by decide, (Nat.le_of_ble_eq_true rfl), (sm_K.g (k_116 hS8) (sm_sh.rf _)).1, (sm_K.g (k_116 hS8) (sm_sh.rf _)).2, (Nat.le_of_ble_eq_true rfl)⟩ (Nat.le_of_ble_eq_true rfl) (by decide) (sm_cI.s2 (by decide) hS8 (g163_0 (K := fun v10 M9 => K v10.toInt64 M9) hS8 h)) (fun v10 M9 h => ?_)
          obtain ⟨hS11, h⟩ := h
          refine sm_w.run t219 sr219 38 1 (M2 := M9) (f2 := (63, [some (.ref 116), some (.int (x1)), some (.int (x2))], [.long (v10.toInt64)])) rfl ⟨trivial, trivial⟩ ?_
          exact sm_w.end t219 sr219 39 (o := .returned (some (.long (v10.toInt64)))) (M2 := M9) rfl trivial (by decide) (⟨_, rfl, h⟩)
        · have h := h.2 hc
          refine sm_w.run t219 sr219 40 3 (M2 := sm_wI M6 116 0 (0 : Int32)) (f2 := (69, [some (.ref 116), some (.int (x1)), some (.int (x2))], [])) rfl ⟨trivial, trivial, ⟨(sm_K.p (k_116 hS8) (sm_sh.rf _)).1, (sm_K.p (k_116 hS8) (sm_sh.rf _)).2.1, (sm_K.p (k_116 hS8) (sm_sh.rf _)).2.2, Or.inl rfl⟩, trivial⟩ ?_
          have hS15 : SH (sm_wI M6 116 0 (0 : Int32)) := SH.wI hS8 _ _ _
          have h := h _ hS15 rfl
          generalize sm_wI M6 116 0 (0 : Int32) = M14 at h hS15 ⊢
          refine sm_w.run t219 sr219 43 3 (M2 := M14) (f2 := (72, [some (.ref 116), some (.int (x1)), some (.int (x2))], [.int (x2), .int (x1), .ref 116])) rfl ⟨trivial, trivial, trivial, trivial⟩ ?_
          refine sm_w.cJ t219 sr219 46 (i := 217) (as := [.ref 116, .int (x1), .int (x2)]) (g := (72, [some (.ref 116), some (.int (x1)), some (.int (x2))], [])) rfl ⟨by decide, by decide, (Nat.le_of_ble_eq_true rfl), (sm_K.g (k_116 hS15) (sm_sh.rf _)).1, (sm_K.g (k_116 hS15) (sm_sh.rf _)).2, (Nat.le_of_ble_eq_true rfl)⟩ (Nat.le_of_ble_eq_true rfl) (by decide) (sm_cJ.s (by decide) hS15 h) (fun v17 M16 h => ?_)
          obtain ⟨hS18, h⟩ := h
          exact sm_w.end t219 sr219 47 (o := .returned (some (.long (v17)))) (M2 := M16) rfl trivial (by decide) (⟨_, rfl, h⟩)
      · have h := h.2 hc
        refine sm_w.run t219 sr219 19 2 (M2 := M) (f2 := (35, [some (.ref 116), some (.int (x1)), some (.int (x2))], [.int ((1 : Int32)), .ref 116])) rfl ⟨trivial, trivial, trivial⟩ ?_
        refine sm_w.cI t219 sr219 21 (i := 163) (as := [.ref 116, .int ((1 : Int32))]) (g := (35, [some (.ref 116), some (.int (x1)), some (.int (x2))], [])) rfl ⟨by decide, by decide, (Nat.le_of_ble_eq_true rfl), (sm_K.g (k_116 hS) (sm_sh.rf _)).1, (sm_K.g (k_116 hS) (sm_sh.rf _)).2, (Nat.le_of_ble_eq_true rfl)⟩ (Nat.le_of_ble_eq_true rfl) (by decide) (sm_cI.s2 (by decide) hS (g163_0 (K := fun v20 M19 => K v20.toInt64 M19) hS h)) (fun v20 M19 h => ?_)
        obtain ⟨hS21, h⟩ := h
        refine sm_w.run t219 sr219 22 1 (M2 := M19) (f2 := (39, [some (.ref 116), some (.int (x1)), some (.int (x2))], [.long (v20.toInt64)])) rfl ⟨trivial, trivial⟩ ?_
        exact sm_w.end t219 sr219 23 (o := .returned (some (.long (v20.toInt64)))) (M2 := M19) rfl trivial (by decide) (⟨_, rfl, h⟩)
  · have h := h.2 hc
    refine sm_w.run t219 sr219 2 2 (M2 := M) (f2 := (6, [some (.ref 116), some (.int (x1)), some (.int (x2))], [.int ((1 : Int32)), .ref 116])) rfl ⟨trivial, trivial, trivial⟩ ?_
    refine sm_w.cI t219 sr219 4 (i := 163) (as := [.ref 116, .int ((1 : Int32))]) (g := (6, [some (.ref 116), some (.int (x1)), some (.int (x2))], [])) rfl ⟨by decide, by decide, (Nat.le_of_ble_eq_true rfl), (sm_K.g (k_116 hS) (sm_sh.rf _)).1, (sm_K.g (k_116 hS) (sm_sh.rf _)).2, (Nat.le_of_ble_eq_true rfl)⟩ (Nat.le_of_ble_eq_true rfl) (by decide) (sm_cI.s2 (by decide) hS (g163_0 (K := fun v25 M24 => K v25.toInt64 M24) hS h)) (fun v25 M24 h => ?_)
    obtain ⟨hS26, h⟩ := h
    refine sm_w.run t219 sr219 5 1 (M2 := M24) (f2 := (10, [some (.ref 116), some (.int (x1)), some (.int (x2))], [.long (v25.toInt64)])) rfl ⟨trivial, trivial⟩ ?_
    exact sm_w.end t219 sr219 6 (o := .returned (some (.long (v25.toInt64)))) (M2 := M24) rfl trivial (by decide) (⟨_, rfl, h⟩)
-- 220 LineSetterModel.text(I)I
theorem t220 : sP 220 = (5, sp_220, sh_220) := rfl
theorem sr220 : sm_srt sp_220 = true := by decide +kernel
theorem g220_0 {M : sm_M} {x1 : Int32} {K : Int32 → sm_M → Prop} (hS : SH M)  (h : ((0 ≤ x1 → (((iV M 116 59) = 0 → ∀ M4, SH M4 → M4 = sm_wI M 116 0 (2 : Int32) → K (0 : Int32) M4) ∧ (¬ (iV M 116 59) = 0 → ((x1 < (iV M 116 64) → ∀ M6, SH M6 → M6 = sm_wI M 116 0 (0 : Int32) → (vp_in x1 602) ∧ (((iV M6 161 x1.toNatClampNeg) = 0 → ∀ M9, SH M9 → M9 = sm_wI M6 116 6 (0 : Int32) → sm_w 220 (87, [some (.ref 116), some (.int (x1)), none, none, some (.int ((0 : Int32)))], []) M9 (rI K)) ∧ (¬ (iV M6 161 x1.toNatClampNeg) = 0 → (vp_in (iV M6 161 x1.toNatClampNeg) 602) ∧ (vp_in (iV M6 161 x1.toNatClampNeg) 602) ∧ (((iV M6 150 (iV M6 161 x1.toNatClampNeg).toNatClampNeg) = 0 → ∀ M13, SH M13 → M13 = sm_wI M6 116 6 (0 : Int32) → sm_w 220 (87, [some (.ref 116), some (.int (x1)), none, none, some (.int ((iV M6 151 (iV M6 161 x1.toNatClampNeg).toNatClampNeg) + (1 : Int32)))], []) M13 (rI K)) ∧ (¬ (iV M6 150 (iV M6 161 x1.toNatClampNeg).toNatClampNeg) = 0 → ∀ M15, SH M15 → M15 = sm_wI M6 116 6 (0 : Int32) → sm_w 220 (87, [some (.ref 116), some (.int (x1)), none, none, some (.int ((iV M6 151 (iV M6 161 x1.toNatClampNeg).toNatClampNeg) + (0 : Int32)))], []) M15 (rI K)))))) ∧ (¬ x1 < (iV M 116 64) → ∀ M20, SH M20 → M20 = sm_wI M 116 0 (1 : Int32) → K (0 : Int32) M20))))) ∧ (¬ 0 ≤ x1 → ∀ M25, SH M25 → M25 = sm_wI M 116 0 (1 : Int32) → K (0 : Int32) M25))) : sm_w 220 (sm_in sP 220 [.ref 116, .int (x1)]) M (rI K) := by
  show sm_w 220 (0, [some (.ref 116), some (.int (x1)), none, none, none], []) M (rI K)
  refine sm_w.run t220 sr220 0 2 (M2 := M) (f2 := (if 0 ≤ x1 then 10 else 4, [some (.ref 116), some (.int (x1)), none, none, none], [])) rfl ⟨trivial, trivial, trivial⟩ ?_
  refine sm_w.ite (fun hc => ?_) (fun hc => ?_)
  · have h := h.1 hc
    refine sm_w.run t220 sr220 6 3 (M2 := M) (f2 := (if (iV M 116 59) = 0 then 17 else 23, [some (.ref 116), some (.int (x1)), none, none, none], [])) rfl ⟨trivial, sm_K.g (k_116 hS) (sm_sh.rf _), trivial, trivial⟩ ?_
    refine sm_w.ite (fun hc => ?_) (fun hc => ?_)
    · have h := h.1 hc
      refine sm_w.run t220 sr220 9 2 (M2 := M) (f2 := (19, [some (.ref 116), some (.int (x1)), none, none, none], [.int ((2 : Int32)), .ref 116])) rfl ⟨trivial, trivial, trivial⟩ ?_
      refine sm_w.cI t220 sr220 11 (i := 163) (as := [.ref 116, .int ((2 : Int32))]) (g := (19, [some (.ref 116), some (.int (x1)), none, none, none], [])) rfl ⟨by decide, by decide, (Nat.le_of_ble_eq_true rfl), (sm_K.g (k_116 hS) (sm_sh.rf _)).1, (sm_K.g (k_116 hS) (sm_sh.rf _)).2, (Nat.le_of_ble_eq_true rfl)⟩ (Nat.le_of_ble_eq_true rfl) (by decide) (sm_cI.s2 (by decide) hS (g163_0 (K := fun v2 M1 => K v2 M1) hS h)) (fun v2 M1 h => ?_)
      obtain ⟨hS3, h⟩ := h
      exact sm_w.end t220 sr220 12 (o := .returned (some (.int (v2)))) (M2 := M1) rfl rfl (by decide) (⟨_, rfl, h⟩)
    · have h := h.2 hc
      refine sm_w.run t220 sr220 13 4 (M2 := M) (f2 := (if x1 < (iV M 116 64) then 37 else 31, [some (.ref 116), some (.int (x1)), none, none, none], [])) rfl ⟨trivial, trivial, sm_K.g (k_116 hS) (sm_sh.rf _), trivial, trivial⟩ ?_
      refine sm_w.ite (fun hc => ?_) (fun hc => ?_)
      · have h := h.1 hc
        refine sm_w.run t220 sr220 21 3 (M2 := sm_wI M 116 0 (0 : Int32)) (f2 := (42, [some (.ref 116), some (.int (x1)), none, none, none], [])) rfl ⟨trivial, trivial, ⟨(sm_K.p (k_116 hS) (sm_sh.rf _)).1, (sm_K.p (k_116 hS) (sm_sh.rf _)).2.1, (sm_K.p (k_116 hS) (sm_sh.rf _)).2.2, Or.inl rfl⟩, trivial⟩ ?_
        have hS7 : SH (sm_wI M 116 0 (0 : Int32)) := SH.wI hS _ _ _
        have h := h _ hS7 rfl
        generalize sm_wI M 116 0 (0 : Int32) = M6 at h hS7 ⊢
        refine sm_w.run t220 sr220 24 2 (M2 := M6) (f2 := (46, [some (.ref 116), some (.int (x1)), none, none, none], [va_rf (sm_rv M6 116 89)])) rfl ⟨trivial, sm_K.g (k_116 hS7) (sm_sh.rf _), trivial⟩ ?_
        refine sm_w.fld (r_116_89 hS7) ?_
        obtain ⟨c8, h⟩ := h
        refine sm_w.run t220 sr220 26 5 (M2 := M6) (f2 := (if (iV M6 161 x1.toNatClampNeg) = 0 then 53 else 57, [some (.ref 116), some (.int (x1)), some (.int (iV M6 161 x1.toNatClampNeg)), none, none], [])) rfl ⟨trivial, sm_K.a2 (k_161 hS7) (l_161 hS7) c8, (Nat.le_of_ble_eq_true rfl), trivial, trivial, trivial⟩ ?_
        refine sm_w.ite (fun hc => ?_) (fun hc => ?_)
        · have h := h.1 hc
          refine sm_w.run t220 sr220 31 2 (M2 := M6) (f2 := (78, [some (.ref 116), some (.int (x1)), some (.int (iV M6 161 x1.toNatClampNeg)), none, none], [.int ((0 : Int32))])) rfl ⟨trivial, trivial, trivial⟩ ?_
          refine sm_w.run t220 sr220 46 4 (M2 := sm_wI M6 116 6 (0 : Int32)) (f2 := (84, [some (.ref 116), some (.int (x1)), some (.int (iV M6 161 x1.toNatClampNeg)), some (.int ((0 : Int32))), none], [])) rfl ⟨(Nat.le_of_ble_eq_true rfl), trivial, trivial, ⟨(sm_K.p (k_116 hS7) (sm_sh.rf _)).1, (sm_K.p (k_116 hS7) (sm_sh.rf _)).2.1, (sm_K.p (k_116 hS7) (sm_sh.rf _)).2.2, Or.inl rfl⟩, trivial⟩ ?_
          have hS10 : SH (sm_wI M6 116 6 (0 : Int32)) := SH.wI hS7 _ _ _
          have h := h _ hS10 rfl
          generalize sm_wI M6 116 6 (0 : Int32) = M9 at h hS10 ⊢
          refine sm_w.run t220 sr220 50 2 (M2 := M9) (f2 := (87, [some (.ref 116), some (.int (x1)), some (.int (iV M6 161 x1.toNatClampNeg)), some (.int ((0 : Int32))), some (.int ((0 : Int32)))], [])) rfl ⟨trivial, (Nat.le_of_ble_eq_true rfl), trivial⟩ ?_
          refine sm_w.weak (ls := [some (.ref 116), some (.int (x1)), none, none, some (.int ((0 : Int32)))]) (sm_leI [true, true, false, false, true] rfl) ?_
          exact h
        · have h := h.2 hc
          refine sm_w.run t220 sr220 33 2 (M2 := M6) (f2 := (61, [some (.ref 116), some (.int (x1)), some (.int (iV M6 161 x1.toNatClampNeg)), none, none], [va_rf (sm_rv M6 116 71)])) rfl ⟨trivial, sm_K.g (k_116 hS7) (sm_sh.rf _), trivial⟩ ?_
          refine sm_w.fld (r_116_71 hS7) ?_
          obtain ⟨c11, h⟩ := h
          refine sm_w.run t220 sr220 35 4 (M2 := M6) (f2 := (67, [some (.ref 116), some (.int (x1)), some (.int (iV M6 161 x1.toNatClampNeg)), none, none], [va_rf (sm_rv M6 116 70), .int (iV M6 151 (iV M6 161 x1.toNatClampNeg).toNatClampNeg)])) rfl ⟨trivial, sm_K.a2 (k_151 hS7) (l_151 hS7) c11, trivial, sm_K.g (k_116 hS7) (sm_sh.rf _), trivial⟩ ?_
          refine sm_w.fld (r_116_70 hS7) ?_
          obtain ⟨c12, h⟩ := h
          refine sm_w.run t220 sr220 39 3 (M2 := M6) (f2 := (if (iV M6 150 (iV M6 161 x1.toNatClampNeg).toNatClampNeg) = 0 then 72 else 76, [some (.ref 116), some (.int (x1)), some (.int (iV M6 161 x1.toNatClampNeg)), none, none], [.int (iV M6 151 (iV M6 161 x1.toNatClampNeg).toNatClampNeg)])) rfl ⟨trivial, sm_K.a2 (k_150 hS7) (l_150 hS7) c12, trivial, trivial⟩ ?_
          refine sm_w.ite (fun hc => ?_) (fun hc => ?_)
          · have h := h.1 hc
            refine sm_w.run t220 sr220 42 2 (M2 := M6) (f2 := (77, [some (.ref 116), some (.int (x1)), some (.int (iV M6 161 x1.toNatClampNeg)), none, none], [.int ((1 : Int32)), .int (iV M6 151 (iV M6 161 x1.toNatClampNeg).toNatClampNeg)])) rfl ⟨trivial, trivial, trivial⟩ ?_
            refine sm_w.run t220 sr220 45 5 (M2 := sm_wI M6 116 6 (0 : Int32)) (f2 := (84, [some (.ref 116), some (.int (x1)), some (.int (iV M6 161 x1.toNatClampNeg)), some (.int ((iV M6 151 (iV M6 161 x1.toNatClampNeg).toNatClampNeg) + (1 : Int32))), none], [])) rfl ⟨trivial, (Nat.le_of_ble_eq_true rfl), trivial, trivial, ⟨(sm_K.p (k_116 hS7) (sm_sh.rf _)).1, (sm_K.p (k_116 hS7) (sm_sh.rf _)).2.1, (sm_K.p (k_116 hS7) (sm_sh.rf _)).2.2, Or.inl rfl⟩, trivial⟩ ?_
            have hS14 : SH (sm_wI M6 116 6 (0 : Int32)) := SH.wI hS7 _ _ _
            have h := h _ hS14 rfl
            generalize sm_wI M6 116 6 (0 : Int32) = M13 at h hS14 ⊢
            refine sm_w.run t220 sr220 50 2 (M2 := M13) (f2 := (87, [some (.ref 116), some (.int (x1)), some (.int (iV M6 161 x1.toNatClampNeg)), some (.int ((iV M6 151 (iV M6 161 x1.toNatClampNeg).toNatClampNeg) + (1 : Int32))), some (.int ((iV M6 151 (iV M6 161 x1.toNatClampNeg).toNatClampNeg) + (1 : Int32)))], [])) rfl ⟨trivial, (Nat.le_of_ble_eq_true rfl), trivial⟩ ?_
            refine sm_w.weak (ls := [some (.ref 116), some (.int (x1)), none, none, some (.int ((iV M6 151 (iV M6 161 x1.toNatClampNeg).toNatClampNeg) + (1 : Int32)))]) (sm_leI [true, true, false, false, true] rfl) ?_
            exact h
          · have h := h.2 hc
            refine sm_w.run t220 sr220 44 6 (M2 := sm_wI M6 116 6 (0 : Int32)) (f2 := (84, [some (.ref 116), some (.int (x1)), some (.int (iV M6 161 x1.toNatClampNeg)), some (.int ((iV M6 151 (iV M6 161 x1.toNatClampNeg).toNatClampNeg) + (0 : Int32))), none], [])) rfl ⟨trivial, trivial, (Nat.le_of_ble_eq_true rfl), trivial, trivial, ⟨(sm_K.p (k_116 hS7) (sm_sh.rf _)).1, (sm_K.p (k_116 hS7) (sm_sh.rf _)).2.1, (sm_K.p (k_116 hS7) (sm_sh.rf _)).2.2, Or.inl rfl⟩, trivial⟩ ?_
            have hS16 : SH (sm_wI M6 116 6 (0 : Int32)) := SH.wI hS7 _ _ _
            have h := h _ hS16 rfl
            generalize sm_wI M6 116 6 (0 : Int32) = M15 at h hS16 ⊢
            refine sm_w.run t220 sr220 50 2 (M2 := M15) (f2 := (87, [some (.ref 116), some (.int (x1)), some (.int (iV M6 161 x1.toNatClampNeg)), some (.int ((iV M6 151 (iV M6 161 x1.toNatClampNeg).toNatClampNeg) + (0 : Int32))), some (.int ((iV M6 151 (iV M6 161 x1.toNatClampNeg).toNatClampNeg) + (0 : Int32)))], [])) rfl ⟨trivial, (Nat.le_of_ble_eq_true rfl), trivial⟩ ?_
            refine sm_w.weak (ls := [some (.ref 116), some (.int (x1)), none, none, some (.int ((iV M6 151 (iV M6 161 x1.toNatClampNeg).toNatClampNeg) + (0 : Int32)))]) (sm_leI [true, true, false, false, true] rfl) ?_
            exact h
      · have h := h.2 hc
        refine sm_w.run t220 sr220 17 2 (M2 := M) (f2 := (33, [some (.ref 116), some (.int (x1)), none, none, none], [.int ((1 : Int32)), .ref 116])) rfl ⟨trivial, trivial, trivial⟩ ?_
        refine sm_w.cI t220 sr220 19 (i := 163) (as := [.ref 116, .int ((1 : Int32))]) (g := (33, [some (.ref 116), some (.int (x1)), none, none, none], [])) rfl ⟨by decide, by decide, (Nat.le_of_ble_eq_true rfl), (sm_K.g (k_116 hS) (sm_sh.rf _)).1, (sm_K.g (k_116 hS) (sm_sh.rf _)).2, (Nat.le_of_ble_eq_true rfl)⟩ (Nat.le_of_ble_eq_true rfl) (by decide) (sm_cI.s2 (by decide) hS (g163_0 (K := fun v18 M17 => K v18 M17) hS h)) (fun v18 M17 h => ?_)
        obtain ⟨hS19, h⟩ := h
        exact sm_w.end t220 sr220 20 (o := .returned (some (.int (v18)))) (M2 := M17) rfl rfl (by decide) (⟨_, rfl, h⟩)
  · have h := h.2 hc
    refine sm_w.run t220 sr220 2 2 (M2 := M) (f2 := (6, [some (.ref 116), some (.int (x1)), none, none, none], [.int ((1 : Int32)), .ref 116])) rfl ⟨trivial, trivial, trivial⟩ ?_
    refine sm_w.cI t220 sr220 4 (i := 163) (as := [.ref 116, .int ((1 : Int32))]) (g := (6, [some (.ref 116), some (.int (x1)), none, none, none], [])) rfl ⟨by decide, by decide, (Nat.le_of_ble_eq_true rfl), (sm_K.g (k_116 hS) (sm_sh.rf _)).1, (sm_K.g (k_116 hS) (sm_sh.rf _)).2, (Nat.le_of_ble_eq_true rfl)⟩ (Nat.le_of_ble_eq_true rfl) (by decide) (sm_cI.s2 (by decide) hS (g163_0 (K := fun v23 M22 => K v23 M22) hS h)) (fun v23 M22 h => ?_)
    obtain ⟨hS24, h⟩ := h
    exact sm_w.end t220 sr220 5 (o := .returned (some (.int (v23)))) (M2 := M22) rfl rfl (by decide) (⟨_, rfl, h⟩)
theorem g220_1 {M : sm_M} {x1 : Int32} {x4 : Int32} {K : Int32 → sm_M → Prop} (hS : SH M)  (h : (vp_in x1 602) ∧ (vp_in (iV M 162 x1.toNatClampNeg) 602) ∧ (((iV M 151 (iV M 162 x1.toNatClampNeg).toNatClampNeg) ≤ x4 → (vp_in x1 602) ∧ (vp_in (iV M 162 x1.toNatClampNeg) 602) ∧ (((iV M 150 (iV M 162 x1.toNatClampNeg).toNatClampNeg) = (1 : Int32) → (vp_in (iV M 116 6) 6001) ∧ ∀ M6, SH M6 → M6 = sm_wI M 119 (iV M 116 6).toNatClampNeg (45 : Int32) → ∀ M8, SH M8 → M8 = sm_wI M6 116 6 ((iV M6 116 6) + (1 : Int32)) → K (iV M8 116 6) M8) ∧ (¬ (iV M 150 (iV M 162 x1.toNatClampNeg).toNatClampNeg) = (1 : Int32) → K (iV M 116 6) M))) ∧ (¬ (iV M 151 (iV M 162 x1.toNatClampNeg).toNatClampNeg) ≤ x4 → (vp_in x4 4001) ∧ (vp_in (iV M 116 6) 6001) ∧ ∀ M12, SH M12 → M12 = sm_wI M 119 (iV M 116 6).toNatClampNeg (iV M 149 x4.toNatClampNeg) → ∀ M14, SH M14 → M14 = sm_wI M12 116 6 ((iV M12 116 6) + (1 : Int32)) → sm_w 220 (87, [some (.ref 116), some (.int (x1)), none, none, some (.int (x4 + (1 : Int32)))], []) M14 (rI K)))) : sm_w 220 (87, [some (.ref 116), some (.int (x1)), none, none, some (.int (x4))], []) M (rI K) := by
  refine sm_w.run t220 sr220 52 3 (M2 := M) (f2 := (93, [some (.ref 116), some (.int (x1)), none, none, some (.int (x4))], [va_rf (sm_rv M 116 71), .int (x4)])) rfl ⟨trivial, trivial, sm_K.g (k_116 hS) (sm_sh.rf _), trivial⟩ ?_
  refine sm_w.fld (r_116_71 hS) ?_
  refine sm_w.run t220 sr220 55 2 (M2 := M) (f2 := (97, [some (.ref 116), some (.int (x1)), none, none, some (.int (x4))], [va_rf (sm_rv M 116 90), .ref 151, .int (x4)])) rfl ⟨trivial, sm_K.g (k_116 hS) (sm_sh.rf _), trivial⟩ ?_
  refine sm_w.fld (r_116_90 hS) ?_
  obtain ⟨c1, c2, h⟩ := h
  refine sm_w.run t220 sr220 57 4 (M2 := M) (f2 := (if (iV M 151 (iV M 162 x1.toNatClampNeg).toNatClampNeg) ≤ x4 then 135 else 103, [some (.ref 116), some (.int (x1)), none, none, some (.int (x4))], [])) rfl ⟨trivial, sm_K.a2 (k_162 hS) (l_162 hS) c1, sm_K.a2 (k_151 hS) (l_151 hS) c2, trivial, trivial⟩ ?_
  refine sm_w.ite (fun hc => ?_) (fun hc => ?_)
  · have h := h.1 hc
    refine sm_w.run t220 sr220 78 2 (M2 := M) (f2 := (139, [some (.ref 116), some (.int (x1)), none, none, some (.int (x4))], [va_rf (sm_rv M 116 70)])) rfl ⟨trivial, sm_K.g (k_116 hS) (sm_sh.rf _), trivial⟩ ?_
    refine sm_w.fld (r_116_70 hS) ?_
    refine sm_w.run t220 sr220 80 2 (M2 := M) (f2 := (143, [some (.ref 116), some (.int (x1)), none, none, some (.int (x4))], [va_rf (sm_rv M 116 90), .ref 150])) rfl ⟨trivial, sm_K.g (k_116 hS) (sm_sh.rf _), trivial⟩ ?_
    refine sm_w.fld (r_116_90 hS) ?_
    obtain ⟨c3, c4, h⟩ := h
    refine sm_w.run t220 sr220 82 5 (M2 := M) (f2 := (if (iV M 150 (iV M 162 x1.toNatClampNeg).toNatClampNeg) = (1 : Int32) then 150 else 171, [some (.ref 116), some (.int (x1)), none, none, some (.int (x4))], [])) rfl ⟨trivial, sm_K.a2 (k_162 hS) (l_162 hS) c3, sm_K.a2 (k_150 hS) (l_150 hS) c4, trivial, trivial, trivial⟩ ?_
    refine sm_w.ite (fun hc => ?_) (fun hc => ?_)
    · have h := h.1 hc
      refine sm_w.run t220 sr220 87 2 (M2 := M) (f2 := (154, [some (.ref 116), some (.int (x1)), none, none, some (.int (x4))], [va_rf (sm_rv M 116 5)])) rfl ⟨trivial, sm_K.g (k_116 hS) (sm_sh.rf _), trivial⟩ ?_
      refine sm_w.fld (r_116_5 hS) ?_
      obtain ⟨c5, h⟩ := h
      refine sm_w.run t220 sr220 89 4 (M2 := sm_wI M 119 (iV M 116 6).toNatClampNeg (45 : Int32)) (f2 := (161, [some (.ref 116), some (.int (x1)), none, none, some (.int (x4))], [])) rfl ⟨trivial, sm_K.g (k_116 hS) (sm_sh.rf _), trivial, sm_K.s2 (k_119 hS) (l_119 hS) c5, trivial⟩ ?_
      have hS7 : SH (sm_wI M 119 (iV M 116 6).toNatClampNeg (45 : Int32)) := SH.wI hS _ _ _
      have h := h _ hS7 rfl
      generalize sm_wI M 119 (iV M 116 6).toNatClampNeg (45 : Int32) = M6 at h hS7 ⊢
      refine sm_w.run t220 sr220 93 6 (M2 := sm_wI M6 116 6 ((iV M6 116 6) + (1 : Int32))) (f2 := (171, [some (.ref 116), some (.int (x1)), none, none, some (.int (x4))], [])) rfl ⟨trivial, rfl, sm_K.g (k_116 hS7) (sm_sh.rf _), trivial, trivial, ⟨(sm_K.p (k_116 hS7) (sm_sh.rf _)).1, (sm_K.p (k_116 hS7) (sm_sh.rf _)).2.1, (sm_K.p (k_116 hS7) (sm_sh.rf _)).2.2, Or.inl rfl⟩, trivial⟩ ?_
      have hS9 : SH (sm_wI M6 116 6 ((iV M6 116 6) + (1 : Int32))) := SH.wI hS7 _ _ _
      have h := h _ hS9 rfl
      generalize sm_wI M6 116 6 ((iV M6 116 6) + (1 : Int32)) = M8 at h hS9 ⊢
      refine sm_w.run t220 sr220 99 2 (M2 := M8) (f2 := (175, [some (.ref 116), some (.int (x1)), none, none, some (.int (x4))], [.int (iV M8 116 6)])) rfl ⟨trivial, sm_K.g (k_116 hS9) (sm_sh.rf _), trivial⟩ ?_
      exact sm_w.end t220 sr220 101 (o := .returned (some (.int (iV M8 116 6)))) (M2 := M8) rfl rfl (by decide) (⟨_, rfl, h⟩)
    · have h := h.2 hc
      refine sm_w.run t220 sr220 99 2 (M2 := M) (f2 := (175, [some (.ref 116), some (.int (x1)), none, none, some (.int (x4))], [.int (iV M 116 6)])) rfl ⟨trivial, sm_K.g (k_116 hS) (sm_sh.rf _), trivial⟩ ?_
      exact sm_w.end t220 sr220 101 (o := .returned (some (.int (iV M 116 6)))) (M2 := M) rfl rfl (by decide) (⟨_, rfl, h⟩)
  · have h := h.2 hc
    refine sm_w.run t220 sr220 61 2 (M2 := M) (f2 := (107, [some (.ref 116), some (.int (x1)), none, none, some (.int (x4))], [va_rf (sm_rv M 116 5)])) rfl ⟨trivial, sm_K.g (k_116 hS) (sm_sh.rf _), trivial⟩ ?_
    refine sm_w.fld (r_116_5 hS) ?_
    refine sm_w.run t220 sr220 63 4 (M2 := M) (f2 := (115, [some (.ref 116), some (.int (x1)), none, none, some (.int (x4))], [va_rf (sm_rv M 116 68), .int (iV M 116 6), .ref 119])) rfl ⟨trivial, sm_K.g (k_116 hS) (sm_sh.rf _), trivial, sm_K.g (k_116 hS) (sm_sh.rf _), trivial⟩ ?_
    refine sm_w.fld (r_116_68 hS) ?_
    obtain ⟨c10, c11, h⟩ := h
    refine sm_w.run t220 sr220 67 3 (M2 := sm_wI M 119 (iV M 116 6).toNatClampNeg (iV M 149 x4.toNatClampNeg)) (f2 := (119, [some (.ref 116), some (.int (x1)), none, none, some (.int (x4))], [])) rfl ⟨trivial, sm_K.a2 (k_149 hS) (l_149 hS) c10, sm_K.s2 (k_119 hS) (l_119 hS) c11, trivial⟩ ?_
    have hS13 : SH (sm_wI M 119 (iV M 116 6).toNatClampNeg (iV M 149 x4.toNatClampNeg)) := SH.wI hS _ _ _
    have h := h _ hS13 rfl
    generalize sm_wI M 119 (iV M 116 6).toNatClampNeg (iV M 149 x4.toNatClampNeg) = M12 at h hS13 ⊢
    refine sm_w.run t220 sr220 70 6 (M2 := sm_wI M12 116 6 ((iV M12 116 6) + (1 : Int32))) (f2 := (129, [some (.ref 116), some (.int (x1)), none, none, some (.int (x4))], [])) rfl ⟨trivial, rfl, sm_K.g (k_116 hS13) (sm_sh.rf _), trivial, trivial, ⟨(sm_K.p (k_116 hS13) (sm_sh.rf _)).1, (sm_K.p (k_116 hS13) (sm_sh.rf _)).2.1, (sm_K.p (k_116 hS13) (sm_sh.rf _)).2.2, Or.inl rfl⟩, trivial⟩ ?_
    have hS15 : SH (sm_wI M12 116 6 ((iV M12 116 6) + (1 : Int32))) := SH.wI hS13 _ _ _
    have h := h _ hS15 rfl
    generalize sm_wI M12 116 6 ((iV M12 116 6) + (1 : Int32)) = M14 at h hS15 ⊢
    refine sm_w.run t220 sr220 76 2 (M2 := M14) (f2 := (87, [some (.ref 116), some (.int (x1)), none, none, some (.int (x4 + (1 : Int32)))], [])) rfl ⟨(Nat.le_of_ble_eq_true rfl), trivial, trivial⟩ ?_
    exact h
