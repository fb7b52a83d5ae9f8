/-! METHODS by their segments. -/
-- 207 LineSetterModel.oneLine(II)V
theorem t207 : sP 207 = (7, sp_207, sh_207) := rfl
theorem sr207 : sm_srt sp_207 = true := by decide +kernel
theorem g207_0 {M : sm_M} {x1 : Int32} {x2 : Int32} {K : sm_M → Prop} (hS : SH M)  (h : (vp_in x2 602) ∧ (((iV M 150 x2.toNatClampNeg) = 0 → (vp_in x2 602) ∧ sm_w 207 (19, [some (.ref 116), some (.int (x1)), some (.int (x2)), none, none, none, none], [.long (jV M 156 x2.toNatClampNeg)]) M (rV K)) ∧ (¬ (iV M 150 x2.toNatClampNeg) = 0 → sm_w 207 (19, [some (.ref 116), some (.int (x1)), some (.int (x2)), none, none, none, none], [.long ((0 : Int64))]) M (rV K)))) : sm_w 207 (sm_in sP 207 [.ref 116, .int (x1), .int (x2)]) M (rV K) := by
  show sm_w 207 (0, [some (.ref 116), some (.int (x1)), some (.int (x2)), none, none, none, none], []) M (rV K)
  refine sm_w.run t207 sr207 0 2 (M2 := M) (f2 := (4, [some (.ref 116), some (.int (x1)), some (.int (x2)), none, none, none, none], [va_rf (sm_rv M 116 70)])) rfl ⟨trivial, sm_K.g (k_116 hS) (sm_sh.rf _), trivial⟩ ?_
  refine sm_w.fld (r_116_70 hS) ?_
  obtain ⟨c1, h⟩ := h
  refine sm_w.run t207 sr207 2 3 (M2 := M) (f2 := (if (iV M 150 x2.toNatClampNeg) = 0 then 9 else 18, [some (.ref 116), some (.int (x1)), some (.int (x2)), none, none, none, none], [])) rfl ⟨trivial, sm_K.a2 (k_150 hS) (l_150 hS) c1, trivial, trivial⟩ ?_
  refine sm_w.ite (fun hc => ?_) (fun hc => ?_)
  · have h := h.1 hc
    refine sm_w.run t207 sr207 5 2 (M2 := M) (f2 := (13, [some (.ref 116), some (.int (x1)), some (.int (x2)), none, none, none, none], [va_rf (sm_rv M 116 76)])) rfl ⟨trivial, sm_K.g (k_116 hS) (sm_sh.rf _), trivial⟩ ?_
    refine sm_w.fld (r_116_76 hS) ?_
    obtain ⟨c2, h⟩ := h
    refine sm_w.run t207 sr207 7 3 (M2 := M) (f2 := (19, [some (.ref 116), some (.int (x1)), some (.int (x2)), none, none, none, none], [.long (jV M 156 x2.toNatClampNeg)])) rfl ⟨trivial, sm_K.a2 (k_156 hS) (l_156 hS) c2, trivial, trivial⟩ ?_
    exact h
  · have h := h.2 hc
    refine sm_w.run t207 sr207 10 1 (M2 := M) (f2 := (19, [some (.ref 116), some (.int (x1)), some (.int (x2)), none, none, none, none], [.long ((0 : Int64))])) rfl ⟨trivial, trivial⟩ ?_
    exact h
theorem g207_1 {M : sm_M} {x1 : Int32} {x2 : Int32} {s0 : Int64} {K : sm_M → Prop} (hS : SH M)  (h : (vp_in x2 602) ∧ (vp_in x1 602) ∧ (vp_in x2 602) ∧ (vp_in x1 602) ∧ (vp_in x2 602) ∧ (((iV M 150 x2.toNatClampNeg) = (1 : Int32) → (vp_in x2 602) ∧ sm_w 207 (70, [some (.ref 116), some (.int (x1)), some (.int (x2)), some (.long (s0)), none, none, none], [.long (jV M 156 x2.toNatClampNeg), .long (((((jV M 152 x2.toNatClampNeg) - (jV M 152 x1.toNatClampNeg)) + (jV M 153 x2.toNatClampNeg)) - s0) - (jV M 153 x1.toNatClampNeg)), .ref 116]) M (rV K)) ∧ (¬ (iV M 150 x2.toNatClampNeg) = (1 : Int32) → sm_w 207 (70, [some (.ref 116), some (.int (x1)), some (.int (x2)), some (.long (s0)), none, none, none], [.long ((0 : Int64)), .long (((((jV M 152 x2.toNatClampNeg) - (jV M 152 x1.toNatClampNeg)) + (jV M 153 x2.toNatClampNeg)) - s0) - (jV M 153 x1.toNatClampNeg)), .ref 116]) M (rV K)))) : sm_w 207 (19, [some (.ref 116), some (.int (x1)), some (.int (x2)), none, none, none, none], [.long (s0)]) M (rV K) := by
  refine sm_w.run t207 sr207 11 4 (M2 := M) (f2 := (25, [some (.ref 116), some (.int (x1)), some (.int (x2)), some (.long (s0)), none, none, none], [va_rf (sm_rv M 116 72), .ref 116])) rfl ⟨(Nat.le_of_ble_eq_true rfl), trivial, trivial, sm_K.g (k_116 hS) (sm_sh.rf _), trivial⟩ ?_
  refine sm_w.fld (r_116_72 hS) ?_
  obtain ⟨c1, h⟩ := h
  refine sm_w.run t207 sr207 15 4 (M2 := M) (f2 := (31, [some (.ref 116), some (.int (x1)), some (.int (x2)), some (.long (s0)), none, none, none], [va_rf (sm_rv M 116 72), .long (jV M 152 x2.toNatClampNeg), .ref 116])) rfl ⟨trivial, sm_K.a2 (k_152 hS) (l_152 hS) c1, trivial, sm_K.g (k_116 hS) (sm_sh.rf _), trivial⟩ ?_
  refine sm_w.fld (r_116_72 hS) ?_
  obtain ⟨c2, h⟩ := h
  refine sm_w.run t207 sr207 19 5 (M2 := M) (f2 := (38, [some (.ref 116), some (.int (x1)), some (.int (x2)), some (.long (s0)), none, none, none], [va_rf (sm_rv M 116 73), .long ((jV M 152 x2.toNatClampNeg) - (jV M 152 x1.toNatClampNeg)), .ref 116])) rfl ⟨trivial, sm_K.a2 (k_152 hS) (l_152 hS) c2, trivial, trivial, sm_K.g (k_116 hS) (sm_sh.rf _), trivial⟩ ?_
  refine sm_w.fld (r_116_73 hS) ?_
  obtain ⟨c3, h⟩ := h
  refine sm_w.run t207 sr207 24 7 (M2 := M) (f2 := (47, [some (.ref 116), some (.int (x1)), some (.int (x2)), some (.long (s0)), none, none, none], [va_rf (sm_rv M 116 73), .long ((((jV M 152 x2.toNatClampNeg) - (jV M 152 x1.toNatClampNeg)) + (jV M 153 x2.toNatClampNeg)) - s0), .ref 116])) rfl ⟨trivial, sm_K.a2 (k_153 hS) (l_153 hS) c3, trivial, trivial, trivial, trivial, sm_K.g (k_116 hS) (sm_sh.rf _), trivial⟩ ?_
  refine sm_w.fld (r_116_73 hS) ?_
  obtain ⟨c4, h⟩ := h
  refine sm_w.run t207 sr207 31 5 (M2 := M) (f2 := (54, [some (.ref 116), some (.int (x1)), some (.int (x2)), some (.long (s0)), none, none, none], [va_rf (sm_rv M 116 70), .long (((((jV M 152 x2.toNatClampNeg) - (jV M 152 x1.toNatClampNeg)) + (jV M 153 x2.toNatClampNeg)) - s0) - (jV M 153 x1.toNatClampNeg)), .ref 116])) rfl ⟨trivial, sm_K.a2 (k_153 hS) (l_153 hS) c4, trivial, trivial, sm_K.g (k_116 hS) (sm_sh.rf _), trivial⟩ ?_
  refine sm_w.fld (r_116_70 hS) ?_
  obtain ⟨c5, h⟩ := h
  refine sm_w.run t207 sr207 36 4 (M2 := M) (f2 := (if (iV M 150 x2.toNatClampNeg) = (1 : Int32) then 60 else 69, [some (.ref 116), some (.int (x1)), some (.int (x2)), some (.long (s0)), none, none, none], [.long (((((jV M 152 x2.toNatClampNeg) - (jV M 152 x1.toNatClampNeg)) + (jV M 153 x2.toNatClampNeg)) - s0) - (jV M 153 x1.toNatClampNeg)), .ref 116])) rfl ⟨trivial, sm_K.a2 (k_150 hS) (l_150 hS) c5, trivial, trivial, trivial⟩ ?_
  refine sm_w.ite (fun hc => ?_) (fun hc => ?_)
  · have h := h.1 hc
    refine sm_w.run t207 sr207 40 2 (M2 := M) (f2 := (64, [some (.ref 116), some (.int (x1)), some (.int (x2)), some (.long (s0)), none, none, none], [va_rf (sm_rv M 116 76), .long (((((jV M 152 x2.toNatClampNeg) - (jV M 152 x1.toNatClampNeg)) + (jV M 153 x2.toNatClampNeg)) - s0) - (jV M 153 x1.toNatClampNeg)), .ref 116])) rfl ⟨trivial, sm_K.g (k_116 hS) (sm_sh.rf _), trivial⟩ ?_
    refine sm_w.fld (r_116_76 hS) ?_
    obtain ⟨c6, h⟩ := h
    refine sm_w.run t207 sr207 42 3 (M2 := M) (f2 := (70, [some (.ref 116), some (.int (x1)), some (.int (x2)), some (.long (s0)), none, none, none], [.long (jV M 156 x2.toNatClampNeg), .long (((((jV M 152 x2.toNatClampNeg) - (jV M 152 x1.toNatClampNeg)) + (jV M 153 x2.toNatClampNeg)) - s0) - (jV M 153 x1.toNatClampNeg)), .ref 116])) rfl ⟨trivial, sm_K.a2 (k_156 hS) (l_156 hS) c6, trivial, trivial⟩ ?_
    exact h
  · have h := h.2 hc
    refine sm_w.run t207 sr207 45 1 (M2 := M) (f2 := (70, [some (.ref 116), some (.int (x1)), some (.int (x2)), some (.long (s0)), none, none, none], [.long ((0 : Int64)), .long (((((jV M 152 x2.toNatClampNeg) - (jV M 152 x1.toNatClampNeg)) + (jV M 153 x2.toNatClampNeg)) - s0) - (jV M 153 x1.toNatClampNeg)), .ref 116])) rfl ⟨trivial, trivial⟩ ?_
    exact h
theorem g207_2 {M : sm_M} {x1 : Int32} {x2 : Int32} {x3 : Int64} {s0 : Int64} {s1 : Int64} {K : sm_M → Prop} (hS : SH M)  (h : ∀ M1, SH M1 → M1 = sm_wJ M 116 78 (s1 + s0) → (vp_in x2 602) ∧ (vp_in x1 602) ∧ ∀ M5, SH M5 → M5 = sm_wJ M1 116 80 (((jV M1 154 x2.toNatClampNeg) - (x3 / (2 : Int64))) - (jV M1 154 x1.toNatClampNeg)) → (vp_in x2 602) ∧ (vp_in x1 602) ∧ ∀ M9, SH M9 → M9 = sm_wJ M5 116 81 (((jV M5 155 x2.toNatClampNeg) - (x3 / (3 : Int64))) - (jV M5 155 x1.toNatClampNeg)) → ∀ M11, SH M11 → M11 = sm_wJ M9 116 79 ((iV M9 116 60).toInt64) → ((x1 = 0 → ∀ M13, SH M13 → M13 = sm_wJ M11 116 79 (((iV M11 116 60) - (iV M11 116 61)).toInt64) → (((1000 : Int64) ≤ (jV M13 116 79) → sm_w 207 (165, [some (.ref 116), none, some (.int (x2)), none, none, none, none], []) M13 (rV K)) ∧ (¬ (1000 : Int64) ≤ (jV M13 116 79) → ∀ M15, SH M15 → M15 = sm_wJ M13 116 79 (1000 : Int64) → sm_w 207 (165, [some (.ref 116), none, some (.int (x2)), none, none, none, none], []) M15 (rV K)))) ∧ (¬ x1 = 0 → sm_w 207 (165, [some (.ref 116), none, some (.int (x2)), none, none, none, none], []) M11 (rV K)))) : sm_w 207 (70, [some (.ref 116), some (.int (x1)), some (.int (x2)), some (.long (x3)), none, none, none], [.long (s0), .long (s1), .ref 116]) M (rV K) := by
  refine sm_w.run t207 sr207 46 2 (M2 := sm_wJ M 116 78 (s1 + s0)) (f2 := (74, [some (.ref 116), some (.int (x1)), some (.int (x2)), some (.long (x3)), none, none, none], [])) rfl ⟨trivial, ⟨(sm_K.p (k_116 hS) (sm_sh.rf _)).1, (sm_K.p (k_116 hS) (sm_sh.rf _)).2.1, (sm_K.p (k_116 hS) (sm_sh.rf _)).2.2, rfl⟩, trivial⟩ ?_
  have hS2 : SH (sm_wJ M 116 78 (s1 + s0)) := SH.wJ hS _ _ _
  have h := h _ hS2 rfl
  generalize sm_wJ M 116 78 (s1 + s0) = M1 at h hS2 ⊢
  refine sm_w.run t207 sr207 48 3 (M2 := M1) (f2 := (79, [some (.ref 116), some (.int (x1)), some (.int (x2)), some (.long (x3)), none, none, none], [va_rf (sm_rv M1 116 74), .ref 116])) rfl ⟨trivial, trivial, sm_K.g (k_116 hS2) (sm_sh.rf _), trivial⟩ ?_
  refine sm_w.fld (r_116_74 hS2) ?_
  obtain ⟨c3, h⟩ := h
  refine sm_w.run t207 sr207 51 8 (M2 := M1) (f2 := (91, [some (.ref 116), some (.int (x1)), some (.int (x2)), some (.long (x3)), none, none, none], [va_rf (sm_rv M1 116 74), .long ((jV M1 154 x2.toNatClampNeg) - (x3 / (2 : Int64))), .ref 116])) rfl ⟨trivial, sm_K.a2 (k_154 hS2) (l_154 hS2) c3, trivial, trivial, by decide, trivial, trivial, sm_K.g (k_116 hS2) (sm_sh.rf _), trivial⟩ ?_
  refine sm_w.fld (r_116_74 hS2) ?_
  obtain ⟨c4, h⟩ := h
  refine sm_w.run t207 sr207 59 4 (M2 := sm_wJ M1 116 80 (((jV M1 154 x2.toNatClampNeg) - (x3 / (2 : Int64))) - (jV M1 154 x1.toNatClampNeg))) (f2 := (97, [some (.ref 116), some (.int (x1)), some (.int (x2)), some (.long (x3)), none, none, none], [])) rfl ⟨trivial, sm_K.a2 (k_154 hS2) (l_154 hS2) c4, trivial, ⟨(sm_K.p (k_116 hS2) (sm_sh.rf _)).1, (sm_K.p (k_116 hS2) (sm_sh.rf _)).2.1, (sm_K.p (k_116 hS2) (sm_sh.rf _)).2.2, rfl⟩, trivial⟩ ?_
  have hS6 : SH (sm_wJ M1 116 80 (((jV M1 154 x2.toNatClampNeg) - (x3 / (2 : Int64))) - (jV M1 154 x1.toNatClampNeg))) := SH.wJ hS2 _ _ _
  have h := h _ hS6 rfl
  generalize sm_wJ M1 116 80 (((jV M1 154 x2.toNatClampNeg) - (x3 / (2 : Int64))) - (jV M1 154 x1.toNatClampNeg)) = M5 at h hS6 ⊢
  refine sm_w.run t207 sr207 63 3 (M2 := M5) (f2 := (102, [some (.ref 116), some (.int (x1)), some (.int (x2)), some (.long (x3)), none, none, none], [va_rf (sm_rv M5 116 75), .ref 116])) rfl ⟨trivial, trivial, sm_K.g (k_116 hS6) (sm_sh.rf _), trivial⟩ ?_
  refine sm_w.fld (r_116_75 hS6) ?_
  obtain ⟨c7, h⟩ := h
  refine sm_w.run t207 sr207 66 8 (M2 := M5) (f2 := (114, [some (.ref 116), some (.int (x1)), some (.int (x2)), some (.long (x3)), none, none, none], [va_rf (sm_rv M5 116 75), .long ((jV M5 155 x2.toNatClampNeg) - (x3 / (3 : Int64))), .ref 116])) rfl ⟨trivial, sm_K.a2 (k_155 hS6) (l_155 hS6) c7, trivial, trivial, by decide, trivial, trivial, sm_K.g (k_116 hS6) (sm_sh.rf _), trivial⟩ ?_
  refine sm_w.fld (r_116_75 hS6) ?_
  obtain ⟨c8, h⟩ := h
  refine sm_w.run t207 sr207 74 4 (M2 := sm_wJ M5 116 81 (((jV M5 155 x2.toNatClampNeg) - (x3 / (3 : Int64))) - (jV M5 155 x1.toNatClampNeg))) (f2 := (120, [some (.ref 116), some (.int (x1)), some (.int (x2)), some (.long (x3)), none, none, none], [])) rfl ⟨trivial, sm_K.a2 (k_155 hS6) (l_155 hS6) c8, trivial, ⟨(sm_K.p (k_116 hS6) (sm_sh.rf _)).1, (sm_K.p (k_116 hS6) (sm_sh.rf _)).2.1, (sm_K.p (k_116 hS6) (sm_sh.rf _)).2.2, rfl⟩, trivial⟩ ?_
  have hS10 : SH (sm_wJ M5 116 81 (((jV M5 155 x2.toNatClampNeg) - (x3 / (3 : Int64))) - (jV M5 155 x1.toNatClampNeg))) := SH.wJ hS6 _ _ _
  have h := h _ hS10 rfl
  generalize sm_wJ M5 116 81 (((jV M5 155 x2.toNatClampNeg) - (x3 / (3 : Int64))) - (jV M5 155 x1.toNatClampNeg)) = M9 at h hS10 ⊢
  refine sm_w.run t207 sr207 78 5 (M2 := sm_wJ M9 116 79 ((iV M9 116 60).toInt64)) (f2 := (129, [some (.ref 116), some (.int (x1)), some (.int (x2)), some (.long (x3)), none, none, none], [])) rfl ⟨trivial, trivial, sm_K.g (k_116 hS10) (sm_sh.rf _), trivial, ⟨(sm_K.p (k_116 hS10) (sm_sh.rf _)).1, (sm_K.p (k_116 hS10) (sm_sh.rf _)).2.1, (sm_K.p (k_116 hS10) (sm_sh.rf _)).2.2, rfl⟩, trivial⟩ ?_
  have hS12 : SH (sm_wJ M9 116 79 ((iV M9 116 60).toInt64)) := SH.wJ hS10 _ _ _
  have h := h _ hS12 rfl
  generalize sm_wJ M9 116 79 ((iV M9 116 60).toInt64) = M11 at h hS12 ⊢
  refine sm_w.run t207 sr207 83 2 (M2 := M11) (f2 := (if x1 = 0 then 133 else 165, [some (.ref 116), some (.int (x1)), some (.int (x2)), some (.long (x3)), none, none, none], [])) rfl ⟨trivial, trivial, trivial⟩ ?_
  refine sm_w.ite (fun hc => ?_) (fun hc => ?_)
  · have h := h.1 hc
    refine sm_w.run t207 sr207 85 8 (M2 := sm_wJ M11 116 79 (((iV M11 116 60) - (iV M11 116 61)).toInt64)) (f2 := (147, [some (.ref 116), some (.int (x1)), some (.int (x2)), some (.long (x3)), none, none, none], [])) rfl ⟨trivial, trivial, sm_K.g (k_116 hS12) (sm_sh.rf _), trivial, sm_K.g (k_116 hS12) (sm_sh.rf _), trivial, trivial, ⟨(sm_K.p (k_116 hS12) (sm_sh.rf _)).1, (sm_K.p (k_116 hS12) (sm_sh.rf _)).2.1, (sm_K.p (k_116 hS12) (sm_sh.rf _)).2.2, rfl⟩, trivial⟩ ?_
    have hS14 : SH (sm_wJ M11 116 79 (((iV M11 116 60) - (iV M11 116 61)).toInt64)) := SH.wJ hS12 _ _ _
    have h := h _ hS14 rfl
    generalize sm_wJ M11 116 79 (((iV M11 116 60) - (iV M11 116 61)).toInt64) = M13 at h hS14 ⊢
    refine sm_w.run t207 sr207 93 5 (M2 := M13) (f2 := (if 0 ≤ (lg_cmp (jV M13 116 79) (1000 : Int64)) then 165 else 158, [some (.ref 116), some (.int (x1)), some (.int (x2)), some (.long (x3)), none, none, none], [])) rfl ⟨trivial, sm_K.g (k_116 hS14) (sm_sh.rf _), trivial, trivial, trivial, trivial⟩ ?_
    refine sm_w.ite (fun hc => ?_) (fun hc => ?_)
    · have h := h.1 (lc_ge.mp hc)
      refine sm_w.weak (ls := [some (.ref 116), none, some (.int (x2)), none, none, none, none]) (sm_leI [true, false, true, false, false, false, false] rfl) ?_
      exact h
    · have h := h.2 (fun z => hc (lc_ge.mpr z))
      refine sm_w.run t207 sr207 98 3 (M2 := sm_wJ M13 116 79 (1000 : Int64)) (f2 := (165, [some (.ref 116), some (.int (x1)), some (.int (x2)), some (.long (x3)), none, none, none], [])) rfl ⟨trivial, trivial, ⟨(sm_K.p (k_116 hS14) (sm_sh.rf _)).1, (sm_K.p (k_116 hS14) (sm_sh.rf _)).2.1, (sm_K.p (k_116 hS14) (sm_sh.rf _)).2.2, rfl⟩, trivial⟩ ?_
      have hS16 : SH (sm_wJ M13 116 79 (1000 : Int64)) := SH.wJ hS14 _ _ _
      have h := h _ hS16 rfl
      generalize sm_wJ M13 116 79 (1000 : Int64) = M15 at h hS16 ⊢
      refine sm_w.weak (ls := [some (.ref 116), none, some (.int (x2)), none, none, none, none]) (sm_leI [true, false, true, false, false, false, false] rfl) ?_
      exact h
  · have h := h.2 hc
    refine sm_w.weak (ls := [some (.ref 116), none, some (.int (x2)), none, none, none, none]) (sm_leI [true, false, true, false, false, false, false] rfl) ?_
    exact h
theorem g207_3 {M : sm_M} {x2 : Int32} {K : sm_M → Prop} (hS : SH M)  (h : (((iV M 116 62) = 0 → sm_w 207 (185, [some (.ref 116), none, some (.int (x2)), none, none, none, none], []) M (rV K)) ∧ (¬ (iV M 116 62) = 0 → ∀ M1, SH M1 → M1 = sm_wJ M 116 80 (jV M 116 79) → ∀ M3, SH M3 → M3 = sm_wJ M1 116 81 (0 : Int64) → sm_w 207 (185, [some (.ref 116), none, some (.int (x2)), none, none, none, none], []) M3 (rV K)))) : sm_w 207 (165, [some (.ref 116), none, some (.int (x2)), none, none, none, none], []) M (rV K) := by
  refine sm_w.run t207 sr207 101 3 (M2 := M) (f2 := (if (iV M 116 62) = 0 then 185 else 172, [some (.ref 116), none, some (.int (x2)), none, none, none, none], [])) rfl ⟨trivial, sm_K.g (k_116 hS) (sm_sh.rf _), trivial, trivial⟩ ?_
  refine sm_w.ite (fun hc => ?_) (fun hc => ?_)
  · have h := h.1 hc
    exact h
  · have h := h.2 hc
    refine sm_w.run t207 sr207 104 4 (M2 := sm_wJ M 116 80 (jV M 116 79)) (f2 := (180, [some (.ref 116), none, some (.int (x2)), none, none, none, none], [])) rfl ⟨trivial, trivial, sm_K.g (k_116 hS) (sm_sh.rf _), ⟨(sm_K.p (k_116 hS) (sm_sh.rf _)).1, (sm_K.p (k_116 hS) (sm_sh.rf _)).2.1, (sm_K.p (k_116 hS) (sm_sh.rf _)).2.2, rfl⟩, trivial⟩ ?_
    have hS2 : SH (sm_wJ M 116 80 (jV M 116 79)) := SH.wJ hS _ _ _
    have h := h _ hS2 rfl
    generalize sm_wJ M 116 80 (jV M 116 79) = M1 at h hS2 ⊢
    refine sm_w.run t207 sr207 108 3 (M2 := sm_wJ M1 116 81 (0 : Int64)) (f2 := (185, [some (.ref 116), none, some (.int (x2)), none, none, none, none], [])) rfl ⟨trivial, trivial, ⟨(sm_K.p (k_116 hS2) (sm_sh.rf _)).1, (sm_K.p (k_116 hS2) (sm_sh.rf _)).2.1, (sm_K.p (k_116 hS2) (sm_sh.rf _)).2.2, rfl⟩, trivial⟩ ?_
    have hS4 : SH (sm_wJ M1 116 81 (0 : Int64)) := SH.wJ hS2 _ _ _
    have h := h _ hS4 rfl
    generalize sm_wJ M1 116 81 (0 : Int64) = M3 at h hS4 ⊢
    exact h
theorem g207_4 {M : sm_M} {x2 : Int32} {K : sm_M → Prop} (hS : SH M)  (h : ∀ M1, SH M1 → M1 = sm_wI M 116 85 (0 : Int32) → (((jV M1 116 79) ≤ (jV M1 116 78) → (((jV M1 116 78) = (jV M1 116 79) → ∀ M3, SH M3 → M3 = sm_wI M1 116 83 (0 : Int32) → sm_w 207 (354, [some (.ref 116), none, none, none, none, none, none], []) M3 (rV K)) ∧ (¬ (jV M1 116 78) = (jV M1 116 79) → (((jV M1 116 81) < ((jV M1 116 78) - (jV M1 116 79)) → ∀ M5, SH M5 → M5 = sm_wI M1 116 83 (-1000 : Int32) → ∀ M7, SH M7 → M7 = sm_wI M5 116 85 (1 : Int32) → sm_w 207 (354, [some (.ref 116), none, none, none, none, none, none], []) M7 (rV K)) ∧ (¬ (jV M1 116 81) < ((jV M1 116 78) - (jV M1 116 79)) → (¬ (jV M1 116 81) = 0) ∧ ∀ M10, SH M10 → M10 = sm_wI M1 116 83 ((-((((((jV M1 116 78) - (jV M1 116 79)) * (1000 : Int64)) + (jV M1 116 81)) - (1 : Int64)) / (jV M1 116 81))).toInt32) → sm_w 207 (354, [some (.ref 116), none, none, none, none, none, none], []) M10 (rV K)))))) ∧ (¬ (jV M1 116 79) ≤ (jV M1 116 78) → (vp_in x2 602) ∧ (((iV M1 150 x2.toNatClampNeg) = (3 : Int32) → ∀ M13, SH M13 → M13 = sm_wI M1 116 83 (0 : Int32) → sm_w 207 (354, [some (.ref 116), none, none, none, none, none, none], []) M13 (rV K)) ∧ (¬ (iV M1 150 x2.toNatClampNeg) = (3 : Int32) → (((jV M1 116 80) = (0 : Int64) → ∀ M15, SH M15 → M15 = sm_wI M1 116 83 (100000 : Int32) → sm_w 207 (354, [some (.ref 116), none, none, none, none, none, none], []) M15 (rV K)) ∧ (¬ (jV M1 116 80) = (0 : Int64) → (¬ (jV M1 116 80) = 0) ∧ ∀ M18, SH M18 → M18 = sm_wI M1 116 83 ((p208_0 M1 ((((jV M1 116 79) - (jV M1 116 78)) * (1000 : Int64)) / (jV M1 116 80)) (100000 : Int64)).toInt32) → sm_w 207 (354, [some (.ref 116), none, none, none, none, none, none], []) M18 (rV K)))))))) : sm_w 207 (185, [some (.ref 116), none, some (.int (x2)), none, none, none, none], []) M (rV K) := by
  refine sm_w.run t207 sr207 111 3 (M2 := sm_wI M 116 85 (0 : Int32)) (f2 := (190, [some (.ref 116), none, some (.int (x2)), none, none, none, none], [])) rfl ⟨trivial, trivial, ⟨(sm_K.p (k_116 hS) (sm_sh.rf _)).1, (sm_K.p (k_116 hS) (sm_sh.rf _)).2.1, (sm_K.p (k_116 hS) (sm_sh.rf _)).2.2, Or.inr ⟨rfl, Or.inl rfl⟩⟩, trivial⟩ ?_
  have hS2 : SH (sm_wI M 116 85 (0 : Int32)) := SH.wI hS _ _ _
  have h := h _ hS2 rfl
  generalize sm_wI M 116 85 (0 : Int32) = M1 at h hS2 ⊢
  refine sm_w.run t207 sr207 114 6 (M2 := M1) (f2 := (if 0 ≤ (lg_cmp (jV M1 116 78) (jV M1 116 79)) then 271 else 202, [some (.ref 116), none, some (.int (x2)), none, none, none, none], [])) rfl ⟨trivial, sm_K.g (k_116 hS2) (sm_sh.rf _), trivial, sm_K.g (k_116 hS2) (sm_sh.rf _), trivial, trivial, trivial⟩ ?_
  refine sm_w.ite (fun hc => ?_) (fun hc => ?_)
  · have h := h.1 (lc_ge.mp hc)
    refine sm_w.run t207 sr207 155 6 (M2 := M1) (f2 := (if (lg_cmp (jV M1 116 78) (jV M1 116 79)) = 0 then 283 else 291, [some (.ref 116), none, some (.int (x2)), none, none, none, none], [])) rfl ⟨trivial, sm_K.g (k_116 hS2) (sm_sh.rf _), trivial, sm_K.g (k_116 hS2) (sm_sh.rf _), trivial, trivial, trivial⟩ ?_
    refine sm_w.ite (fun hc => ?_) (fun hc => ?_)
    · have h := h.1 (lc_e.mp hc)
      refine sm_w.run t207 sr207 161 3 (M2 := sm_wI M1 116 83 (0 : Int32)) (f2 := (288, [some (.ref 116), none, some (.int (x2)), none, none, none, none], [])) rfl ⟨trivial, trivial, ⟨(sm_K.p (k_116 hS2) (sm_sh.rf _)).1, (sm_K.p (k_116 hS2) (sm_sh.rf _)).2.1, (sm_K.p (k_116 hS2) (sm_sh.rf _)).2.2, Or.inl rfl⟩, trivial⟩ ?_
      have hS4 : SH (sm_wI M1 116 83 (0 : Int32)) := SH.wI hS2 _ _ _
      have h := h _ hS4 rfl
      generalize sm_wI M1 116 83 (0 : Int32) = M3 at h hS4 ⊢
      refine sm_w.run t207 sr207 164 1 (M2 := M3) (f2 := (354, [some (.ref 116), none, some (.int (x2)), none, none, none, none], [])) rfl ⟨trivial, trivial⟩ ?_
      refine sm_w.weak (ls := [some (.ref 116), none, none, none, none, none, none]) (sm_leI [true, false, false, false, false, false, false] rfl) ?_
      exact h
    · have h := h.2 (fun z => hc (lc_e.mpr z))
      refine sm_w.run t207 sr207 165 9 (M2 := M1) (f2 := (if 0 < (lg_cmp ((jV M1 116 78) - (jV M1 116 79)) (jV M1 116 81)) then 342 else 308, [some (.ref 116), none, some (.int (x2)), none, none, none, none], [])) rfl ⟨trivial, sm_K.g (k_116 hS2) (sm_sh.rf _), trivial, sm_K.g (k_116 hS2) (sm_sh.rf _), trivial, trivial, sm_K.g (k_116 hS2) (sm_sh.rf _), trivial, trivial, trivial⟩ ?_
      refine sm_w.ite (fun hc => ?_) (fun hc => ?_)
      · have h := h.1 (lc_g.mp hc)
        refine sm_w.run t207 sr207 194 3 (M2 := sm_wI M1 116 83 (-1000 : Int32)) (f2 := (349, [some (.ref 116), none, some (.int (x2)), none, none, none, none], [])) rfl ⟨trivial, trivial, ⟨(sm_K.p (k_116 hS2) (sm_sh.rf _)).1, (sm_K.p (k_116 hS2) (sm_sh.rf _)).2.1, (sm_K.p (k_116 hS2) (sm_sh.rf _)).2.2, Or.inl rfl⟩, trivial⟩ ?_
        have hS6 : SH (sm_wI M1 116 83 (-1000 : Int32)) := SH.wI hS2 _ _ _
        have h := h _ hS6 rfl
        generalize sm_wI M1 116 83 (-1000 : Int32) = M5 at h hS6 ⊢
        refine sm_w.run t207 sr207 197 3 (M2 := sm_wI M5 116 85 (1 : Int32)) (f2 := (354, [some (.ref 116), none, some (.int (x2)), none, none, none, none], [])) rfl ⟨trivial, trivial, ⟨(sm_K.p (k_116 hS6) (sm_sh.rf _)).1, (sm_K.p (k_116 hS6) (sm_sh.rf _)).2.1, (sm_K.p (k_116 hS6) (sm_sh.rf _)).2.2, Or.inr ⟨rfl, Or.inr rfl⟩⟩, trivial⟩ ?_
        have hS8 : SH (sm_wI M5 116 85 (1 : Int32)) := SH.wI hS6 _ _ _
        have h := h _ hS8 rfl
        generalize sm_wI M5 116 85 (1 : Int32) = M7 at h hS8 ⊢
        refine sm_w.weak (ls := [some (.ref 116), none, none, none, none, none, none]) (sm_leI [true, false, false, false, false, false, false] rfl) ?_
        exact h
      · have h := h.2 (fun z => hc (lc_g.mpr z))
        obtain ⟨c9, h⟩ := h
        refine sm_w.run t207 sr207 174 19 (M2 := sm_wI M1 116 83 ((-((((((jV M1 116 78) - (jV M1 116 79)) * (1000 : Int64)) + (jV M1 116 81)) - (1 : Int64)) / (jV M1 116 81))).toInt32)) (f2 := (339, [some (.ref 116), none, some (.int (x2)), none, none, none, none], [])) rfl ⟨trivial, trivial, sm_K.g (k_116 hS2) (sm_sh.rf _), trivial, sm_K.g (k_116 hS2) (sm_sh.rf _), trivial, trivial, trivial, trivial, sm_K.g (k_116 hS2) (sm_sh.rf _), trivial, trivial, trivial, trivial, sm_K.g (k_116 hS2) (sm_sh.rf _), c9, trivial, trivial, ⟨(sm_K.p (k_116 hS2) (sm_sh.rf _)).1, (sm_K.p (k_116 hS2) (sm_sh.rf _)).2.1, (sm_K.p (k_116 hS2) (sm_sh.rf _)).2.2, Or.inl rfl⟩, trivial⟩ ?_
        have hS11 : SH (sm_wI M1 116 83 ((-((((((jV M1 116 78) - (jV M1 116 79)) * (1000 : Int64)) + (jV M1 116 81)) - (1 : Int64)) / (jV M1 116 81))).toInt32)) := SH.wI hS2 _ _ _
        have h := h _ hS11 rfl
        generalize sm_wI M1 116 83 ((-((((((jV M1 116 78) - (jV M1 116 79)) * (1000 : Int64)) + (jV M1 116 81)) - (1 : Int64)) / (jV M1 116 81))).toInt32) = M10 at h hS11 ⊢
        refine sm_w.run t207 sr207 193 1 (M2 := M10) (f2 := (354, [some (.ref 116), none, some (.int (x2)), none, none, none, none], [])) rfl ⟨trivial, trivial⟩ ?_
        refine sm_w.weak (ls := [some (.ref 116), none, none, none, none, none, none]) (sm_leI [true, false, false, false, false, false, false] rfl) ?_
        exact h
  · have h := h.2 (fun z => hc (lc_ge.mpr z))
    refine sm_w.run t207 sr207 120 2 (M2 := M1) (f2 := (206, [some (.ref 116), none, some (.int (x2)), none, none, none, none], [va_rf (sm_rv M1 116 70)])) rfl ⟨trivial, sm_K.g (k_116 hS2) (sm_sh.rf _), trivial⟩ ?_
    refine sm_w.fld (r_116_70 hS2) ?_
    obtain ⟨c12, h⟩ := h
    refine sm_w.run t207 sr207 122 4 (M2 := M1) (f2 := (if (iV M1 150 x2.toNatClampNeg) = (3 : Int32) then 212 else 220, [some (.ref 116), none, some (.int (x2)), none, none, none, none], [])) rfl ⟨trivial, sm_K.a2 (k_150 hS2) (l_150 hS2) c12, trivial, trivial, trivial⟩ ?_
    refine sm_w.ite (fun hc => ?_) (fun hc => ?_)
    · have h := h.1 hc
      refine sm_w.run t207 sr207 126 3 (M2 := sm_wI M1 116 83 (0 : Int32)) (f2 := (217, [some (.ref 116), none, some (.int (x2)), none, none, none, none], [])) rfl ⟨trivial, trivial, ⟨(sm_K.p (k_116 hS2) (sm_sh.rf _)).1, (sm_K.p (k_116 hS2) (sm_sh.rf _)).2.1, (sm_K.p (k_116 hS2) (sm_sh.rf _)).2.2, Or.inl rfl⟩, trivial⟩ ?_
      have hS14 : SH (sm_wI M1 116 83 (0 : Int32)) := SH.wI hS2 _ _ _
      have h := h _ hS14 rfl
      generalize sm_wI M1 116 83 (0 : Int32) = M13 at h hS14 ⊢
      refine sm_w.run t207 sr207 129 1 (M2 := M13) (f2 := (354, [some (.ref 116), none, some (.int (x2)), none, none, none, none], [])) rfl ⟨trivial, trivial⟩ ?_
      refine sm_w.weak (ls := [some (.ref 116), none, none, none, none, none, none]) (sm_leI [true, false, false, false, false, false, false] rfl) ?_
      exact h
    · have h := h.2 hc
      refine sm_w.run t207 sr207 130 5 (M2 := M1) (f2 := (if (lg_cmp (jV M1 116 80) (0 : Int64)) = 0 then 229 else 239, [some (.ref 116), none, some (.int (x2)), none, none, none, none], [])) rfl ⟨trivial, sm_K.g (k_116 hS2) (sm_sh.rf _), trivial, trivial, trivial, trivial⟩ ?_
      refine sm_w.ite (fun hc => ?_) (fun hc => ?_)
      · have h := h.1 (lc_e.mp hc)
        refine sm_w.run t207 sr207 135 3 (M2 := sm_wI M1 116 83 (100000 : Int32)) (f2 := (236, [some (.ref 116), none, some (.int (x2)), none, none, none, none], [])) rfl ⟨trivial, trivial, ⟨(sm_K.p (k_116 hS2) (sm_sh.rf _)).1, (sm_K.p (k_116 hS2) (sm_sh.rf _)).2.1, (sm_K.p (k_116 hS2) (sm_sh.rf _)).2.2, Or.inl rfl⟩, trivial⟩ ?_
        have hS16 : SH (sm_wI M1 116 83 (100000 : Int32)) := SH.wI hS2 _ _ _
        have h := h _ hS16 rfl
        generalize sm_wI M1 116 83 (100000 : Int32) = M15 at h hS16 ⊢
        refine sm_w.run t207 sr207 138 1 (M2 := M15) (f2 := (354, [some (.ref 116), none, some (.int (x2)), none, none, none, none], [])) rfl ⟨trivial, trivial⟩ ?_
        refine sm_w.weak (ls := [some (.ref 116), none, none, none, none, none, none]) (sm_leI [true, false, false, false, false, false, false] rfl) ?_
        exact h
      · have h := h.2 (fun z => hc (lc_e.mpr z))
        obtain ⟨c17, h⟩ := h
        refine sm_w.run t207 sr207 139 12 (M2 := M1) (f2 := (261, [some (.ref 116), none, some (.int (x2)), none, none, none, none], [.long ((100000 : Int64)), .long ((((jV M1 116 79) - (jV M1 116 78)) * (1000 : Int64)) / (jV M1 116 80)), .ref 116])) rfl ⟨trivial, trivial, sm_K.g (k_116 hS2) (sm_sh.rf _), trivial, sm_K.g (k_116 hS2) (sm_sh.rf _), trivial, trivial, trivial, trivial, sm_K.g (k_116 hS2) (sm_sh.rf _), c17, trivial, trivial⟩ ?_
        refine sm_w.cJ t207 sr207 151 (i := 208) (as := [.long ((((jV M1 116 79) - (jV M1 116 78)) * (1000 : Int64)) / (jV M1 116 80)), .long ((100000 : Int64))]) (g := (261, [some (.ref 116), none, some (.int (x2)), none, none, none, none], [.ref 116])) rfl ⟨(Nat.le_of_ble_eq_true rfl), (Nat.le_of_ble_eq_true rfl)⟩ (Nat.le_of_ble_eq_true rfl) (by decide) (p208_c hS2) (fun vz M2 hz => ?_)
        obtain ⟨hz1, hz2⟩ := hz
        subst hz1
        have hz2 := hz2.symm
        subst hz2
        refine sm_w.run t207 sr207 152 2 (M2 := sm_wI M1 116 83 ((p208_0 M1 ((((jV M1 116 79) - (jV M1 116 78)) * (1000 : Int64)) / (jV M1 116 80)) (100000 : Int64)).toInt32)) (f2 := (268, [some (.ref 116), none, some (.int (x2)), none, none, none, none], [])) rfl ⟨trivial, ⟨(sm_K.p (k_116 hS2) (sm_sh.rf _)).1, (sm_K.p (k_116 hS2) (sm_sh.rf _)).2.1, (sm_K.p (k_116 hS2) (sm_sh.rf _)).2.2, Or.inl rfl⟩, trivial⟩ ?_
        have hS19 : SH (sm_wI M1 116 83 ((p208_0 M1 ((((jV M1 116 79) - (jV M1 116 78)) * (1000 : Int64)) / (jV M1 116 80)) (100000 : Int64)).toInt32)) := SH.wI hS2 _ _ _
        have h := h _ hS19 rfl
        generalize sm_wI M1 116 83 ((p208_0 M1 ((((jV M1 116 79) - (jV M1 116 78)) * (1000 : Int64)) / (jV M1 116 80)) (100000 : Int64)).toInt32) = M18 at h hS19 ⊢
        refine sm_w.run t207 sr207 154 1 (M2 := M18) (f2 := (354, [some (.ref 116), none, some (.int (x2)), none, none, none, none], [])) rfl ⟨trivial, trivial⟩ ?_
        refine sm_w.weak (ls := [some (.ref 116), none, none, none, none, none, none]) (sm_leI [true, false, false, false, false, false, false] rfl) ?_
        exact h
theorem g207_5 {M : sm_M}  {K : sm_M → Prop} (hS : SH M)  (h : ((0 ≤ (iV M 116 83) → (((iV M 116 85) = 0 → ∀ M1, SH M1 → M1 = sm_wI M 116 84 ((p208_0 M (((((100 : Int64) * ((iV M 116 83).toInt64)) * ((iV M 116 83).toInt64)) * ((iV M 116 83).toInt64)) / (1000000000 : Int64)) (10000 : Int64)).toInt32) → K M1) ∧ (¬ (iV M 116 85) = 0 → ∀ M3, SH M3 → M3 = sm_wI M 116 84 (10000 : Int32) → K M3))) ∧ (¬ 0 ≤ (iV M 116 83) → (((iV M 116 85) = 0 → ∀ M5, SH M5 → M5 = sm_wI M 116 84 ((p208_0 M (((((100 : Int64) * ((-(iV M 116 83)).toInt64)) * ((-(iV M 116 83)).toInt64)) * ((-(iV M 116 83)).toInt64)) / (1000000000 : Int64)) (10000 : Int64)).toInt32) → K M5) ∧ (¬ (iV M 116 85) = 0 → ∀ M7, SH M7 → M7 = sm_wI M 116 84 (10000 : Int32) → K M7))))) : sm_w 207 (354, [some (.ref 116), none, none, none, none, none, none], []) M (rV K) := by
  refine sm_w.run t207 sr207 200 3 (M2 := M) (f2 := (if 0 ≤ (iV M 116 83) then 370 else 361, [some (.ref 116), none, none, none, none, none, none], [])) rfl ⟨trivial, sm_K.g (k_116 hS) (sm_sh.rf _), trivial, trivial⟩ ?_
  refine sm_w.ite (fun hc => ?_) (fun hc => ?_)
  · have h := h.1 hc
    refine sm_w.run t207 sr207 208 8 (M2 := M) (f2 := (if (iV M 116 85) = 0 then 391 else 385, [some (.ref 116), none, none, none, none, some (.long ((iV M 116 83).toInt64)), none], [.ref 116])) rfl ⟨trivial, sm_K.g (k_116 hS) (sm_sh.rf _), trivial, (Nat.le_of_ble_eq_true rfl), trivial, trivial, sm_K.g (k_116 hS) (sm_sh.rf _), trivial, trivial⟩ ?_
    refine sm_w.ite (fun hc => ?_) (fun hc => ?_)
    · have h := h.1 hc
      refine sm_w.run t207 sr207 218 10 (M2 := M) (f2 := (410, [some (.ref 116), none, none, none, none, some (.long ((iV M 116 83).toInt64)), none], [.long ((10000 : Int64)), .long (((((100 : Int64) * ((iV M 116 83).toInt64)) * ((iV M 116 83).toInt64)) * ((iV M 116 83).toInt64)) / (1000000000 : Int64)), .ref 116])) rfl ⟨trivial, trivial, trivial, trivial, trivial, trivial, trivial, trivial, by decide, trivial, trivial⟩ ?_
      refine sm_w.cJ t207 sr207 228 (i := 208) (as := [.long (((((100 : Int64) * ((iV M 116 83).toInt64)) * ((iV M 116 83).toInt64)) * ((iV M 116 83).toInt64)) / (1000000000 : Int64)), .long ((10000 : Int64))]) (g := (410, [some (.ref 116), none, none, none, none, some (.long ((iV M 116 83).toInt64)), none], [.ref 116])) rfl ⟨(Nat.le_of_ble_eq_true rfl), (Nat.le_of_ble_eq_true rfl)⟩ (Nat.le_of_ble_eq_true rfl) (by decide) (p208_c hS) (fun vz M2 hz => ?_)
      obtain ⟨hz1, hz2⟩ := hz
      subst hz1
      have hz2 := hz2.symm
      subst hz2
      refine sm_w.run t207 sr207 229 2 (M2 := sm_wI M 116 84 ((p208_0 M (((((100 : Int64) * ((iV M 116 83).toInt64)) * ((iV M 116 83).toInt64)) * ((iV M 116 83).toInt64)) / (1000000000 : Int64)) (10000 : Int64)).toInt32)) (f2 := (417, [some (.ref 116), none, none, none, none, some (.long ((iV M 116 83).toInt64)), none], [])) rfl ⟨trivial, ⟨(sm_K.p (k_116 hS) (sm_sh.rf _)).1, (sm_K.p (k_116 hS) (sm_sh.rf _)).2.1, (sm_K.p (k_116 hS) (sm_sh.rf _)).2.2, Or.inl rfl⟩, trivial⟩ ?_
      have hS2 : SH (sm_wI M 116 84 ((p208_0 M (((((100 : Int64) * ((iV M 116 83).toInt64)) * ((iV M 116 83).toInt64)) * ((iV M 116 83).toInt64)) / (1000000000 : Int64)) (10000 : Int64)).toInt32)) := SH.wI hS _ _ _
      have h := h _ hS2 rfl
      generalize sm_wI M 116 84 ((p208_0 M (((((100 : Int64) * ((iV M 116 83).toInt64)) * ((iV M 116 83).toInt64)) * ((iV M 116 83).toInt64)) / (1000000000 : Int64)) (10000 : Int64)).toInt32) = M1 at h hS2 ⊢
      exact sm_w.end t207 sr207 231 (o := .returned none) (M2 := M1) rfl trivial (by decide) (⟨rfl, h⟩)
    · have h := h.2 hc
      refine sm_w.run t207 sr207 216 2 (M2 := M) (f2 := (414, [some (.ref 116), none, none, none, none, some (.long ((iV M 116 83).toInt64)), none], [.int ((10000 : Int32)), .ref 116])) rfl ⟨trivial, trivial, trivial⟩ ?_
      refine sm_w.run t207 sr207 230 1 (M2 := sm_wI M 116 84 (10000 : Int32)) (f2 := (417, [some (.ref 116), none, none, none, none, some (.long ((iV M 116 83).toInt64)), none], [])) rfl ⟨⟨(sm_K.p (k_116 hS) (sm_sh.rf _)).1, (sm_K.p (k_116 hS) (sm_sh.rf _)).2.1, (sm_K.p (k_116 hS) (sm_sh.rf _)).2.2, Or.inl rfl⟩, trivial⟩ ?_
      have hS4 : SH (sm_wI M 116 84 (10000 : Int32)) := SH.wI hS _ _ _
      have h := h _ hS4 rfl
      generalize sm_wI M 116 84 (10000 : Int32) = M3 at h hS4 ⊢
      exact sm_w.end t207 sr207 231 (o := .returned none) (M2 := M3) rfl trivial (by decide) (⟨rfl, h⟩)
  · have h := h.2 hc
    refine sm_w.run t207 sr207 203 5 (M2 := M) (f2 := (375, [some (.ref 116), none, none, none, none, none, none], [.long ((-(iV M 116 83)).toInt64)])) rfl ⟨trivial, sm_K.g (k_116 hS) (sm_sh.rf _), trivial, trivial, trivial, trivial⟩ ?_
    refine sm_w.run t207 sr207 211 5 (M2 := M) (f2 := (if (iV M 116 85) = 0 then 391 else 385, [some (.ref 116), none, none, none, none, some (.long ((-(iV M 116 83)).toInt64)), none], [.ref 116])) rfl ⟨(Nat.le_of_ble_eq_true rfl), trivial, trivial, sm_K.g (k_116 hS) (sm_sh.rf _), trivial, trivial⟩ ?_
    refine sm_w.ite (fun hc => ?_) (fun hc => ?_)
    · have h := h.1 hc
      refine sm_w.run t207 sr207 218 10 (M2 := M) (f2 := (410, [some (.ref 116), none, none, none, none, some (.long ((-(iV M 116 83)).toInt64)), none], [.long ((10000 : Int64)), .long (((((100 : Int64) * ((-(iV M 116 83)).toInt64)) * ((-(iV M 116 83)).toInt64)) * ((-(iV M 116 83)).toInt64)) / (1000000000 : Int64)), .ref 116])) rfl ⟨trivial, trivial, trivial, trivial, trivial, trivial, trivial, trivial, by decide, trivial, trivial⟩ ?_
      refine sm_w.cJ t207 sr207 228 (i := 208) (as := [.long (((((100 : Int64) * ((-(iV M 116 83)).toInt64)) * ((-(iV M 116 83)).toInt64)) * ((-(iV M 116 83)).toInt64)) / (1000000000 : Int64)), .long ((10000 : Int64))]) (g := (410, [some (.ref 116), none, none, none, none, some (.long ((-(iV M 116 83)).toInt64)), none], [.ref 116])) rfl ⟨(Nat.le_of_ble_eq_true rfl), (Nat.le_of_ble_eq_true rfl)⟩ (Nat.le_of_ble_eq_true rfl) (by decide) (p208_c hS) (fun vz M2 hz => ?_)
      obtain ⟨hz1, hz2⟩ := hz
      subst hz1
      have hz2 := hz2.symm
      subst hz2
      refine sm_w.run t207 sr207 229 2 (M2 := sm_wI M 116 84 ((p208_0 M (((((100 : Int64) * ((-(iV M 116 83)).toInt64)) * ((-(iV M 116 83)).toInt64)) * ((-(iV M 116 83)).toInt64)) / (1000000000 : Int64)) (10000 : Int64)).toInt32)) (f2 := (417, [some (.ref 116), none, none, none, none, some (.long ((-(iV M 116 83)).toInt64)), none], [])) rfl ⟨trivial, ⟨(sm_K.p (k_116 hS) (sm_sh.rf _)).1, (sm_K.p (k_116 hS) (sm_sh.rf _)).2.1, (sm_K.p (k_116 hS) (sm_sh.rf _)).2.2, Or.inl rfl⟩, trivial⟩ ?_
      have hS6 : SH (sm_wI M 116 84 ((p208_0 M (((((100 : Int64) * ((-(iV M 116 83)).toInt64)) * ((-(iV M 116 83)).toInt64)) * ((-(iV M 116 83)).toInt64)) / (1000000000 : Int64)) (10000 : Int64)).toInt32)) := SH.wI hS _ _ _
      have h := h _ hS6 rfl
      generalize sm_wI M 116 84 ((p208_0 M (((((100 : Int64) * ((-(iV M 116 83)).toInt64)) * ((-(iV M 116 83)).toInt64)) * ((-(iV M 116 83)).toInt64)) / (1000000000 : Int64)) (10000 : Int64)).toInt32) = M5 at h hS6 ⊢
      exact sm_w.end t207 sr207 231 (o := .returned none) (M2 := M5) rfl trivial (by decide) (⟨rfl, h⟩)
    · have h := h.2 hc
      refine sm_w.run t207 sr207 216 2 (M2 := M) (f2 := (414, [some (.ref 116), none, none, none, none, some (.long ((-(iV M 116 83)).toInt64)), none], [.int ((10000 : Int32)), .ref 116])) rfl ⟨trivial, trivial, trivial⟩ ?_
      refine sm_w.run t207 sr207 230 1 (M2 := sm_wI M 116 84 (10000 : Int32)) (f2 := (417, [some (.ref 116), none, none, none, none, some (.long ((-(iV M 116 83)).toInt64)), none], [])) rfl ⟨⟨(sm_K.p (k_116 hS) (sm_sh.rf _)).1, (sm_K.p (k_116 hS) (sm_sh.rf _)).2.1, (sm_K.p (k_116 hS) (sm_sh.rf _)).2.2, Or.inl rfl⟩, trivial⟩ ?_
      have hS8 : SH (sm_wI M 116 84 (10000 : Int32)) := SH.wI hS _ _ _
      have h := h _ hS8 rfl
      generalize sm_wI M 116 84 (10000 : Int32) = M7 at h hS8 ⊢
      exact sm_w.end t207 sr207 231 (o := .returned none) (M2 := M7) rfl trivial (by decide) (⟨rfl, h⟩)
-- 209 LineSetterModel.classOf()I
theorem t209 : sP 209 = (1, sp_209, sh_209) := rfl
theorem sr209 : sm_srt sp_209 = true := by decide +kernel
theorem g209_0 {M : sm_M}  {K : Int32 → sm_M → Prop} (hS : SH M)  (h : (((-500 : Int32) ≤ (iV M 116 83) → (((500 : Int32) < (iV M 116 83) → (((1000 : Int32) < (iV M 116 83) → K (3 : Int32) M) ∧ (¬ (1000 : Int32) < (iV M 116 83) → K (2 : Int32) M))) ∧ (¬ (500 : Int32) < (iV M 116 83) → K (1 : Int32) M))) ∧ (¬ (-500 : Int32) ≤ (iV M 116 83) → K (0 : Int32) M))) : sm_w 209 (sm_in sP 209 [.ref 116]) M (rI K) := by
  show sm_w 209 (0, [some (.ref 116)], []) M (rI K)
  refine sm_w.run t209 sr209 0 4 (M2 := M) (f2 := (if (-500 : Int32) ≤ (iV M 116 83) then 14 else 10, [some (.ref 116)], [])) rfl ⟨trivial, sm_K.g (k_116 hS) (sm_sh.rf _), trivial, trivial, trivial⟩ ?_
  refine sm_w.ite (fun hc => ?_) (fun hc => ?_)
  · have h := h.1 hc
    refine sm_w.run t209 sr209 6 4 (M2 := M) (f2 := (if (500 : Int32) < (iV M 116 83) then 28 else 24, [some (.ref 116)], [])) rfl ⟨trivial, sm_K.g (k_116 hS) (sm_sh.rf _), trivial, trivial, trivial⟩ ?_
    refine sm_w.ite (fun hc => ?_) (fun hc => ?_)
    · have h := h.1 hc
      refine sm_w.run t209 sr209 12 4 (M2 := M) (f2 := (if (1000 : Int32) < (iV M 116 83) then 42 else 38, [some (.ref 116)], [])) rfl ⟨trivial, sm_K.g (k_116 hS) (sm_sh.rf _), trivial, trivial, trivial⟩ ?_
      refine sm_w.ite (fun hc => ?_) (fun hc => ?_)
      · have h := h.1 hc
        refine sm_w.run t209 sr209 18 1 (M2 := M) (f2 := (43, [some (.ref 116)], [.int ((3 : Int32))])) rfl ⟨trivial, trivial⟩ ?_
        exact sm_w.end t209 sr209 19 (o := .returned (some (.int ((3 : Int32))))) (M2 := M) rfl rfl (by decide) (⟨_, rfl, h⟩)
      · have h := h.2 hc
        refine sm_w.run t209 sr209 16 2 (M2 := M) (f2 := (43, [some (.ref 116)], [.int ((2 : Int32))])) rfl ⟨trivial, trivial, trivial⟩ ?_
        exact sm_w.end t209 sr209 19 (o := .returned (some (.int ((2 : Int32))))) (M2 := M) rfl rfl (by decide) (⟨_, rfl, h⟩)
    · have h := h.2 hc
      refine sm_w.run t209 sr209 10 2 (M2 := M) (f2 := (43, [some (.ref 116)], [.int ((1 : Int32))])) rfl ⟨trivial, trivial, trivial⟩ ?_
      exact sm_w.end t209 sr209 19 (o := .returned (some (.int ((1 : Int32))))) (M2 := M) rfl rfl (by decide) (⟨_, rfl, h⟩)
  · have h := h.2 hc
    refine sm_w.run t209 sr209 4 2 (M2 := M) (f2 := (43, [some (.ref 116)], [.int ((0 : Int32))])) rfl ⟨trivial, trivial, trivial⟩ ?_
    exact sm_w.end t209 sr209 19 (o := .returned (some (.int ((0 : Int32))))) (M2 := M) rfl rfl (by decide) (⟨_, rfl, h⟩)
def p209_0 (M : sm_M) : Int32 := if (-500 : Int32) ≤ (iV M 116 83) then (if (500 : Int32) < (iV M 116 83) then (if (1000 : Int32) < (iV M 116 83) then (3 : Int32) else (2 : Int32)) else (1 : Int32)) else (0 : Int32)
theorem p209_c {M : sm_M}  (hS : SH M)  : sm_cI 209 [.ref 116] M (fun v M2 => v = p209_0 M ∧ M2 = M) := by
  refine g209_0 (K := (fun v M2 => v = p209_0 M ∧ M2 = M)) hS ?_
  refine ⟨fun e1 => ?_, fun e1 => ?_⟩
  · refine ⟨fun e2 => ?_, fun e2 => ?_⟩
    · refine ⟨fun e3 => ?_, fun e3 => ?_⟩
      · refine ⟨?_, rfl⟩
        unfold p209_0
        rw [if_pos e1, if_pos e2, if_pos e3]
      · refine ⟨?_, rfl⟩
        unfold p209_0
        rw [if_pos e1, if_pos e2, if_neg e3]
    · refine ⟨?_, rfl⟩
      unfold p209_0
      rw [if_pos e1, if_neg e2]
  · refine ⟨?_, rfl⟩
    unfold p209_0
    rw [if_neg e1]
-- 211 LineSetterModel.endsSo(I)Z
theorem t211 : sP 211 = (2, sp_211, sh_211) := rfl
theorem sr211 : sm_srt sp_211 = true := by decide +kernel
theorem g211_0 {M : sm_M} {x1 : Int32} {K : Int32 → sm_M → Prop} (hS : SH M)  (h : ((x1 ≤ 0 → K (0 : Int32) M) ∧ (¬ x1 ≤ 0 → (vp_in x1 602) ∧ (((iV M 150 x1.toNatClampNeg) = (1 : Int32) → K (1 : Int32) M) ∧ (¬ (iV M 150 x1.toNatClampNeg) = (1 : Int32) → (vp_in x1 602) ∧ (((iV M 150 x1.toNatClampNeg) = (2 : Int32) → K (1 : Int32) M) ∧ (¬ (iV M 150 x1.toNatClampNeg) = (2 : Int32) → K (0 : Int32) M))))))) : sm_w 211 (sm_in sP 211 [.ref 116, .int (x1)]) M (rI K) := by
  show sm_w 211 (0, [some (.ref 116), some (.int (x1))], []) M (rI K)
  refine sm_w.run t211 sr211 0 2 (M2 := M) (f2 := (if x1 ≤ 0 then 28 else 4, [some (.ref 116), some (.int (x1))], [])) rfl ⟨trivial, trivial, trivial⟩ ?_
  refine sm_w.ite (fun hc => ?_) (fun hc => ?_)
  · have h := h.1 hc
    refine sm_w.run t211 sr211 16 1 (M2 := M) (f2 := (29, [some (.ref 116), some (.int (x1))], [.int ((0 : Int32))])) rfl ⟨trivial, trivial⟩ ?_
    exact sm_w.end t211 sr211 17 (o := .returned (some (.int ((0 : Int32))))) (M2 := M) rfl rfl (by decide) (⟨_, rfl, h⟩)
  · have h := h.2 hc
    refine sm_w.run t211 sr211 2 2 (M2 := M) (f2 := (8, [some (.ref 116), some (.int (x1))], [va_rf (sm_rv M 116 70)])) rfl ⟨trivial, sm_K.g (k_116 hS) (sm_sh.rf _), trivial⟩ ?_
    refine sm_w.fld (r_116_70 hS) ?_
    obtain ⟨c1, h⟩ := h
    refine sm_w.run t211 sr211 4 4 (M2 := M) (f2 := (if (iV M 150 x1.toNatClampNeg) = (1 : Int32) then 24 else 14, [some (.ref 116), some (.int (x1))], [])) rfl ⟨trivial, sm_K.a2 (k_150 hS) (l_150 hS) c1, trivial, trivial, trivial⟩ ?_
    refine sm_w.ite (fun hc => ?_) (fun hc => ?_)
    · have h := h.1 hc
      refine sm_w.run t211 sr211 14 2 (M2 := M) (f2 := (29, [some (.ref 116), some (.int (x1))], [.int ((1 : Int32))])) rfl ⟨trivial, trivial, trivial⟩ ?_
      exact sm_w.end t211 sr211 17 (o := .returned (some (.int ((1 : Int32))))) (M2 := M) rfl rfl (by decide) (⟨_, rfl, h⟩)
    · have h := h.2 hc
      refine sm_w.run t211 sr211 8 2 (M2 := M) (f2 := (18, [some (.ref 116), some (.int (x1))], [va_rf (sm_rv M 116 70)])) rfl ⟨trivial, sm_K.g (k_116 hS) (sm_sh.rf _), trivial⟩ ?_
      refine sm_w.fld (r_116_70 hS) ?_
      obtain ⟨c2, h⟩ := h
      refine sm_w.run t211 sr211 10 4 (M2 := M) (f2 := (if (iV M 150 x1.toNatClampNeg) = (2 : Int32) then 24 else 28, [some (.ref 116), some (.int (x1))], [])) rfl ⟨trivial, sm_K.a2 (k_150 hS) (l_150 hS) c2, trivial, trivial, trivial⟩ ?_
      refine sm_w.ite (fun hc => ?_) (fun hc => ?_)
      · have h := h.1 hc
        refine sm_w.run t211 sr211 14 2 (M2 := M) (f2 := (29, [some (.ref 116), some (.int (x1))], [.int ((1 : Int32))])) rfl ⟨trivial, trivial, trivial⟩ ?_
        exact sm_w.end t211 sr211 17 (o := .returned (some (.int ((1 : Int32))))) (M2 := M) rfl rfl (by decide) (⟨_, rfl, h⟩)
      · have h := h.2 hc
        refine sm_w.run t211 sr211 16 1 (M2 := M) (f2 := (29, [some (.ref 116), some (.int (x1))], [.int ((0 : Int32))])) rfl ⟨trivial, trivial⟩ ?_
        exact sm_w.end t211 sr211 17 (o := .returned (some (.int ((0 : Int32))))) (M2 := M) rfl rfl (by decide) (⟨_, rfl, h⟩)
def p211_0 (M : sm_M) (x1 : Int32) : Int32 := if x1 ≤ 0 then (0 : Int32) else (if (iV M 150 x1.toNatClampNeg) = (1 : Int32) then (1 : Int32) else (if (iV M 150 x1.toNatClampNeg) = (2 : Int32) then (1 : Int32) else (0 : Int32)))
def q211_0 (M : sm_M) (x1 : Int32) : Prop := ((x1 ≤ 0 → True) ∧ (¬ x1 ≤ 0 → (vp_in x1 602) ∧ (((iV M 150 x1.toNatClampNeg) = (1 : Int32) → True) ∧ (¬ (iV M 150 x1.toNatClampNeg) = (1 : Int32) → (vp_in x1 602)))))
theorem p211_c {M : sm_M} {x1 : Int32} (hS : SH M)  (hq : q211_0 M x1) : sm_cI 211 [.ref 116, .int (x1)] M (fun v M2 => v = p211_0 M x1 ∧ M2 = M) := by
  refine g211_0 (K := (fun v M2 => v = p211_0 M x1 ∧ M2 = M)) hS ?_
  unfold q211_0 at hq
  refine ⟨fun e1 => ?_, fun e1 => ?_⟩
  · refine ⟨?_, rfl⟩
    unfold p211_0
    rw [if_pos e1]
  · have hq := hq.2 e1
    obtain ⟨d2, hq⟩ := hq
    refine ⟨d2, ?_⟩
    refine ⟨fun e3 => ?_, fun e3 => ?_⟩
    · refine ⟨?_, rfl⟩
      unfold p211_0
      rw [if_neg e1, if_pos e3]
    · have hq := hq.2 e3
      have d4 := hq
      refine ⟨d4, ?_⟩
      refine ⟨fun e5 => ?_, fun e5 => ?_⟩
      · refine ⟨?_, rfl⟩
        unfold p211_0
        rw [if_neg e1, if_neg e3, if_pos e5]
      · refine ⟨?_, rfl⟩
        unfold p211_0
        rw [if_neg e1, if_neg e3, if_neg e5]
