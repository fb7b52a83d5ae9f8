/-! METHODS by their segments. -/
-- 162 LineSetterModel.feed(IIIII)I
theorem t162 : sP 162 = (6, sp_162, sh_162) := rfl
theorem sr162 : sm_srt sp_162 = true := by decide +kernel
theorem g162_0 {M : sm_M} {x1 : Int32} {x2 : Int32} {x3 : Int32} {x4 : Int32} {x5 : Int32} {K : Int32 → sm_M → Prop} (hS : SH M)  (h : ((((iV M 116 3) + (20 : Int32)) ≤ (8192 : Int32) → ∀ M1, SH M1 → M1 = sm_wI M 116 0 (0 : Int32) → sm_cV 164 [.ref 116, .int (x1)] M1 (fun M3 => SH M3 → sm_cV 164 [.ref 116, .int (x2)] M3 (fun M6 => SH M6 → sm_cV 164 [.ref 116, .int (x3)] M6 (fun M9 => SH M9 → sm_cV 164 [.ref 116, .int (x4)] M9 (fun M12 => SH M12 → sm_cV 164 [.ref 116, .int (x5)] M12 (fun M15 => SH M15 → K (iV M15 116 3) M15)))))) ∧ (¬ ((iV M 116 3) + (20 : Int32)) ≤ (8192 : Int32) → ∀ M21, SH M21 → M21 = sm_wI M 116 0 (1 : Int32) → K (0 : Int32) M21))) : sm_w 162 (sm_in sP 162 [.ref 116, .int (x1), .int (x2), .int (x3), .int (x4), .int (x5)]) M (rI K) := by
  show sm_w 162 (0, [some (.ref 116), some (.int (x1)), some (.int (x2)), some (.int (x3)), some (.int (x4)), some (.int (x5))], []) M (rI K)
  refine sm_w.run t162 sr162 0 6 (M2 := M) (f2 := (if ((iV M 116 3) + (20 : Int32)) ≤ (8192 : Int32) then 19 else 13, [some (.ref 116), some (.int (x1)), some (.int (x2)), some (.int (x3)), some (.int (x4)), some (.int (x5))], [])) rfl ⟨trivial, sm_K.g (k_116 hS) (sm_sh.rf _), trivial, trivial, trivial, trivial, trivial⟩ ?_
  refine sm_w.ite (fun hc => ?_) (fun hc => ?_)
  · have h := h.1 hc
    refine sm_w.run t162 sr162 10 3 (M2 := sm_wI M 116 0 (0 : Int32)) (f2 := (24, [some (.ref 116), some (.int (x1)), some (.int (x2)), some (.int (x3)), some (.int (x4)), some (.int (x5))], [])) rfl ⟨trivial, trivial, ⟨(sm_K.p (k_116 hS) (sm_sh.rf _)).1, (sm_K.p (k_116 hS) (sm_sh.rf _)).2.1, (sm_K.p (k_116 hS) (sm_sh.rf _)).2.2, Or.inl rfl⟩, trivial⟩ ?_
    have hS2 : SH (sm_wI M 116 0 (0 : Int32)) := SH.wI hS _ _ _
    have h := h _ hS2 rfl
    generalize sm_wI M 116 0 (0 : Int32) = M1 at h hS2 ⊢
    refine sm_w.run t162 sr162 13 2 (M2 := M1) (f2 := (26, [some (.ref 116), some (.int (x1)), some (.int (x2)), some (.int (x3)), some (.int (x4)), some (.int (x5))], [.int (x1), .ref 116])) rfl ⟨trivial, trivial, trivial⟩ ?_
    refine sm_w.cV t162 sr162 15 (i := 164) (as := [.ref 116, .int (x1)]) (g := (26, [some (.ref 116), some (.int (x1)), some (.int (x2)), some (.int (x3)), some (.int (x4)), some (.int (x5))], [])) rfl ⟨by decide, by decide, (Nat.le_of_ble_eq_true rfl), (sm_K.g (k_116 hS2) (sm_sh.rf _)).1, (sm_K.g (k_116 hS2) (sm_sh.rf _)).2, (Nat.le_of_ble_eq_true rfl)⟩ (Nat.le_of_ble_eq_true rfl) (by decide) (sm_cV.s (by decide) hS2 h) (fun M3 h => ?_)
    obtain ⟨hS5, h⟩ := h
    refine sm_w.run t162 sr162 16 2 (M2 := M3) (f2 := (31, [some (.ref 116), some (.int (x1)), some (.int (x2)), some (.int (x3)), some (.int (x4)), some (.int (x5))], [.int (x2), .ref 116])) rfl ⟨trivial, trivial, trivial⟩ ?_
    refine sm_w.cV t162 sr162 18 (i := 164) (as := [.ref 116, .int (x2)]) (g := (31, [some (.ref 116), some (.int (x1)), some (.int (x2)), some (.int (x3)), some (.int (x4)), some (.int (x5))], [])) rfl ⟨by decide, by decide, (Nat.le_of_ble_eq_true rfl), (sm_K.g (k_116 hS5) (sm_sh.rf _)).1, (sm_K.g (k_116 hS5) (sm_sh.rf _)).2, (Nat.le_of_ble_eq_true rfl)⟩ (Nat.le_of_ble_eq_true rfl) (by decide) (sm_cV.s (by decide) hS5 h) (fun M6 h => ?_)
    obtain ⟨hS8, h⟩ := h
    refine sm_w.run t162 sr162 19 2 (M2 := M6) (f2 := (36, [some (.ref 116), some (.int (x1)), some (.int (x2)), some (.int (x3)), some (.int (x4)), some (.int (x5))], [.int (x3), .ref 116])) rfl ⟨trivial, trivial, trivial⟩ ?_
    refine sm_w.cV t162 sr162 21 (i := 164) (as := [.ref 116, .int (x3)]) (g := (36, [some (.ref 116), some (.int (x1)), some (.int (x2)), some (.int (x3)), some (.int (x4)), some (.int (x5))], [])) rfl ⟨by decide, by decide, (Nat.le_of_ble_eq_true rfl), (sm_K.g (k_116 hS8) (sm_sh.rf _)).1, (sm_K.g (k_116 hS8) (sm_sh.rf _)).2, (Nat.le_of_ble_eq_true rfl)⟩ (Nat.le_of_ble_eq_true rfl) (by decide) (sm_cV.s (by decide) hS8 h) (fun M9 h => ?_)
    obtain ⟨hS11, h⟩ := h
    refine sm_w.run t162 sr162 22 2 (M2 := M9) (f2 := (42, [some (.ref 116), some (.int (x1)), some (.int (x2)), some (.int (x3)), some (.int (x4)), some (.int (x5))], [.int (x4), .ref 116])) rfl ⟨trivial, trivial, trivial⟩ ?_
    refine sm_w.cV t162 sr162 24 (i := 164) (as := [.ref 116, .int (x4)]) (g := (42, [some (.ref 116), some (.int (x1)), some (.int (x2)), some (.int (x3)), some (.int (x4)), some (.int (x5))], [])) rfl ⟨by decide, by decide, (Nat.le_of_ble_eq_true rfl), (sm_K.g (k_116 hS11) (sm_sh.rf _)).1, (sm_K.g (k_116 hS11) (sm_sh.rf _)).2, (Nat.le_of_ble_eq_true rfl)⟩ (Nat.le_of_ble_eq_true rfl) (by decide) (sm_cV.s (by decide) hS11 h) (fun M12 h => ?_)
    obtain ⟨hS14, h⟩ := h
    refine sm_w.run t162 sr162 25 2 (M2 := M12) (f2 := (48, [some (.ref 116), some (.int (x1)), some (.int (x2)), some (.int (x3)), some (.int (x4)), some (.int (x5))], [.int (x5), .ref 116])) rfl ⟨trivial, trivial, trivial⟩ ?_
    refine sm_w.cV t162 sr162 27 (i := 164) (as := [.ref 116, .int (x5)]) (g := (48, [some (.ref 116), some (.int (x1)), some (.int (x2)), some (.int (x3)), some (.int (x4)), some (.int (x5))], [])) rfl ⟨by decide, by decide, (Nat.le_of_ble_eq_true rfl), (sm_K.g (k_116 hS14) (sm_sh.rf _)).1, (sm_K.g (k_116 hS14) (sm_sh.rf _)).2, (Nat.le_of_ble_eq_true rfl)⟩ (Nat.le_of_ble_eq_true rfl) (by decide) (sm_cV.s (by decide) hS14 h) (fun M15 h => ?_)
    obtain ⟨hS17, h⟩ := h
    refine sm_w.run t162 sr162 28 2 (M2 := M15) (f2 := (55, [some (.ref 116), some (.int (x1)), some (.int (x2)), some (.int (x3)), some (.int (x4)), some (.int (x5))], [.int (iV M15 116 3)])) rfl ⟨trivial, sm_K.g (k_116 hS17) (sm_sh.rf _), trivial⟩ ?_
    exact sm_w.end t162 sr162 30 (o := .returned (some (.int (iV M15 116 3)))) (M2 := M15) rfl rfl (by decide) (⟨_, rfl, h⟩)
  · have h := h.2 hc
    refine sm_w.run t162 sr162 6 2 (M2 := M) (f2 := (15, [some (.ref 116), some (.int (x1)), some (.int (x2)), some (.int (x3)), some (.int (x4)), some (.int (x5))], [.int ((1 : Int32)), .ref 116])) rfl ⟨trivial, trivial, trivial⟩ ?_
    refine sm_w.cI t162 sr162 8 (i := 163) (as := [.ref 116, .int ((1 : Int32))]) (g := (15, [some (.ref 116), some (.int (x1)), some (.int (x2)), some (.int (x3)), some (.int (x4)), some (.int (x5))], [])) rfl ⟨by decide, by decide, (Nat.le_of_ble_eq_true rfl), (sm_K.g (k_116 hS) (sm_sh.rf _)).1, (sm_K.g (k_116 hS) (sm_sh.rf _)).2, (Nat.le_of_ble_eq_true rfl)⟩ (Nat.le_of_ble_eq_true rfl) (by decide) (sm_cI.s2 (by decide) hS (g163_0 (K := fun v19 M18 => K v19 M18) hS h)) (fun v19 M18 h => ?_)
    obtain ⟨hS20, h⟩ := h
    exact sm_w.end t162 sr162 9 (o := .returned (some (.int (v19)))) (M2 := M18) rfl rfl (by decide) (⟨_, rfl, h⟩)
-- 166 LineSetterModel.in(JJJ)Z
theorem t166 : sP 166 = (6, sp_166, sh_166) := rfl
theorem sr166 : sm_srt sp_166 = true := by decide +kernel
theorem g166_0 {M : sm_M} {x0 : Int64} {x2 : Int64} {x4 : Int64} {K : Int32 → sm_M → Prop} (hS : SH M)  (h : ((x0 < x2 → K (0 : Int32) M) ∧ (¬ x0 < x2 → ((x4 < x0 → K (0 : Int32) M) ∧ (¬ x4 < x0 → K (1 : Int32) M))))) : sm_w 166 (sm_in sP 166 [.long (x0), .long (x2), .long (x4)]) M (rI K) := by
  show sm_w 166 (0, [some (.long (x0)), none, some (.long (x2)), none, some (.long (x4)), none], []) M (rI K)
  refine sm_w.run t166 sr166 0 4 (M2 := M) (f2 := (if (lg_cmp x0 x2) < 0 then 17 else 6, [some (.long (x0)), none, some (.long (x2)), none, some (.long (x4)), none], [])) rfl ⟨trivial, trivial, trivial, trivial, trivial⟩ ?_
  refine sm_w.ite (fun hc => ?_) (fun hc => ?_)
  · have h := h.1 (lc_l.mp hc)
    refine sm_w.run t166 sr166 10 1 (M2 := M) (f2 := (18, [some (.long (x0)), none, some (.long (x2)), none, some (.long (x4)), none], [.int ((0 : Int32))])) rfl ⟨trivial, trivial⟩ ?_
    exact sm_w.end t166 sr166 11 (o := .returned (some (.int ((0 : Int32))))) (M2 := M) rfl rfl (by decide) (⟨_, rfl, h⟩)
  · have h := h.2 (fun z => hc (lc_l.mpr z))
    refine sm_w.run t166 sr166 4 4 (M2 := M) (f2 := (if 0 < (lg_cmp x0 x4) then 17 else 13, [some (.long (x0)), none, some (.long (x2)), none, some (.long (x4)), none], [])) rfl ⟨trivial, trivial, trivial, trivial, trivial⟩ ?_
    refine sm_w.ite (fun hc => ?_) (fun hc => ?_)
    · have h := h.1 (lc_g.mp hc)
      refine sm_w.run t166 sr166 10 1 (M2 := M) (f2 := (18, [some (.long (x0)), none, some (.long (x2)), none, some (.long (x4)), none], [.int ((0 : Int32))])) rfl ⟨trivial, trivial⟩ ?_
      exact sm_w.end t166 sr166 11 (o := .returned (some (.int ((0 : Int32))))) (M2 := M) rfl rfl (by decide) (⟨_, rfl, h⟩)
    · have h := h.2 (fun z => hc (lc_g.mpr z))
      refine sm_w.run t166 sr166 8 2 (M2 := M) (f2 := (18, [some (.long (x0)), none, some (.long (x2)), none, some (.long (x4)), none], [.int ((1 : Int32))])) rfl ⟨trivial, trivial, trivial⟩ ?_
      exact sm_w.end t166 sr166 11 (o := .returned (some (.int ((1 : Int32))))) (M2 := M) rfl rfl (by decide) (⟨_, rfl, h⟩)
def p166_0 (M : sm_M) (x0 : Int64) (x2 : Int64) (x4 : Int64) : Int32 := if x0 < x2 then (0 : Int32) else (if x4 < x0 then (0 : Int32) else (1 : Int32))
theorem p166_c {M : sm_M} {x0 : Int64} {x2 : Int64} {x4 : Int64} (hS : SH M)  : sm_cI 166 [.long (x0), .long (x2), .long (x4)] M (fun v M2 => v = p166_0 M x0 x2 x4 ∧ M2 = M) := by
  refine g166_0 (K := (fun v M2 => v = p166_0 M x0 x2 x4 ∧ M2 = M)) hS ?_
  refine ⟨fun e1 => ?_, fun e1 => ?_⟩
  · refine ⟨?_, rfl⟩
    unfold p166_0
    rw [if_pos e1]
  · refine ⟨fun e2 => ?_, fun e2 => ?_⟩
    · refine ⟨?_, rfl⟩
      unfold p166_0
      rw [if_neg e1, if_pos e2]
    · refine ⟨?_, rfl⟩
      unfold p166_0
      rw [if_neg e1, if_neg e2]
-- 165 LineSetterModel.end(I)I
theorem t165 : sP 165 = (2, sp_165, sh_165) := rfl
theorem sr165 : sm_srt sp_165 = true := by decide +kernel
theorem g165_0 {M : sm_M} {x1 : Int32} {K : Int32 → sm_M → Prop} (hS : SH M)  (h : (((p166_0 M x1.toInt64 (0 : Int64) ((iV M 116 3).toInt64)) = 0 → ∀ M4, SH M4 → M4 = sm_wI M 116 0 (1 : Int32) → K (0 : Int32) M4) ∧ (¬ (p166_0 M x1.toInt64 (0 : Int64) ((iV M 116 3).toInt64)) = 0 → ∀ M6, SH M6 → M6 = sm_wI M 116 0 (0 : Int32) → ∀ M8, SH M8 → M8 = sm_wI M6 116 3 x1 → K x1 M8))) : sm_w 165 (sm_in sP 165 [.ref 116, .int (x1)]) M (rI K) := by
  show sm_w 165 (0, [some (.ref 116), some (.int (x1))], []) M (rI K)
  refine sm_w.run t165 sr165 0 6 (M2 := M) (f2 := (8, [some (.ref 116), some (.int (x1))], [.long ((iV M 116 3).toInt64), .long ((0 : Int64)), .long (x1.toInt64)])) rfl ⟨trivial, trivial, trivial, trivial, sm_K.g (k_116 hS) (sm_sh.rf _), trivial, trivial⟩ ?_
  refine sm_w.cI t165 sr165 6 (i := 166) (as := [.long (x1.toInt64), .long ((0 : Int64)), .long ((iV M 116 3).toInt64)]) (g := (8, [some (.ref 116), some (.int (x1))], [])) rfl ⟨(Nat.le_of_ble_eq_true rfl), (Nat.le_of_ble_eq_true rfl)⟩ (Nat.le_of_ble_eq_true rfl) (by decide) (p166_c hS) (fun vz M2 hz => ?_)
  obtain ⟨hz1, hz2⟩ := hz
  subst hz1
  have hz2 := hz2.symm
  subst hz2
  refine sm_w.run t165 sr165 7 1 (M2 := M) (f2 := (if (p166_0 M x1.toInt64 (0 : Int64) ((iV M 116 3).toInt64)) = 0 then 14 else 20, [some (.ref 116), some (.int (x1))], [])) rfl ⟨trivial, trivial⟩ ?_
  refine sm_w.ite (fun hc => ?_) (fun hc => ?_)
  · have h := h.1 hc
    refine sm_w.run t165 sr165 8 2 (M2 := M) (f2 := (16, [some (.ref 116), some (.int (x1))], [.int ((1 : Int32)), .ref 116])) rfl ⟨trivial, trivial, trivial⟩ ?_
    refine sm_w.cI t165 sr165 10 (i := 163) (as := [.ref 116, .int ((1 : Int32))]) (g := (16, [some (.ref 116), some (.int (x1))], [])) rfl ⟨by decide, by decide, (Nat.le_of_ble_eq_true rfl), (sm_K.g (k_116 hS) (sm_sh.rf _)).1, (sm_K.g (k_116 hS) (sm_sh.rf _)).2, (Nat.le_of_ble_eq_true rfl)⟩ (Nat.le_of_ble_eq_true rfl) (by decide) (sm_cI.s2 (by decide) hS (g163_0 (K := fun v2 M1 => K v2 M1) hS h)) (fun v2 M1 h => ?_)
    obtain ⟨hS3, h⟩ := h
    exact sm_w.end t165 sr165 11 (o := .returned (some (.int (v2)))) (M2 := M1) rfl rfl (by decide) (⟨_, rfl, h⟩)
  · have h := h.2 hc
    refine sm_w.run t165 sr165 12 3 (M2 := sm_wI M 116 0 (0 : Int32)) (f2 := (25, [some (.ref 116), some (.int (x1))], [])) rfl ⟨trivial, trivial, ⟨(sm_K.p (k_116 hS) (sm_sh.rf _)).1, (sm_K.p (k_116 hS) (sm_sh.rf _)).2.1, (sm_K.p (k_116 hS) (sm_sh.rf _)).2.2, Or.inl rfl⟩, trivial⟩ ?_
    have hS7 : SH (sm_wI M 116 0 (0 : Int32)) := SH.wI hS _ _ _
    have h := h _ hS7 rfl
    generalize sm_wI M 116 0 (0 : Int32) = M6 at h hS7 ⊢
    refine sm_w.run t165 sr165 15 3 (M2 := sm_wI M6 116 3 x1) (f2 := (30, [some (.ref 116), some (.int (x1))], [])) rfl ⟨trivial, trivial, ⟨(sm_K.p (k_116 hS7) (sm_sh.rf _)).1, (sm_K.p (k_116 hS7) (sm_sh.rf _)).2.1, (sm_K.p (k_116 hS7) (sm_sh.rf _)).2.2, Or.inl rfl⟩, trivial⟩ ?_
    have hS9 : SH (sm_wI M6 116 3 x1) := SH.wI hS7 _ _ _
    have h := h _ hS9 rfl
    generalize sm_wI M6 116 3 x1 = M8 at h hS9 ⊢
    refine sm_w.run t165 sr165 18 1 (M2 := M8) (f2 := (31, [some (.ref 116), some (.int (x1))], [.int (x1)])) rfl ⟨trivial, trivial⟩ ?_
    exact sm_w.end t165 sr165 19 (o := .returned (some (.int (x1)))) (M2 := M8) rfl rfl (by decide) (⟨_, rfl, h⟩)
-- 167 LineSetterModel.place()I
theorem t167 : sP 167 = (1, sp_167, sh_167) := rfl
theorem sr167 : sm_srt sp_167 = true := by decide +kernel
theorem g167_0 {M : sm_M}  {K : Int32 → sm_M → Prop} (hS : SH M)  (h : ∀ M1, SH M1 → M1 = sm_wI M 116 0 (0 : Int32) → K (iV M1 116 7) M1) : sm_w 167 (sm_in sP 167 [.ref 116]) M (rI K) := by
  show sm_w 167 (0, [some (.ref 116)], []) M (rI K)
  refine sm_w.run t167 sr167 0 3 (M2 := sm_wI M 116 0 (0 : Int32)) (f2 := (5, [some (.ref 116)], [])) rfl ⟨trivial, trivial, ⟨(sm_K.p (k_116 hS) (sm_sh.rf _)).1, (sm_K.p (k_116 hS) (sm_sh.rf _)).2.1, (sm_K.p (k_116 hS) (sm_sh.rf _)).2.2, Or.inl rfl⟩, trivial⟩ ?_
  have hS2 : SH (sm_wI M 116 0 (0 : Int32)) := SH.wI hS _ _ _
  have h := h _ hS2 rfl
  generalize sm_wI M 116 0 (0 : Int32) = M1 at h hS2 ⊢
  refine sm_w.run t167 sr167 3 2 (M2 := M1) (f2 := (9, [some (.ref 116)], [.int (iV M1 116 7)])) rfl ⟨trivial, sm_K.g (k_116 hS2) (sm_sh.rf _), trivial⟩ ?_
  exact sm_w.end t167 sr167 5 (o := .returned (some (.int (iV M1 116 7)))) (M2 := M1) rfl rfl (by decide) (⟨_, rfl, h⟩)
-- 169 LineSetterModel.take()V
theorem t169 : sP 169 = (2, sp_169, sh_169) := rfl
theorem sr169 : sm_srt sp_169 = true := by decide +kernel
theorem g169_0 {M : sm_M}  {K : sm_M → Prop} (hS : SH M)  (h : sm_w 169 (2, [some (.ref 116), some (.int ((0 : Int32)))], []) M (rV K)) : sm_w 169 (sm_in sP 169 [.ref 116]) M (rV K) := by
  show sm_w 169 (0, [some (.ref 116), none], []) M (rV K)
  refine sm_w.run t169 sr169 0 2 (M2 := M) (f2 := (2, [some (.ref 116), some (.int ((0 : Int32)))], [])) rfl ⟨trivial, (Nat.le_of_ble_eq_true rfl), trivial⟩ ?_
  exact h
theorem g169_1 {M : sm_M} {x1 : Int32} {K : sm_M → Prop} (hS : SH M)  (h : (((iV M 116 3) ≤ x1 → ∀ M1, SH M1 → M1 = sm_wI M 116 4 (iV M 116 3) → ∀ M3, SH M3 → M3 = sm_wI M1 116 3 (0 : Int32) → ∀ M5, SH M5 → M5 = sm_wI M3 116 8 (-1 : Int32) → K M5) ∧ (¬ (iV M 116 3) ≤ x1 → (vp_in x1 8192) ∧ ∀ M8, SH M8 → M8 = sm_wI M 118 x1.toNatClampNeg (iV M 117 x1.toNatClampNeg) → sm_w 169 (2, [some (.ref 116), some (.int (x1 + (1 : Int32)))], []) M8 (rV K)))) : sm_w 169 (2, [some (.ref 116), some (.int (x1))], []) M (rV K) := by
  refine sm_w.run t169 sr169 2 4 (M2 := M) (f2 := (if (iV M 116 3) ≤ x1 then 28 else 10, [some (.ref 116), some (.int (x1))], [])) rfl ⟨trivial, trivial, sm_K.g (k_116 hS) (sm_sh.rf _), trivial, trivial⟩ ?_
  refine sm_w.ite (fun hc => ?_) (fun hc => ?_)
  · have h := h.1 hc
    refine sm_w.run t169 sr169 16 4 (M2 := sm_wI M 116 4 (iV M 116 3)) (f2 := (36, [some (.ref 116), some (.int (x1))], [])) rfl ⟨trivial, trivial, sm_K.g (k_116 hS) (sm_sh.rf _), ⟨(sm_K.p (k_116 hS) (sm_sh.rf _)).1, (sm_K.p (k_116 hS) (sm_sh.rf _)).2.1, (sm_K.p (k_116 hS) (sm_sh.rf _)).2.2, Or.inl rfl⟩, trivial⟩ ?_
    have hS2 : SH (sm_wI M 116 4 (iV M 116 3)) := SH.wI hS _ _ _
    have h := h _ hS2 rfl
    generalize sm_wI M 116 4 (iV M 116 3) = M1 at h hS2 ⊢
    refine sm_w.run t169 sr169 20 3 (M2 := sm_wI M1 116 3 (0 : Int32)) (f2 := (41, [some (.ref 116), some (.int (x1))], [])) rfl ⟨trivial, trivial, ⟨(sm_K.p (k_116 hS2) (sm_sh.rf _)).1, (sm_K.p (k_116 hS2) (sm_sh.rf _)).2.1, (sm_K.p (k_116 hS2) (sm_sh.rf _)).2.2, Or.inl rfl⟩, trivial⟩ ?_
    have hS4 : SH (sm_wI M1 116 3 (0 : Int32)) := SH.wI hS2 _ _ _
    have h := h _ hS4 rfl
    generalize sm_wI M1 116 3 (0 : Int32) = M3 at h hS4 ⊢
    refine sm_w.run t169 sr169 23 3 (M2 := sm_wI M3 116 8 (-1 : Int32)) (f2 := (46, [some (.ref 116), some (.int (x1))], [])) rfl ⟨trivial, trivial, ⟨(sm_K.p (k_116 hS4) (sm_sh.rf _)).1, (sm_K.p (k_116 hS4) (sm_sh.rf _)).2.1, (sm_K.p (k_116 hS4) (sm_sh.rf _)).2.2, Or.inl rfl⟩, trivial⟩ ?_
    have hS6 : SH (sm_wI M3 116 8 (-1 : Int32)) := SH.wI hS4 _ _ _
    have h := h _ hS6 rfl
    generalize sm_wI M3 116 8 (-1 : Int32) = M5 at h hS6 ⊢
    exact sm_w.end t169 sr169 26 (o := .returned none) (M2 := M5) rfl trivial (by decide) (⟨rfl, h⟩)
  · have h := h.2 hc
    refine sm_w.run t169 sr169 6 2 (M2 := M) (f2 := (14, [some (.ref 116), some (.int (x1))], [va_rf (sm_rv M 116 2)])) rfl ⟨trivial, sm_K.g (k_116 hS) (sm_sh.rf _), trivial⟩ ?_
    refine sm_w.fld (r_116_2 hS) ?_
    refine sm_w.run t169 sr169 8 3 (M2 := M) (f2 := (19, [some (.ref 116), some (.int (x1))], [va_rf (sm_rv M 116 1), .int (x1), .ref 118])) rfl ⟨trivial, trivial, sm_K.g (k_116 hS) (sm_sh.rf _), trivial⟩ ?_
    refine sm_w.fld (r_116_1 hS) ?_
    obtain ⟨c7, h⟩ := h
    refine sm_w.run t169 sr169 11 3 (M2 := sm_wI M 118 x1.toNatClampNeg (iV M 117 x1.toNatClampNeg)) (f2 := (22, [some (.ref 116), some (.int (x1))], [])) rfl ⟨trivial, sm_K.a2 (k_117 hS) (l_117 hS) c7, sm_K.s2 (k_118 hS) (l_118 hS) c7, trivial⟩ ?_
    have hS9 : SH (sm_wI M 118 x1.toNatClampNeg (iV M 117 x1.toNatClampNeg)) := SH.wI hS _ _ _
    have h := h _ hS9 rfl
    generalize sm_wI M 118 x1.toNatClampNeg (iV M 117 x1.toNatClampNeg) = M8 at h hS9 ⊢
    refine sm_w.run t169 sr169 14 2 (M2 := M8) (f2 := (2, [some (.ref 116), some (.int (x1 + (1 : Int32)))], [])) rfl ⟨(Nat.le_of_ble_eq_true rfl), trivial, trivial⟩ ?_
    exact h
-- 171 LineSetterModel.byteAt(I)I
theorem t171 : sP 171 = (2, sp_171, sh_171) := rfl
theorem sr171 : sm_srt sp_171 = true := by decide +kernel
theorem g171_0 {M : sm_M} {x1 : Int32} {K : Int32 → sm_M → Prop} (hS : SH M)  (h : (((iV M 116 4) ≤ x1 → K (-1 : Int32) M) ∧ (¬ (iV M 116 4) ≤ x1 → (vp_in x1 8192) ∧ K (iV M 118 x1.toNatClampNeg) M))) : sm_w 171 (sm_in sP 171 [.ref 116, .int (x1)]) M (rI K) := by
  show sm_w 171 (0, [some (.ref 116), some (.int (x1))], []) M (rI K)
  refine sm_w.run t171 sr171 0 4 (M2 := M) (f2 := (if (iV M 116 4) ≤ x1 then 17 else 8, [some (.ref 116), some (.int (x1))], [])) rfl ⟨trivial, trivial, sm_K.g (k_116 hS) (sm_sh.rf _), trivial, trivial⟩ ?_
  refine sm_w.ite (fun hc => ?_) (fun hc => ?_)
  · have h := h.1 hc
    refine sm_w.run t171 sr171 9 1 (M2 := M) (f2 := (18, [some (.ref 116), some (.int (x1))], [.int ((-1 : Int32))])) rfl ⟨trivial, trivial⟩ ?_
    exact sm_w.end t171 sr171 10 (o := .returned (some (.int ((-1 : Int32))))) (M2 := M) rfl rfl (by decide) (⟨_, rfl, h⟩)
  · have h := h.2 hc
    refine sm_w.run t171 sr171 4 2 (M2 := M) (f2 := (12, [some (.ref 116), some (.int (x1))], [va_rf (sm_rv M 116 2)])) rfl ⟨trivial, sm_K.g (k_116 hS) (sm_sh.rf _), trivial⟩ ?_
    refine sm_w.fld (r_116_2 hS) ?_
    obtain ⟨c1, h⟩ := h
    refine sm_w.run t171 sr171 6 3 (M2 := M) (f2 := (18, [some (.ref 116), some (.int (x1))], [.int (iV M 118 x1.toNatClampNeg)])) rfl ⟨trivial, sm_K.a2 (k_118 hS) (l_118 hS) c1, trivial, trivial⟩ ?_
    exact sm_w.end t171 sr171 10 (o := .returned (some (.int (iV M 118 x1.toNatClampNeg)))) (M2 := M) rfl rfl (by decide) (⟨_, rfl, h⟩)
def p171_0 (M : sm_M) (x1 : Int32) : Int32 := if (iV M 116 4) ≤ x1 then (-1 : Int32) else (iV M 118 x1.toNatClampNeg)
def q171_0 (M : sm_M) (x1 : Int32) : Prop := (((iV M 116 4) ≤ x1 → True) ∧ (¬ (iV M 116 4) ≤ x1 → (vp_in x1 8192)))
theorem p171_c {M : sm_M} {x1 : Int32} (hS : SH M)  (hq : q171_0 M x1) : sm_cI 171 [.ref 116, .int (x1)] M (fun v M2 => v = p171_0 M x1 ∧ M2 = M) := by
  refine g171_0 (K := (fun v M2 => v = p171_0 M x1 ∧ M2 = M)) hS ?_
  unfold q171_0 at hq
  refine ⟨fun e1 => ?_, fun e1 => ?_⟩
  · refine ⟨?_, rfl⟩
    unfold p171_0
    rw [if_pos e1]
  · have hq := hq.2 e1
    have d2 := hq
    refine ⟨d2, ?_⟩
    refine ⟨?_, rfl⟩
    unfold p171_0
    rw [if_neg e1]
-- 172 LineSetterModel.isBlank(I)Z
theorem t172 : sP 172 = (1, sp_172, sh_172) := rfl
theorem sr172 : sm_srt sp_172 = true := by decide +kernel
theorem g172_0 {M : sm_M} {x0 : Int32} {K : Int32 → sm_M → Prop} (hS : SH M)  (h : ((x0 = (10 : Int32) → K (1 : Int32) M) ∧ (¬ x0 = (10 : Int32) → ((x0 = (32 : Int32) → K (1 : Int32) M) ∧ (¬ x0 = (32 : Int32) → K (0 : Int32) M))))) : sm_w 172 (sm_in sP 172 [.int (x0)]) M (rI K) := by
  show sm_w 172 (0, [some (.int (x0))], []) M (rI K)
  refine sm_w.run t172 sr172 0 3 (M2 := M) (f2 := (if x0 = (10 : Int32) then 12 else 6, [some (.int (x0))], [])) rfl ⟨trivial, trivial, trivial, trivial⟩ ?_
  refine sm_w.ite (fun hc => ?_) (fun hc => ?_)
  · have h := h.1 hc
    refine sm_w.run t172 sr172 6 2 (M2 := M) (f2 := (17, [some (.int (x0))], [.int ((1 : Int32))])) rfl ⟨trivial, trivial, trivial⟩ ?_
    exact sm_w.end t172 sr172 9 (o := .returned (some (.int ((1 : Int32))))) (M2 := M) rfl rfl (by decide) (⟨_, rfl, h⟩)
  · have h := h.2 hc
    refine sm_w.run t172 sr172 3 3 (M2 := M) (f2 := (if x0 = (32 : Int32) then 12 else 16, [some (.int (x0))], [])) rfl ⟨trivial, trivial, trivial, trivial⟩ ?_
    refine sm_w.ite (fun hc => ?_) (fun hc => ?_)
    · have h := h.1 hc
      refine sm_w.run t172 sr172 6 2 (M2 := M) (f2 := (17, [some (.int (x0))], [.int ((1 : Int32))])) rfl ⟨trivial, trivial, trivial⟩ ?_
      exact sm_w.end t172 sr172 9 (o := .returned (some (.int ((1 : Int32))))) (M2 := M) rfl rfl (by decide) (⟨_, rfl, h⟩)
    · have h := h.2 hc
      refine sm_w.run t172 sr172 8 1 (M2 := M) (f2 := (17, [some (.int (x0))], [.int ((0 : Int32))])) rfl ⟨trivial, trivial⟩ ?_
      exact sm_w.end t172 sr172 9 (o := .returned (some (.int ((0 : Int32))))) (M2 := M) rfl rfl (by decide) (⟨_, rfl, h⟩)
def p172_0 (M : sm_M) (x0 : Int32) : Int32 := if x0 = (10 : Int32) then (1 : Int32) else (if x0 = (32 : Int32) then (1 : Int32) else (0 : Int32))
theorem p172_c {M : sm_M} {x0 : Int32} (hS : SH M)  : sm_cI 172 [.int (x0)] M (fun v M2 => v = p172_0 M x0 ∧ M2 = M) := by
  refine g172_0 (K := (fun v M2 => v = p172_0 M x0 ∧ M2 = M)) hS ?_
  refine ⟨fun e1 => ?_, fun e1 => ?_⟩
  · refine ⟨?_, rfl⟩
    unfold p172_0
    rw [if_pos e1]
  · refine ⟨fun e2 => ?_, fun e2 => ?_⟩
    · refine ⟨?_, rfl⟩
      unfold p172_0
      rw [if_neg e1, if_pos e2]
    · refine ⟨?_, rfl⟩
      unfold p172_0
      rw [if_neg e1, if_neg e2]
-- 173 LineSetterModel.isSmall(I)Z
theorem t173 : sP 173 = (1, sp_173, sh_173) := rfl
theorem sr173 : sm_srt sp_173 = true := by decide +kernel
theorem g173_0 {M : sm_M} {x0 : Int32} {K : Int32 → sm_M → Prop} (hS : SH M)  (h : ((x0 < (97 : Int32) → K (0 : Int32) M) ∧ (¬ x0 < (97 : Int32) → (((122 : Int32) < x0 → K (0 : Int32) M) ∧ (¬ (122 : Int32) < x0 → K (1 : Int32) M))))) : sm_w 173 (sm_in sP 173 [.int (x0)]) M (rI K) := by
  show sm_w 173 (0, [some (.int (x0))], []) M (rI K)
  refine sm_w.run t173 sr173 0 3 (M2 := M) (f2 := (if x0 < (97 : Int32) then 16 else 6, [some (.int (x0))], [])) rfl ⟨trivial, trivial, trivial, trivial⟩ ?_
  refine sm_w.ite (fun hc => ?_) (fun hc => ?_)
  · have h := h.1 hc
    refine sm_w.run t173 sr173 8 1 (M2 := M) (f2 := (17, [some (.int (x0))], [.int ((0 : Int32))])) rfl ⟨trivial, trivial⟩ ?_
    exact sm_w.end t173 sr173 9 (o := .returned (some (.int ((0 : Int32))))) (M2 := M) rfl rfl (by decide) (⟨_, rfl, h⟩)
  · have h := h.2 hc
    refine sm_w.run t173 sr173 3 3 (M2 := M) (f2 := (if (122 : Int32) < x0 then 16 else 12, [some (.int (x0))], [])) rfl ⟨trivial, trivial, trivial, trivial⟩ ?_
    refine sm_w.ite (fun hc => ?_) (fun hc => ?_)
    · have h := h.1 hc
      refine sm_w.run t173 sr173 8 1 (M2 := M) (f2 := (17, [some (.int (x0))], [.int ((0 : Int32))])) rfl ⟨trivial, trivial⟩ ?_
      exact sm_w.end t173 sr173 9 (o := .returned (some (.int ((0 : Int32))))) (M2 := M) rfl rfl (by decide) (⟨_, rfl, h⟩)
    · have h := h.2 hc
      refine sm_w.run t173 sr173 6 2 (M2 := M) (f2 := (17, [some (.int (x0))], [.int ((1 : Int32))])) rfl ⟨trivial, trivial, trivial⟩ ?_
      exact sm_w.end t173 sr173 9 (o := .returned (some (.int ((1 : Int32))))) (M2 := M) rfl rfl (by decide) (⟨_, rfl, h⟩)
def p173_0 (M : sm_M) (x0 : Int32) : Int32 := if x0 < (97 : Int32) then (0 : Int32) else (if (122 : Int32) < x0 then (0 : Int32) else (1 : Int32))
theorem p173_c {M : sm_M} {x0 : Int32} (hS : SH M)  : sm_cI 173 [.int (x0)] M (fun v M2 => v = p173_0 M x0 ∧ M2 = M) := by
  refine g173_0 (K := (fun v M2 => v = p173_0 M x0 ∧ M2 = M)) hS ?_
  refine ⟨fun e1 => ?_, fun e1 => ?_⟩
  · refine ⟨?_, rfl⟩
    unfold p173_0
    rw [if_pos e1]
  · refine ⟨fun e2 => ?_, fun e2 => ?_⟩
    · refine ⟨?_, rfl⟩
      unfold p173_0
      rw [if_neg e1, if_pos e2]
    · refine ⟨?_, rfl⟩
      unfold p173_0
      rw [if_neg e1, if_neg e2]
-- 174 LineSetterModel.isDigit(I)Z
theorem t174 : sP 174 = (1, sp_174, sh_174) := rfl
theorem sr174 : sm_srt sp_174 = true := by decide +kernel
theorem g174_0 {M : sm_M} {x0 : Int32} {K : Int32 → sm_M → Prop} (hS : SH M)  (h : ((x0 < (48 : Int32) → K (0 : Int32) M) ∧ (¬ x0 < (48 : Int32) → (((57 : Int32) < x0 → K (0 : Int32) M) ∧ (¬ (57 : Int32) < x0 → K (1 : Int32) M))))) : sm_w 174 (sm_in sP 174 [.int (x0)]) M (rI K) := by
  show sm_w 174 (0, [some (.int (x0))], []) M (rI K)
  refine sm_w.run t174 sr174 0 3 (M2 := M) (f2 := (if x0 < (48 : Int32) then 16 else 6, [some (.int (x0))], [])) rfl ⟨trivial, trivial, trivial, trivial⟩ ?_
  refine sm_w.ite (fun hc => ?_) (fun hc => ?_)
  · have h := h.1 hc
    refine sm_w.run t174 sr174 8 1 (M2 := M) (f2 := (17, [some (.int (x0))], [.int ((0 : Int32))])) rfl ⟨trivial, trivial⟩ ?_
    exact sm_w.end t174 sr174 9 (o := .returned (some (.int ((0 : Int32))))) (M2 := M) rfl rfl (by decide) (⟨_, rfl, h⟩)
  · have h := h.2 hc
    refine sm_w.run t174 sr174 3 3 (M2 := M) (f2 := (if (57 : Int32) < x0 then 16 else 12, [some (.int (x0))], [])) rfl ⟨trivial, trivial, trivial, trivial⟩ ?_
    refine sm_w.ite (fun hc => ?_) (fun hc => ?_)
    · have h := h.1 hc
      refine sm_w.run t174 sr174 8 1 (M2 := M) (f2 := (17, [some (.int (x0))], [.int ((0 : Int32))])) rfl ⟨trivial, trivial⟩ ?_
      exact sm_w.end t174 sr174 9 (o := .returned (some (.int ((0 : Int32))))) (M2 := M) rfl rfl (by decide) (⟨_, rfl, h⟩)
    · have h := h.2 hc
      refine sm_w.run t174 sr174 6 2 (M2 := M) (f2 := (17, [some (.int (x0))], [.int ((1 : Int32))])) rfl ⟨trivial, trivial, trivial⟩ ?_
      exact sm_w.end t174 sr174 9 (o := .returned (some (.int ((1 : Int32))))) (M2 := M) rfl rfl (by decide) (⟨_, rfl, h⟩)
def p174_0 (M : sm_M) (x0 : Int32) : Int32 := if x0 < (48 : Int32) then (0 : Int32) else (if (57 : Int32) < x0 then (0 : Int32) else (1 : Int32))
theorem p174_c {M : sm_M} {x0 : Int32} (hS : SH M)  : sm_cI 174 [.int (x0)] M (fun v M2 => v = p174_0 M x0 ∧ M2 = M) := by
  refine g174_0 (K := (fun v M2 => v = p174_0 M x0 ∧ M2 = M)) hS ?_
  refine ⟨fun e1 => ?_, fun e1 => ?_⟩
  · refine ⟨?_, rfl⟩
    unfold p174_0
    rw [if_pos e1]
  · refine ⟨fun e2 => ?_, fun e2 => ?_⟩
    · refine ⟨?_, rfl⟩
      unfold p174_0
      rw [if_neg e1, if_pos e2]
    · refine ⟨?_, rfl⟩
      unfold p174_0
      rw [if_neg e1, if_neg e2]
