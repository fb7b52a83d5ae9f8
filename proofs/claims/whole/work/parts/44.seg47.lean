/-! METHODS by their segments. -/
-- 222 LineSetterModel.parts()I
theorem t222 : sP 222 = (2, sp_222, sh_222) := rfl
theorem sr222 : sm_srt sp_222 = true := by decide +kernel
theorem g222_0 {M : sm_M}  {K : Int32 → sm_M → Prop} (hS : SH M)  (h : sm_cV 169 [.ref 116] M (fun M1 => SH M1 → (((p166_0 M1 ((iV M1 116 4).toInt64) (1 : Int64) (60 : Int64)) = 0 → ∀ M7, SH M7 → M7 = sm_wI M1 116 0 (1 : Int32) → K (0 : Int32) M7) ∧ (¬ (p166_0 M1 ((iV M1 116 4).toInt64) (1 : Int64) (60 : Int64)) = 0 → sm_w 222 (27, [some (.ref 116), some (.int ((0 : Int32)))], []) M1 (rI K))))) : sm_w 222 (sm_in sP 222 [.ref 116]) M (rI K) := by
  show sm_w 222 (0, [some (.ref 116), none], []) M (rI K)
  refine sm_w.run t222 sr222 0 1 (M2 := M) (f2 := (1, [some (.ref 116), none], [.ref 116])) rfl ⟨trivial, trivial⟩ ?_
  refine sm_w.cV t222 sr222 1 (i := 169) (as := [.ref 116]) (g := (1, [some (.ref 116), none], [])) rfl ⟨by decide, by decide, (Nat.le_of_ble_eq_true rfl), (sm_K.g (k_116 hS) (sm_sh.rf _)).1, (sm_K.g (k_116 hS) (sm_sh.rf _)).2, (Nat.le_of_ble_eq_true rfl)⟩ (Nat.le_of_ble_eq_true rfl) (by decide) (sm_cV.s (by decide) hS h) (fun M1 h => ?_)
  obtain ⟨hS3, h⟩ := h
  refine sm_w.run t222 sr222 2 5 (M2 := M1) (f2 := (13, [some (.ref 116), none], [.long ((60 : Int64)), .long ((1 : Int64)), .long ((iV M1 116 4).toInt64)])) rfl ⟨trivial, sm_K.g (k_116 hS3) (sm_sh.rf _), trivial, trivial, trivial, trivial⟩ ?_
  refine sm_w.cI t222 sr222 7 (i := 166) (as := [.long ((iV M1 116 4).toInt64), .long ((1 : Int64)), .long ((60 : Int64))]) (g := (13, [some (.ref 116), none], [])) rfl ⟨(Nat.le_of_ble_eq_true rfl), (Nat.le_of_ble_eq_true rfl)⟩ (Nat.le_of_ble_eq_true rfl) (by decide) (p166_c hS3) (fun vz M2 hz => ?_)
  obtain ⟨hz1, hz2⟩ := hz
  subst hz1
  have hz2 := hz2.symm
  subst hz2
  refine sm_w.run t222 sr222 8 1 (M2 := M1) (f2 := (if (p166_0 M1 ((iV M1 116 4).toInt64) (1 : Int64) (60 : Int64)) = 0 then 19 else 25, [some (.ref 116), none], [])) rfl ⟨trivial, trivial⟩ ?_
  refine sm_w.ite (fun hc => ?_) (fun hc => ?_)
  · have h := h.1 hc
    refine sm_w.run t222 sr222 9 2 (M2 := M1) (f2 := (21, [some (.ref 116), none], [.int ((1 : Int32)), .ref 116])) rfl ⟨trivial, trivial, trivial⟩ ?_
    refine sm_w.cI t222 sr222 11 (i := 163) (as := [.ref 116, .int ((1 : Int32))]) (g := (21, [some (.ref 116), none], [])) rfl ⟨by decide, by decide, (Nat.le_of_ble_eq_true rfl), (sm_K.g (k_116 hS3) (sm_sh.rf _)).1, (sm_K.g (k_116 hS3) (sm_sh.rf _)).2, (Nat.le_of_ble_eq_true rfl)⟩ (Nat.le_of_ble_eq_true rfl) (by decide) (sm_cI.s2 (by decide) hS3 (g163_0 (K := fun v5 M4 => K v5 M4) hS3 h)) (fun v5 M4 h => ?_)
    obtain ⟨hS6, h⟩ := h
    exact sm_w.end t222 sr222 12 (o := .returned (some (.int (v5)))) (M2 := M4) rfl rfl (by decide) (⟨_, rfl, h⟩)
  · have h := h.2 hc
    refine sm_w.run t222 sr222 13 2 (M2 := M1) (f2 := (27, [some (.ref 116), some (.int ((0 : Int32)))], [])) rfl ⟨trivial, (Nat.le_of_ble_eq_true rfl), trivial⟩ ?_
    exact h
theorem g222_1 {M : sm_M} {x1 : Int32} {K : Int32 → sm_M → Prop} (hS : SH M)  (h : (((iV M 116 4) ≤ x1 → ∀ M1, SH M1 → M1 = sm_wI M 116 0 (0 : Int32) → sm_w 222 (66, [some (.ref 116), some (.int ((0 : Int32)))], []) M1 (rI K)) ∧ (¬ (iV M 116 4) ≤ x1 → (vp_in x1 8192) ∧ (((p200_0 M (iV M 118 x1.toNatClampNeg)) = 0 → ∀ M7, SH M7 → M7 = sm_wI M 116 0 (1 : Int32) → K (0 : Int32) M7) ∧ (¬ (p200_0 M (iV M 118 x1.toNatClampNeg)) = 0 → sm_w 222 (27, [some (.ref 116), some (.int (x1 + (1 : Int32)))], []) M (rI K)))))) : sm_w 222 (27, [some (.ref 116), some (.int (x1))], []) M (rI K) := by
  refine sm_w.run t222 sr222 15 4 (M2 := M) (f2 := (if (iV M 116 4) ≤ x1 then 59 else 35, [some (.ref 116), some (.int (x1))], [])) rfl ⟨trivial, trivial, sm_K.g (k_116 hS) (sm_sh.rf _), trivial, trivial⟩ ?_
  refine sm_w.ite (fun hc => ?_) (fun hc => ?_)
  · have h := h.1 hc
    refine sm_w.run t222 sr222 31 3 (M2 := sm_wI M 116 0 (0 : Int32)) (f2 := (64, [some (.ref 116), some (.int (x1))], [])) rfl ⟨trivial, trivial, ⟨(sm_K.p (k_116 hS) (sm_sh.rf _)).1, (sm_K.p (k_116 hS) (sm_sh.rf _)).2.1, (sm_K.p (k_116 hS) (sm_sh.rf _)).2.2, Or.inl rfl⟩, trivial⟩ ?_
    have hS2 : SH (sm_wI M 116 0 (0 : Int32)) := SH.wI hS _ _ _
    have h := h _ hS2 rfl
    generalize sm_wI M 116 0 (0 : Int32) = M1 at h hS2 ⊢
    refine sm_w.run t222 sr222 34 2 (M2 := M1) (f2 := (66, [some (.ref 116), some (.int ((0 : Int32)))], [])) rfl ⟨trivial, (Nat.le_of_ble_eq_true rfl), trivial⟩ ?_
    exact h
  · have h := h.2 hc
    refine sm_w.run t222 sr222 19 2 (M2 := M) (f2 := (39, [some (.ref 116), some (.int (x1))], [va_rf (sm_rv M 116 2)])) rfl ⟨trivial, sm_K.g (k_116 hS) (sm_sh.rf _), trivial⟩ ?_
    refine sm_w.fld (r_116_2 hS) ?_
    obtain ⟨c3, h⟩ := h
    refine sm_w.run t222 sr222 21 2 (M2 := M) (f2 := (41, [some (.ref 116), some (.int (x1))], [.int (iV M 118 x1.toNatClampNeg)])) rfl ⟨trivial, sm_K.a2 (k_118 hS) (l_118 hS) c3, trivial⟩ ?_
    refine sm_w.cI t222 sr222 23 (i := 200) (as := [.int (iV M 118 x1.toNatClampNeg)]) (g := (41, [some (.ref 116), some (.int (x1))], [])) rfl ⟨(Nat.le_of_ble_eq_true rfl), (Nat.le_of_ble_eq_true rfl)⟩ (Nat.le_of_ble_eq_true rfl) (by decide) (p200_c hS) (fun vz M2 hz => ?_)
    obtain ⟨hz1, hz2⟩ := hz
    subst hz1
    have hz2 := hz2.symm
    subst hz2
    refine sm_w.run t222 sr222 24 1 (M2 := M) (f2 := (if (p200_0 M (iV M 118 x1.toNatClampNeg)) = 0 then 47 else 53, [some (.ref 116), some (.int (x1))], [])) rfl ⟨trivial, trivial⟩ ?_
    refine sm_w.ite (fun hc => ?_) (fun hc => ?_)
    · have h := h.1 hc
      refine sm_w.run t222 sr222 25 2 (M2 := M) (f2 := (49, [some (.ref 116), some (.int (x1))], [.int ((1 : Int32)), .ref 116])) rfl ⟨trivial, trivial, trivial⟩ ?_
      refine sm_w.cI t222 sr222 27 (i := 163) (as := [.ref 116, .int ((1 : Int32))]) (g := (49, [some (.ref 116), some (.int (x1))], [])) rfl ⟨by decide, by decide, (Nat.le_of_ble_eq_true rfl), (sm_K.g (k_116 hS) (sm_sh.rf _)).1, (sm_K.g (k_116 hS) (sm_sh.rf _)).2, (Nat.le_of_ble_eq_true rfl)⟩ (Nat.le_of_ble_eq_true rfl) (by decide) (sm_cI.s2 (by decide) hS (g163_0 (K := fun v5 M4 => K v5 M4) hS h)) (fun v5 M4 h => ?_)
      obtain ⟨hS6, h⟩ := h
      exact sm_w.end t222 sr222 28 (o := .returned (some (.int (v5)))) (M2 := M4) rfl rfl (by decide) (⟨_, rfl, h⟩)
    · have h := h.2 hc
      refine sm_w.run t222 sr222 29 2 (M2 := M) (f2 := (27, [some (.ref 116), some (.int (x1 + (1 : Int32)))], [])) rfl ⟨(Nat.le_of_ble_eq_true rfl), trivial, trivial⟩ ?_
      exact h
theorem g222_2 {M : sm_M} {x1 : Int32} {K : Int32 → sm_M → Prop} (hS : SH M)  (h : (((iV M 116 4) ≤ x1 → sm_cV 202 [.ref 116, .int (iV M 116 4)] M (fun M1 => SH M1 → ∀ M4, SH M4 → M4 = sm_wI M1 116 6 (0 : Int32) → sm_w 222 (112, [some (.ref 116), some (.int ((0 : Int32)))], []) M4 (rI K))) ∧ (¬ (iV M 116 4) ≤ x1 → (vp_in x1 8192) ∧ (vp_in (x1 + (1 : Int32)) 4100) ∧ ∀ M8, SH M8 → M8 = sm_wI M 143 (x1 + (1 : Int32)).toNatClampNeg (p201_0 M (iV M 118 x1.toNatClampNeg)) → sm_w 222 (66, [some (.ref 116), some (.int (x1 + (1 : Int32)))], []) M8 (rI K)))) : sm_w 222 (66, [some (.ref 116), some (.int (x1))], []) M (rI K) := by
  refine sm_w.run t222 sr222 36 4 (M2 := M) (f2 := (if (iV M 116 4) ≤ x1 then 97 else 74, [some (.ref 116), some (.int (x1))], [])) rfl ⟨trivial, trivial, sm_K.g (k_116 hS) (sm_sh.rf _), trivial, trivial⟩ ?_
  refine sm_w.ite (fun hc => ?_) (fun hc => ?_)
  · have h := h.1 hc
    refine sm_w.run t222 sr222 53 3 (M2 := M) (f2 := (102, [some (.ref 116), some (.int (x1))], [.int (iV M 116 4), .ref 116])) rfl ⟨trivial, trivial, sm_K.g (k_116 hS) (sm_sh.rf _), trivial⟩ ?_
    refine sm_w.cV t222 sr222 56 (i := 202) (as := [.ref 116, .int (iV M 116 4)]) (g := (102, [some (.ref 116), some (.int (x1))], [])) rfl ⟨by decide, by decide, (Nat.le_of_ble_eq_true rfl), (sm_K.g (k_116 hS) (sm_sh.rf _)).1, (sm_K.g (k_116 hS) (sm_sh.rf _)).2, (Nat.le_of_ble_eq_true rfl)⟩ (Nat.le_of_ble_eq_true rfl) (by decide) (sm_cV.s (by decide) hS h) (fun M1 h => ?_)
    obtain ⟨hS3, h⟩ := h
    refine sm_w.run t222 sr222 57 3 (M2 := sm_wI M1 116 6 (0 : Int32)) (f2 := (110, [some (.ref 116), some (.int (x1))], [])) rfl ⟨trivial, trivial, ⟨(sm_K.p (k_116 hS3) (sm_sh.rf _)).1, (sm_K.p (k_116 hS3) (sm_sh.rf _)).2.1, (sm_K.p (k_116 hS3) (sm_sh.rf _)).2.2, Or.inl rfl⟩, trivial⟩ ?_
    have hS5 : SH (sm_wI M1 116 6 (0 : Int32)) := SH.wI hS3 _ _ _
    have h := h _ hS5 rfl
    generalize sm_wI M1 116 6 (0 : Int32) = M4 at h hS5 ⊢
    refine sm_w.run t222 sr222 60 2 (M2 := M4) (f2 := (112, [some (.ref 116), some (.int ((0 : Int32)))], [])) rfl ⟨trivial, (Nat.le_of_ble_eq_true rfl), trivial⟩ ?_
    exact h
  · have h := h.2 hc
    refine sm_w.run t222 sr222 40 2 (M2 := M) (f2 := (78, [some (.ref 116), some (.int (x1))], [va_rf (sm_rv M 116 51)])) rfl ⟨trivial, sm_K.g (k_116 hS) (sm_sh.rf _), trivial⟩ ?_
    refine sm_w.fld (r_116_51 hS) ?_
    refine sm_w.run t222 sr222 42 5 (M2 := M) (f2 := (85, [some (.ref 116), some (.int (x1))], [va_rf (sm_rv M 116 2), .int (x1 + (1 : Int32)), .ref 143])) rfl ⟨trivial, trivial, trivial, trivial, sm_K.g (k_116 hS) (sm_sh.rf _), trivial⟩ ?_
    refine sm_w.fld (r_116_2 hS) ?_
    obtain ⟨c6, h⟩ := h
    refine sm_w.run t222 sr222 47 2 (M2 := M) (f2 := (87, [some (.ref 116), some (.int (x1))], [.int (iV M 118 x1.toNatClampNeg), .int (x1 + (1 : Int32)), .ref 143])) rfl ⟨trivial, sm_K.a2 (k_118 hS) (l_118 hS) c6, trivial⟩ ?_
    refine sm_w.cI t222 sr222 49 (i := 201) (as := [.int (iV M 118 x1.toNatClampNeg)]) (g := (87, [some (.ref 116), some (.int (x1))], [.int (x1 + (1 : Int32)), .ref 143])) rfl ⟨(Nat.le_of_ble_eq_true rfl), (Nat.le_of_ble_eq_true rfl)⟩ (Nat.le_of_ble_eq_true rfl) (by decide) (p201_c hS) (fun vz M2 hz => ?_)
    obtain ⟨hz1, hz2⟩ := hz
    subst hz1
    have hz2 := hz2.symm
    subst hz2
    obtain ⟨c7, h⟩ := h
    refine sm_w.run t222 sr222 50 1 (M2 := sm_wI M 143 (x1 + (1 : Int32)).toNatClampNeg (p201_0 M (iV M 118 x1.toNatClampNeg))) (f2 := (91, [some (.ref 116), some (.int (x1))], [])) rfl ⟨sm_K.s2 (k_143 hS) (l_143 hS) c7, trivial⟩ ?_
    have hS9 : SH (sm_wI M 143 (x1 + (1 : Int32)).toNatClampNeg (p201_0 M (iV M 118 x1.toNatClampNeg))) := SH.wI hS _ _ _
    have h := h _ hS9 rfl
    generalize sm_wI M 143 (x1 + (1 : Int32)).toNatClampNeg (p201_0 M (iV M 118 x1.toNatClampNeg)) = M8 at h hS9 ⊢
    refine sm_w.run t222 sr222 51 2 (M2 := M8) (f2 := (66, [some (.ref 116), some (.int (x1 + (1 : Int32)))], [])) rfl ⟨(Nat.le_of_ble_eq_true rfl), trivial, trivial⟩ ?_
    exact h
theorem g222_3 {M : sm_M} {x1 : Int32} {K : Int32 → sm_M → Prop} (hS : SH M)  (h : (((iV M 116 4) ≤ x1 → K (iV M 116 6) M) ∧ (¬ (iV M 116 4) ≤ x1 → ((x1 ≤ 0 → (vp_in x1 8192) ∧ (vp_in (iV M 116 6) 6001) ∧ ∀ M3, SH M3 → M3 = sm_wI M 119 (iV M 116 6).toNatClampNeg (iV M 118 x1.toNatClampNeg) → ∀ M5, SH M5 → M5 = sm_wI M3 116 6 ((iV M3 116 6) + (1 : Int32)) → sm_w 222 (112, [some (.ref 116), some (.int (x1 + (1 : Int32)))], []) M5 (rI K)) ∧ (¬ x1 ≤ 0 → (vp_in x1 4100) ∧ (((iV M 145 x1.toNatClampNeg) = 0 → (vp_in x1 8192) ∧ (vp_in (iV M 116 6) 6001) ∧ ∀ M10, SH M10 → M10 = sm_wI M 119 (iV M 116 6).toNatClampNeg (iV M 118 x1.toNatClampNeg) → ∀ M12, SH M12 → M12 = sm_wI M10 116 6 ((iV M10 116 6) + (1 : Int32)) → sm_w 222 (112, [some (.ref 116), some (.int (x1 + (1 : Int32)))], []) M12 (rI K)) ∧ (¬ (iV M 145 x1.toNatClampNeg) = 0 → (vp_in (iV M 116 6) 6001) ∧ ∀ M15, SH M15 → M15 = sm_wI M 119 (iV M 116 6).toNatClampNeg (45 : Int32) → ∀ M17, SH M17 → M17 = sm_wI M15 116 6 ((iV M15 116 6) + (1 : Int32)) → (vp_in x1 8192) ∧ (vp_in (iV M17 116 6) 6001) ∧ ∀ M21, SH M21 → M21 = sm_wI M17 119 (iV M17 116 6).toNatClampNeg (iV M17 118 x1.toNatClampNeg) → ∀ M23, SH M23 → M23 = sm_wI M21 116 6 ((iV M21 116 6) + (1 : Int32)) → sm_w 222 (112, [some (.ref 116), some (.int (x1 + (1 : Int32)))], []) M23 (rI K)))))))) : sm_w 222 (112, [some (.ref 116), some (.int (x1))], []) M (rI K) := by
  refine sm_w.run t222 sr222 62 4 (M2 := M) (f2 := (if (iV M 116 4) ≤ x1 then 185 else 120, [some (.ref 116), some (.int (x1))], [])) rfl ⟨trivial, trivial, sm_K.g (k_116 hS) (sm_sh.rf _), trivial, trivial⟩ ?_
  refine sm_w.ite (fun hc => ?_) (fun hc => ?_)
  · have h := h.1 hc
    refine sm_w.run t222 sr222 102 2 (M2 := M) (f2 := (189, [some (.ref 116), some (.int (x1))], [.int (iV M 116 6)])) rfl ⟨trivial, sm_K.g (k_116 hS) (sm_sh.rf _), trivial⟩ ?_
    exact sm_w.end t222 sr222 104 (o := .returned (some (.int (iV M 116 6)))) (M2 := M) rfl rfl (by decide) (⟨_, rfl, h⟩)
  · have h := h.2 hc
    refine sm_w.run t222 sr222 66 2 (M2 := M) (f2 := (if x1 ≤ 0 then 154 else 124, [some (.ref 116), some (.int (x1))], [])) rfl ⟨trivial, trivial, trivial⟩ ?_
    refine sm_w.ite (fun hc => ?_) (fun hc => ?_)
    · have h := h.1 hc
      refine sm_w.run t222 sr222 85 2 (M2 := M) (f2 := (158, [some (.ref 116), some (.int (x1))], [va_rf (sm_rv M 116 5)])) rfl ⟨trivial, sm_K.g (k_116 hS) (sm_sh.rf _), trivial⟩ ?_
      refine sm_w.fld (r_116_5 hS) ?_
      refine sm_w.run t222 sr222 87 4 (M2 := M) (f2 := (166, [some (.ref 116), some (.int (x1))], [va_rf (sm_rv M 116 2), .int (iV M 116 6), .ref 119])) rfl ⟨trivial, sm_K.g (k_116 hS) (sm_sh.rf _), trivial, sm_K.g (k_116 hS) (sm_sh.rf _), trivial⟩ ?_
      refine sm_w.fld (r_116_2 hS) ?_
      obtain ⟨c1, c2, h⟩ := h
      refine sm_w.run t222 sr222 91 3 (M2 := sm_wI M 119 (iV M 116 6).toNatClampNeg (iV M 118 x1.toNatClampNeg)) (f2 := (169, [some (.ref 116), some (.int (x1))], [])) rfl ⟨trivial, sm_K.a2 (k_118 hS) (l_118 hS) c1, sm_K.s2 (k_119 hS) (l_119 hS) c2, trivial⟩ ?_
      have hS4 : SH (sm_wI M 119 (iV M 116 6).toNatClampNeg (iV M 118 x1.toNatClampNeg)) := SH.wI hS _ _ _
      have h := h _ hS4 rfl
      generalize sm_wI M 119 (iV M 116 6).toNatClampNeg (iV M 118 x1.toNatClampNeg) = M3 at h hS4 ⊢
      refine sm_w.run t222 sr222 94 6 (M2 := sm_wI M3 116 6 ((iV M3 116 6) + (1 : Int32))) (f2 := (179, [some (.ref 116), some (.int (x1))], [])) rfl ⟨trivial, rfl, sm_K.g (k_116 hS4) (sm_sh.rf _), trivial, trivial, ⟨(sm_K.p (k_116 hS4) (sm_sh.rf _)).1, (sm_K.p (k_116 hS4) (sm_sh.rf _)).2.1, (sm_K.p (k_116 hS4) (sm_sh.rf _)).2.2, Or.inl rfl⟩, trivial⟩ ?_
      have hS6 : SH (sm_wI M3 116 6 ((iV M3 116 6) + (1 : Int32))) := SH.wI hS4 _ _ _
      have h := h _ hS6 rfl
      generalize sm_wI M3 116 6 ((iV M3 116 6) + (1 : Int32)) = M5 at h hS6 ⊢
      refine sm_w.run t222 sr222 100 2 (M2 := M5) (f2 := (112, [some (.ref 116), some (.int (x1 + (1 : Int32)))], [])) rfl ⟨(Nat.le_of_ble_eq_true rfl), trivial, trivial⟩ ?_
      exact h
    · have h := h.2 hc
      refine sm_w.run t222 sr222 68 2 (M2 := M) (f2 := (128, [some (.ref 116), some (.int (x1))], [va_rf (sm_rv M 116 53)])) rfl ⟨trivial, sm_K.g (k_116 hS) (sm_sh.rf _), trivial⟩ ?_
      refine sm_w.fld (r_116_53 hS) ?_
      obtain ⟨c7, h⟩ := h
      refine sm_w.run t222 sr222 70 3 (M2 := M) (f2 := (if (iV M 145 x1.toNatClampNeg) = 0 then 154 else 133, [some (.ref 116), some (.int (x1))], [])) rfl ⟨trivial, sm_K.a2 (k_145 hS) (l_145 hS) c7, trivial, trivial⟩ ?_
      refine sm_w.ite (fun hc => ?_) (fun hc => ?_)
      · have h := h.1 hc
        refine sm_w.run t222 sr222 85 2 (M2 := M) (f2 := (158, [some (.ref 116), some (.int (x1))], [va_rf (sm_rv M 116 5)])) rfl ⟨trivial, sm_K.g (k_116 hS) (sm_sh.rf _), trivial⟩ ?_
        refine sm_w.fld (r_116_5 hS) ?_
        refine sm_w.run t222 sr222 87 4 (M2 := M) (f2 := (166, [some (.ref 116), some (.int (x1))], [va_rf (sm_rv M 116 2), .int (iV M 116 6), .ref 119])) rfl ⟨trivial, sm_K.g (k_116 hS) (sm_sh.rf _), trivial, sm_K.g (k_116 hS) (sm_sh.rf _), trivial⟩ ?_
        refine sm_w.fld (r_116_2 hS) ?_
        obtain ⟨c8, c9, h⟩ := h
        refine sm_w.run t222 sr222 91 3 (M2 := sm_wI M 119 (iV M 116 6).toNatClampNeg (iV M 118 x1.toNatClampNeg)) (f2 := (169, [some (.ref 116), some (.int (x1))], [])) rfl ⟨trivial, sm_K.a2 (k_118 hS) (l_118 hS) c8, sm_K.s2 (k_119 hS) (l_119 hS) c9, trivial⟩ ?_
        have hS11 : SH (sm_wI M 119 (iV M 116 6).toNatClampNeg (iV M 118 x1.toNatClampNeg)) := SH.wI hS _ _ _
        have h := h _ hS11 rfl
        generalize sm_wI M 119 (iV M 116 6).toNatClampNeg (iV M 118 x1.toNatClampNeg) = M10 at h hS11 ⊢
        refine sm_w.run t222 sr222 94 6 (M2 := sm_wI M10 116 6 ((iV M10 116 6) + (1 : Int32))) (f2 := (179, [some (.ref 116), some (.int (x1))], [])) rfl ⟨trivial, rfl, sm_K.g (k_116 hS11) (sm_sh.rf _), trivial, trivial, ⟨(sm_K.p (k_116 hS11) (sm_sh.rf _)).1, (sm_K.p (k_116 hS11) (sm_sh.rf _)).2.1, (sm_K.p (k_116 hS11) (sm_sh.rf _)).2.2, Or.inl rfl⟩, trivial⟩ ?_
        have hS13 : SH (sm_wI M10 116 6 ((iV M10 116 6) + (1 : Int32))) := SH.wI hS11 _ _ _
        have h := h _ hS13 rfl
        generalize sm_wI M10 116 6 ((iV M10 116 6) + (1 : Int32)) = M12 at h hS13 ⊢
        refine sm_w.run t222 sr222 100 2 (M2 := M12) (f2 := (112, [some (.ref 116), some (.int (x1 + (1 : Int32)))], [])) rfl ⟨(Nat.le_of_ble_eq_true rfl), trivial, trivial⟩ ?_
        exact h
      · have h := h.2 hc
        refine sm_w.run t222 sr222 73 2 (M2 := M) (f2 := (137, [some (.ref 116), some (.int (x1))], [va_rf (sm_rv M 116 5)])) rfl ⟨trivial, sm_K.g (k_116 hS) (sm_sh.rf _), trivial⟩ ?_
        refine sm_w.fld (r_116_5 hS) ?_
        obtain ⟨c14, h⟩ := h
        refine sm_w.run t222 sr222 75 4 (M2 := sm_wI M 119 (iV M 116 6).toNatClampNeg (45 : Int32)) (f2 := (144, [some (.ref 116), some (.int (x1))], [])) rfl ⟨trivial, sm_K.g (k_116 hS) (sm_sh.rf _), trivial, sm_K.s2 (k_119 hS) (l_119 hS) c14, trivial⟩ ?_
        have hS16 : SH (sm_wI M 119 (iV M 116 6).toNatClampNeg (45 : Int32)) := SH.wI hS _ _ _
        have h := h _ hS16 rfl
        generalize sm_wI M 119 (iV M 116 6).toNatClampNeg (45 : Int32) = M15 at h hS16 ⊢
        refine sm_w.run t222 sr222 79 6 (M2 := sm_wI M15 116 6 ((iV M15 116 6) + (1 : Int32))) (f2 := (154, [some (.ref 116), some (.int (x1))], [])) rfl ⟨trivial, rfl, sm_K.g (k_116 hS16) (sm_sh.rf _), trivial, trivial, ⟨(sm_K.p (k_116 hS16) (sm_sh.rf _)).1, (sm_K.p (k_116 hS16) (sm_sh.rf _)).2.1, (sm_K.p (k_116 hS16) (sm_sh.rf _)).2.2, Or.inl rfl⟩, trivial⟩ ?_
        have hS18 : SH (sm_wI M15 116 6 ((iV M15 116 6) + (1 : Int32))) := SH.wI hS16 _ _ _
        have h := h _ hS18 rfl
        generalize sm_wI M15 116 6 ((iV M15 116 6) + (1 : Int32)) = M17 at h hS18 ⊢
        refine sm_w.run t222 sr222 85 2 (M2 := M17) (f2 := (158, [some (.ref 116), some (.int (x1))], [va_rf (sm_rv M17 116 5)])) rfl ⟨trivial, sm_K.g (k_116 hS18) (sm_sh.rf _), trivial⟩ ?_
        refine sm_w.fld (r_116_5 hS18) ?_
        refine sm_w.run t222 sr222 87 4 (M2 := M17) (f2 := (166, [some (.ref 116), some (.int (x1))], [va_rf (sm_rv M17 116 2), .int (iV M17 116 6), .ref 119])) rfl ⟨trivial, sm_K.g (k_116 hS18) (sm_sh.rf _), trivial, sm_K.g (k_116 hS18) (sm_sh.rf _), trivial⟩ ?_
        refine sm_w.fld (r_116_2 hS18) ?_
        obtain ⟨c19, c20, h⟩ := h
        refine sm_w.run t222 sr222 91 3 (M2 := sm_wI M17 119 (iV M17 116 6).toNatClampNeg (iV M17 118 x1.toNatClampNeg)) (f2 := (169, [some (.ref 116), some (.int (x1))], [])) rfl ⟨trivial, sm_K.a2 (k_118 hS18) (l_118 hS18) c19, sm_K.s2 (k_119 hS18) (l_119 hS18) c20, trivial⟩ ?_
        have hS22 : SH (sm_wI M17 119 (iV M17 116 6).toNatClampNeg (iV M17 118 x1.toNatClampNeg)) := SH.wI hS18 _ _ _
        have h := h _ hS22 rfl
        generalize sm_wI M17 119 (iV M17 116 6).toNatClampNeg (iV M17 118 x1.toNatClampNeg) = M21 at h hS22 ⊢
        refine sm_w.run t222 sr222 94 6 (M2 := sm_wI M21 116 6 ((iV M21 116 6) + (1 : Int32))) (f2 := (179, [some (.ref 116), some (.int (x1))], [])) rfl ⟨trivial, rfl, sm_K.g (k_116 hS22) (sm_sh.rf _), trivial, trivial, ⟨(sm_K.p (k_116 hS22) (sm_sh.rf _)).1, (sm_K.p (k_116 hS22) (sm_sh.rf _)).2.1, (sm_K.p (k_116 hS22) (sm_sh.rf _)).2.2, Or.inl rfl⟩, trivial⟩ ?_
        have hS24 : SH (sm_wI M21 116 6 ((iV M21 116 6) + (1 : Int32))) := SH.wI hS22 _ _ _
        have h := h _ hS24 rfl
        generalize sm_wI M21 116 6 ((iV M21 116 6) + (1 : Int32)) = M23 at h hS24 ⊢
        refine sm_w.run t222 sr222 100 2 (M2 := M23) (f2 := (112, [some (.ref 116), some (.int (x1 + (1 : Int32)))], [])) rfl ⟨(Nat.le_of_ble_eq_true rfl), trivial, trivial⟩ ?_
        exact h
-- 223 LineSetterModel.word(I)J
theorem t223 : sP 223 = (5, sp_223, sh_223) := rfl
theorem sr223 : sm_srt sp_223 = true := by decide +kernel
theorem g223_0 {M : sm_M} {x1 : Int32} {K : Int64 → sm_M → Prop} (hS : SH M)  (h : (((p166_0 M x1.toInt64 (0 : Int64) (((iV M 116 6) - (1 : Int32)).toInt64)) = 0 → ∀ M4, SH M4 → M4 = sm_wI M 116 0 (1 : Int32) → K (0 : Int32).toInt64 M4) ∧ (¬ (p166_0 M x1.toInt64 (0 : Int64) (((iV M 116 6) - (1 : Int32)).toInt64)) = 0 → ∀ M6, SH M6 → M6 = sm_wI M 116 0 (0 : Int32) → sm_w 223 (33, [some (.ref 116), some (.int (x1)), some (.long ((0 : Int64))), none, some (.int (x1))], []) M6 (rJ K)))) : sm_w 223 (sm_in sP 223 [.ref 116, .int (x1)]) M (rJ K) := by
  show sm_w 223 (0, [some (.ref 116), some (.int (x1)), none, none, none], []) M (rJ K)
  refine sm_w.run t223 sr223 0 8 (M2 := M) (f2 := (10, [some (.ref 116), some (.int (x1)), none, none, none], [.long (((iV M 116 6) - (1 : Int32)).toInt64), .long ((0 : Int64)), .long (x1.toInt64)])) rfl ⟨trivial, trivial, trivial, trivial, sm_K.g (k_116 hS) (sm_sh.rf _), trivial, trivial, trivial, trivial⟩ ?_
  refine sm_w.cI t223 sr223 8 (i := 166) (as := [.long (x1.toInt64), .long ((0 : Int64)), .long (((iV M 116 6) - (1 : Int32)).toInt64)]) (g := (10, [some (.ref 116), some (.int (x1)), none, none, none], [])) rfl ⟨(Nat.le_of_ble_eq_true rfl), (Nat.le_of_ble_eq_true rfl)⟩ (Nat.le_of_ble_eq_true rfl) (by decide) (p166_c hS) (fun vz M2 hz => ?_)
  obtain ⟨hz1, hz2⟩ := hz
  subst hz1
  have hz2 := hz2.symm
  subst hz2
  refine sm_w.run t223 sr223 9 1 (M2 := M) (f2 := (if (p166_0 M x1.toInt64 (0 : Int64) (((iV M 116 6) - (1 : Int32)).toInt64)) = 0 then 16 else 23, [some (.ref 116), some (.int (x1)), none, none, none], [])) rfl ⟨trivial, trivial⟩ ?_
  refine sm_w.ite (fun hc => ?_) (fun hc => ?_)
  · have h := h.1 hc
    refine sm_w.run t223 sr223 10 2 (M2 := M) (f2 := (18, [some (.ref 116), some (.int (x1)), none, none, none], [.int ((1 : Int32)), .ref 116])) rfl ⟨trivial, trivial, trivial⟩ ?_
    refine sm_w.cI t223 sr223 12 (i := 163) (as := [.ref 116, .int ((1 : Int32))]) (g := (18, [some (.ref 116), some (.int (x1)), none, none, none], [])) rfl ⟨by decide, by decide, (Nat.le_of_ble_eq_true rfl), (sm_K.g (k_116 hS) (sm_sh.rf _)).1, (sm_K.g (k_116 hS) (sm_sh.rf _)).2, (Nat.le_of_ble_eq_true rfl)⟩ (Nat.le_of_ble_eq_true rfl) (by decide) (sm_cI.s2 (by decide) hS (g163_0 (K := fun v2 M1 => K v2.toInt64 M1) hS h)) (fun v2 M1 h => ?_)
    obtain ⟨hS3, h⟩ := h
    refine sm_w.run t223 sr223 13 1 (M2 := M1) (f2 := (22, [some (.ref 116), some (.int (x1)), none, none, none], [.long (v2.toInt64)])) rfl ⟨trivial, trivial⟩ ?_
    exact sm_w.end t223 sr223 14 (o := .returned (some (.long (v2.toInt64)))) (M2 := M1) rfl trivial (by decide) (⟨_, rfl, h⟩)
  · have h := h.2 hc
    refine sm_w.run t223 sr223 15 3 (M2 := sm_wI M 116 0 (0 : Int32)) (f2 := (28, [some (.ref 116), some (.int (x1)), none, none, none], [])) rfl ⟨trivial, trivial, ⟨(sm_K.p (k_116 hS) (sm_sh.rf _)).1, (sm_K.p (k_116 hS) (sm_sh.rf _)).2.1, (sm_K.p (k_116 hS) (sm_sh.rf _)).2.2, Or.inl rfl⟩, trivial⟩ ?_
    have hS7 : SH (sm_wI M 116 0 (0 : Int32)) := SH.wI hS _ _ _
    have h := h _ hS7 rfl
    generalize sm_wI M 116 0 (0 : Int32) = M6 at h hS7 ⊢
    refine sm_w.run t223 sr223 18 4 (M2 := M6) (f2 := (33, [some (.ref 116), some (.int (x1)), some (.long ((0 : Int64))), none, some (.int (x1))], [])) rfl ⟨trivial, (Nat.le_of_ble_eq_true rfl), trivial, (Nat.le_of_ble_eq_true rfl), trivial⟩ ?_
    exact h
theorem g223_1 {M : sm_M} {x1 : Int32} {x2 : Int64} {x4 : Int32} {K : Int64 → sm_M → Prop} (hS : SH M)  (h : (((x1 + (8 : Int32)) ≤ x4 → K x2 M) ∧ (¬ (x1 + (8 : Int32)) ≤ x4 → (((iV M 116 6) ≤ x4 → sm_w 223 (33, [some (.ref 116), some (.int (x1)), some (.long ((x2 <<< ((8 : Int32).toInt64 &&& 63)) ||| ((0 : Int32).toInt64))), none, some (.int (x4 + (1 : Int32)))], []) M (rJ K)) ∧ (¬ (iV M 116 6) ≤ x4 → (vp_in x4 6001) ∧ sm_w 223 (33, [some (.ref 116), some (.int (x1)), some (.long ((x2 <<< ((8 : Int32).toInt64 &&& 63)) ||| ((iV M 119 x4.toNatClampNeg).toInt64))), none, some (.int (x4 + (1 : Int32)))], []) M (rJ K)))))) : sm_w 223 (33, [some (.ref 116), some (.int (x1)), some (.long (x2)), none, some (.int (x4))], []) M (rJ K) := by
  refine sm_w.run t223 sr223 22 5 (M2 := M) (f2 := (if (x1 + (8 : Int32)) ≤ x4 then 75 else 42, [some (.ref 116), some (.int (x1)), some (.long (x2)), none, some (.int (x4))], [])) rfl ⟨trivial, trivial, trivial, trivial, trivial, trivial⟩ ?_
  refine sm_w.ite (fun hc => ?_) (fun hc => ?_)
  · have h := h.1 hc
    refine sm_w.run t223 sr223 45 1 (M2 := M) (f2 := (76, [some (.ref 116), some (.int (x1)), some (.long (x2)), none, some (.int (x4))], [.long (x2)])) rfl ⟨trivial, trivial⟩ ?_
    exact sm_w.end t223 sr223 46 (o := .returned (some (.long (x2)))) (M2 := M) rfl trivial (by decide) (⟨_, rfl, h⟩)
  · have h := h.2 hc
    refine sm_w.run t223 sr223 27 7 (M2 := M) (f2 := (if (iV M 116 6) ≤ x4 then 65 else 55, [some (.ref 116), some (.int (x1)), some (.long (x2)), none, some (.int (x4))], [.long (x2 <<< ((8 : Int32).toInt64 &&& 63))])) rfl ⟨trivial, trivial, trivial, trivial, trivial, sm_K.g (k_116 hS) (sm_sh.rf _), trivial, trivial⟩ ?_
    refine sm_w.ite (fun hc => ?_) (fun hc => ?_)
    · have h := h.1 hc
      refine sm_w.run t223 sr223 39 6 (M2 := M) (f2 := (33, [some (.ref 116), some (.int (x1)), some (.long ((x2 <<< ((8 : Int32).toInt64 &&& 63)) ||| ((0 : Int32).toInt64))), none, some (.int (x4 + (1 : Int32)))], [])) rfl ⟨trivial, trivial, trivial, (Nat.le_of_ble_eq_true rfl), (Nat.le_of_ble_eq_true rfl), trivial, trivial⟩ ?_
      exact h
    · have h := h.2 hc
      refine sm_w.run t223 sr223 34 2 (M2 := M) (f2 := (59, [some (.ref 116), some (.int (x1)), some (.long (x2)), none, some (.int (x4))], [va_rf (sm_rv M 116 5), .long (x2 <<< ((8 : Int32).toInt64 &&& 63))])) rfl ⟨trivial, sm_K.g (k_116 hS) (sm_sh.rf _), trivial⟩ ?_
      refine sm_w.fld (r_116_5 hS) ?_
      obtain ⟨c1, h⟩ := h
      refine sm_w.run t223 sr223 36 3 (M2 := M) (f2 := (66, [some (.ref 116), some (.int (x1)), some (.long (x2)), none, some (.int (x4))], [.int (iV M 119 x4.toNatClampNeg), .long (x2 <<< ((8 : Int32).toInt64 &&& 63))])) rfl ⟨trivial, sm_K.a2 (k_119 hS) (l_119 hS) c1, trivial, trivial⟩ ?_
      refine sm_w.run t223 sr223 40 5 (M2 := M) (f2 := (33, [some (.ref 116), some (.int (x1)), some (.long ((x2 <<< ((8 : Int32).toInt64 &&& 63)) ||| ((iV M 119 x4.toNatClampNeg).toInt64))), none, some (.int (x4 + (1 : Int32)))], [])) rfl ⟨trivial, trivial, (Nat.le_of_ble_eq_true rfl), (Nat.le_of_ble_eq_true rfl), trivial, trivial⟩ ?_
      exact h
-- 224 LineSetterModel.count(I)I
theorem t224 : sP 224 = (2, sp_224, sh_224) := rfl
theorem sr224 : sm_srt sp_224 = true := by decide +kernel
theorem g224_0 {M : sm_M} {x1 : Int32} {K : Int32 → sm_M → Prop} (hS : SH M)  (h : (((p166_0 M x1.toInt64 (0 : Int64) (2 : Int64)) = 0 → ∀ M4, SH M4 → M4 = sm_wI M 116 0 (1 : Int32) → K (0 : Int32) M4) ∧ (¬ (p166_0 M x1.toInt64 (0 : Int64) (2 : Int64)) = 0 → ∀ M6, SH M6 → M6 = sm_wI M 116 0 (0 : Int32) → ((x1 = 0 → K (iV M6 116 3) M6) ∧ (¬ x1 = 0 → ((x1 = (1 : Int32) → K (iV M6 116 6) M6) ∧ (¬ x1 = (1 : Int32) → K (iV M6 116 56) M6))))))) : sm_w 224 (sm_in sP 224 [.ref 116, .int (x1)]) M (rI K) := by
  show sm_w 224 (0, [some (.ref 116), some (.int (x1))], []) M (rI K)
  refine sm_w.run t224 sr224 0 4 (M2 := M) (f2 := (6, [some (.ref 116), some (.int (x1))], [.long ((2 : Int64)), .long ((0 : Int64)), .long (x1.toInt64)])) rfl ⟨trivial, trivial, trivial, trivial, trivial⟩ ?_
  refine sm_w.cI t224 sr224 4 (i := 166) (as := [.long (x1.toInt64), .long ((0 : Int64)), .long ((2 : Int64))]) (g := (6, [some (.ref 116), some (.int (x1))], [])) rfl ⟨(Nat.le_of_ble_eq_true rfl), (Nat.le_of_ble_eq_true rfl)⟩ (Nat.le_of_ble_eq_true rfl) (by decide) (p166_c hS) (fun vz M2 hz => ?_)
  obtain ⟨hz1, hz2⟩ := hz
  subst hz1
  have hz2 := hz2.symm
  subst hz2
  refine sm_w.run t224 sr224 5 1 (M2 := M) (f2 := (if (p166_0 M x1.toInt64 (0 : Int64) (2 : Int64)) = 0 then 12 else 18, [some (.ref 116), some (.int (x1))], [])) rfl ⟨trivial, trivial⟩ ?_
  refine sm_w.ite (fun hc => ?_) (fun hc => ?_)
  · have h := h.1 hc
    refine sm_w.run t224 sr224 6 2 (M2 := M) (f2 := (14, [some (.ref 116), some (.int (x1))], [.int ((1 : Int32)), .ref 116])) rfl ⟨trivial, trivial, trivial⟩ ?_
    refine sm_w.cI t224 sr224 8 (i := 163) (as := [.ref 116, .int ((1 : Int32))]) (g := (14, [some (.ref 116), some (.int (x1))], [])) rfl ⟨by decide, by decide, (Nat.le_of_ble_eq_true rfl), (sm_K.g (k_116 hS) (sm_sh.rf _)).1, (sm_K.g (k_116 hS) (sm_sh.rf _)).2, (Nat.le_of_ble_eq_true rfl)⟩ (Nat.le_of_ble_eq_true rfl) (by decide) (sm_cI.s2 (by decide) hS (g163_0 (K := fun v2 M1 => K v2 M1) hS h)) (fun v2 M1 h => ?_)
    obtain ⟨hS3, h⟩ := h
    exact sm_w.end t224 sr224 9 (o := .returned (some (.int (v2)))) (M2 := M1) rfl rfl (by decide) (⟨_, rfl, h⟩)
  · have h := h.2 hc
    refine sm_w.run t224 sr224 10 3 (M2 := sm_wI M 116 0 (0 : Int32)) (f2 := (23, [some (.ref 116), some (.int (x1))], [])) rfl ⟨trivial, trivial, ⟨(sm_K.p (k_116 hS) (sm_sh.rf _)).1, (sm_K.p (k_116 hS) (sm_sh.rf _)).2.1, (sm_K.p (k_116 hS) (sm_sh.rf _)).2.2, Or.inl rfl⟩, trivial⟩ ?_
    have hS7 : SH (sm_wI M 116 0 (0 : Int32)) := SH.wI hS _ _ _
    have h := h _ hS7 rfl
    generalize sm_wI M 116 0 (0 : Int32) = M6 at h hS7 ⊢
    refine sm_w.run t224 sr224 13 2 (M2 := M6) (f2 := (if x1 = 0 then 27 else 34, [some (.ref 116), some (.int (x1))], [])) rfl ⟨trivial, trivial, trivial⟩ ?_
    refine sm_w.ite (fun hc => ?_) (fun hc => ?_)
    · have h := h.1 hc
      refine sm_w.run t224 sr224 15 3 (M2 := M6) (f2 := (50, [some (.ref 116), some (.int (x1))], [.int (iV M6 116 3)])) rfl ⟨trivial, sm_K.g (k_116 hS7) (sm_sh.rf _), trivial, trivial⟩ ?_
      exact sm_w.end t224 sr224 26 (o := .returned (some (.int (iV M6 116 3)))) (M2 := M6) rfl rfl (by decide) (⟨_, rfl, h⟩)
    · have h := h.2 hc
      refine sm_w.run t224 sr224 18 3 (M2 := M6) (f2 := (if x1 = (1 : Int32) then 39 else 46, [some (.ref 116), some (.int (x1))], [])) rfl ⟨trivial, trivial, trivial, trivial⟩ ?_
      refine sm_w.ite (fun hc => ?_) (fun hc => ?_)
      · have h := h.1 hc
        refine sm_w.run t224 sr224 21 3 (M2 := M6) (f2 := (50, [some (.ref 116), some (.int (x1))], [.int (iV M6 116 6)])) rfl ⟨trivial, sm_K.g (k_116 hS7) (sm_sh.rf _), trivial, trivial⟩ ?_
        exact sm_w.end t224 sr224 26 (o := .returned (some (.int (iV M6 116 6)))) (M2 := M6) rfl rfl (by decide) (⟨_, rfl, h⟩)
      · have h := h.2 hc
        refine sm_w.run t224 sr224 24 2 (M2 := M6) (f2 := (50, [some (.ref 116), some (.int (x1))], [.int (iV M6 116 56)])) rfl ⟨trivial, sm_K.g (k_116 hS7) (sm_sh.rf _), trivial⟩ ?_
        exact sm_w.end t224 sr224 26 (o := .returned (some (.int (iV M6 116 56)))) (M2 := M6) rfl rfl (by decide) (⟨_, rfl, h⟩)
