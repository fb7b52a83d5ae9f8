/-! METHODS by their segments. -/
-- 205 LineSetterModel.makeBreaks()V
theorem t205 : sP 205 = (7, sp_205, sh_205) := rfl
theorem sr205 : sm_srt sp_205 = true := by decide +kernel
theorem g205_0 {M : sm_M}  {K : sm_M → Prop} (hS : SH M)  (h : ∀ M1, SH M1 → M1 = sm_wI M 116 63 (0 : Int32) → ∀ M3, SH M3 → M3 = sm_wJ M1 116 67 (0 : Int64) → sm_w 205 (14, [some (.ref 116), some (.int ((0 : Int32))), some (.int ((1 : Int32))), none, none, none, none], []) M3 (rV K)) : sm_w 205 (sm_in sP 205 [.ref 116]) M (rV K) := by
  show sm_w 205 (0, [some (.ref 116), none, none, none, none, none, none], []) M (rV K)
  refine sm_w.run t205 sr205 0 3 (M2 := sm_wI M 116 63 (0 : Int32)) (f2 := (5, [some (.ref 116), none, none, none, none, none, none], [])) rfl ⟨trivial, trivial, ⟨(sm_K.p (k_116 hS) (sm_sh.rf _)).1, (sm_K.p (k_116 hS) (sm_sh.rf _)).2.1, (sm_K.p (k_116 hS) (sm_sh.rf _)).2.2, Or.inl rfl⟩, trivial⟩ ?_
  have hS2 : SH (sm_wI M 116 63 (0 : Int32)) := SH.wI hS _ _ _
  have h := h _ hS2 rfl
  generalize sm_wI M 116 63 (0 : Int32) = M1 at h hS2 ⊢
  refine sm_w.run t205 sr205 3 3 (M2 := sm_wJ M1 116 67 (0 : Int64)) (f2 := (10, [some (.ref 116), none, none, none, none, none, none], [])) rfl ⟨trivial, trivial, ⟨(sm_K.p (k_116 hS2) (sm_sh.rf _)).1, (sm_K.p (k_116 hS2) (sm_sh.rf _)).2.1, (sm_K.p (k_116 hS2) (sm_sh.rf _)).2.2, rfl⟩, trivial⟩ ?_
  have hS4 : SH (sm_wJ M1 116 67 (0 : Int64)) := SH.wJ hS2 _ _ _
  have h := h _ hS4 rfl
  generalize sm_wJ M1 116 67 (0 : Int64) = M3 at h hS4 ⊢
  refine sm_w.run t205 sr205 6 4 (M2 := M3) (f2 := (14, [some (.ref 116), some (.int ((0 : Int32))), some (.int ((1 : Int32))), none, none, none, none], [])) rfl ⟨trivial, (Nat.le_of_ble_eq_true rfl), trivial, (Nat.le_of_ble_eq_true rfl), trivial⟩ ?_
  exact h
theorem g205_1 {M : sm_M} {x1 : Int32} {x2 : Int32} {K : sm_M → Prop} (hS : SH M)  (h : (((iV M 116 56) < x2 → K M) ∧ (¬ (iV M 116 56) < x2 → (q204_0 M x2) ∧ ((0 ≤ (p204_0 M x2) → sm_cJ 194 [.ref 116, .ref 146, .ref 147, .int (x1), .int (x2)] M (fun v3 M2 => SH M2 → (vp_in ((iV M 116 63) + (1 : Int32)) 602) ∧ ∀ M6, SH M6 → M6 = sm_wI M2 150 ((iV M 116 63) + (1 : Int32)).toNatClampNeg (p204_0 M x2) → (vp_in ((iV M 116 63) + (1 : Int32)) 602) ∧ ∀ M9, SH M9 → M9 = sm_wI M6 151 ((iV M 116 63) + (1 : Int32)).toNatClampNeg x2 → (vp_in (((iV M 116 63) + (1 : Int32)) - (1 : Int32)) 602) ∧ (vp_in ((iV M 116 63) + (1 : Int32)) 602) ∧ ∀ M13, SH M13 → M13 = sm_wJ M9 152 ((iV M 116 63) + (1 : Int32)).toNatClampNeg ((jV M9 152 (((iV M 116 63) + (1 : Int32)) - (1 : Int32)).toNatClampNeg) + v3) → (vp_in (((iV M 116 63) + (1 : Int32)) - (1 : Int32)) 602) ∧ (vp_in ((iV M 116 63) + (1 : Int32)) 602) ∧ ∀ M17, SH M17 → M17 = sm_wJ M13 153 ((iV M 116 63) + (1 : Int32)).toNatClampNeg (jV M13 153 (((iV M 116 63) + (1 : Int32)) - (1 : Int32)).toNatClampNeg) → (vp_in (((iV M 116 63) + (1 : Int32)) - (1 : Int32)) 602) ∧ (vp_in ((iV M 116 63) + (1 : Int32)) 602) ∧ ∀ M21, SH M21 → M21 = sm_wJ M17 154 ((iV M 116 63) + (1 : Int32)).toNatClampNeg (jV M17 154 (((iV M 116 63) + (1 : Int32)) - (1 : Int32)).toNatClampNeg) → (vp_in (((iV M 116 63) + (1 : Int32)) - (1 : Int32)) 602) ∧ (vp_in ((iV M 116 63) + (1 : Int32)) 602) ∧ ∀ M25, SH M25 → M25 = sm_wJ M21 155 ((iV M 116 63) + (1 : Int32)).toNatClampNeg (jV M21 155 (((iV M 116 63) + (1 : Int32)) - (1 : Int32)).toNatClampNeg) → (vp_in ((iV M 116 63) + (1 : Int32)) 602) ∧ ∀ M28, SH M28 → M28 = sm_wJ M25 156 ((iV M 116 63) + (1 : Int32)).toNatClampNeg (0 : Int64) → (((p204_0 M x2) = 0 → (vp_in x2 4001) ∧ (vp_in (32 : Int32) 256) ∧ (vp_in ((iV M 116 63) + (1 : Int32)) 602) ∧ ∀ M33, SH M33 → M33 = sm_wJ M28 156 ((iV M 116 63) + (1 : Int32)).toNatClampNeg (p196_0 M28 (iV M28 147 x2.toNatClampNeg) (iV M28 120 (32 : Int32).toNatClampNeg)) → (vp_in ((iV M 116 63) + (1 : Int32)) 602) ∧ (vp_in ((iV M 116 63) + (1 : Int32)) 602) ∧ ∀ M37, SH M37 → M37 = sm_wJ M33 153 ((iV M 116 63) + (1 : Int32)).toNatClampNeg ((jV M33 153 ((iV M 116 63) + (1 : Int32)).toNatClampNeg) + (jV M33 156 ((iV M 116 63) + (1 : Int32)).toNatClampNeg)) → (vp_in ((iV M 116 63) + (1 : Int32)) 602) ∧ (vp_in ((iV M 116 63) + (1 : Int32)) 602) ∧ ∀ M41, SH M41 → M41 = sm_wJ M37 154 ((iV M 116 63) + (1 : Int32)).toNatClampNeg ((jV M37 154 ((iV M 116 63) + (1 : Int32)).toNatClampNeg) + ((jV M37 156 ((iV M 116 63) + (1 : Int32)).toNatClampNeg) / (2 : Int64))) → (vp_in ((iV M 116 63) + (1 : Int32)) 602) ∧ (vp_in ((iV M 116 63) + (1 : Int32)) 602) ∧ ∀ M45, SH M45 → M45 = sm_wJ M41 155 ((iV M 116 63) + (1 : Int32)).toNatClampNeg ((jV M41 155 ((iV M 116 63) + (1 : Int32)).toNatClampNeg) + ((jV M41 156 ((iV M 116 63) + (1 : Int32)).toNatClampNeg) / (3 : Int64))) → sm_w 205 (287, [some (.ref 116), some (.int (x2 + (1 : Int32))), some (.int (x2)), none, some (.int ((iV M 116 63) + (1 : Int32))), some (.long (v3)), none], []) M45 (rV K)) ∧ (¬ (p204_0 M x2) = 0 → (((p204_0 M x2) = (1 : Int32) → (vp_in (x2 - (1 : Int32)) 4001) ∧ (vp_in (45 : Int32) 256) ∧ (vp_in ((iV M 116 63) + (1 : Int32)) 602) ∧ ∀ M50, SH M50 → M50 = sm_wJ M28 156 ((iV M 116 63) + (1 : Int32)).toNatClampNeg (p196_0 M28 (iV M28 147 (x2 - (1 : Int32)).toNatClampNeg) (iV M28 120 (45 : Int32).toNatClampNeg)) → (vp_in ((iV M 116 63) + (1 : Int32)) 602) ∧ sm_w 205 (287, [some (.ref 116), some (.int (x2)), some (.int (x2)), none, some (.int ((iV M 116 63) + (1 : Int32))), some (.long (v3 + (jV M50 156 ((iV M 116 63) + (1 : Int32)).toNatClampNeg))), none], []) M50 (rV K)) ∧ (¬ (p204_0 M x2) = (1 : Int32) → sm_w 205 (287, [some (.ref 116), some (.int (x2)), some (.int (x2)), none, some (.int ((iV M 116 63) + (1 : Int32))), some (.long (v3)), none], []) M28 (rV K))))))) ∧ (¬ 0 ≤ (p204_0 M x2) → sm_w 205 (14, [some (.ref 116), some (.int (x1)), some (.int (x2 + (1 : Int32))), none, none, none, none], []) M (rV K)))))) : sm_w 205 (14, [some (.ref 116), some (.int (x1)), some (.int (x2)), none, none, none, none], []) M (rV K) := by
  refine sm_w.run t205 sr205 10 4 (M2 := M) (f2 := (if (iV M 116 56) < x2 then 315 else 22, [some (.ref 116), some (.int (x1)), some (.int (x2)), none, none, none, none], [])) rfl ⟨trivial, trivial, sm_K.g (k_116 hS) (sm_sh.rf _), trivial, trivial⟩ ?_
  refine sm_w.ite (fun hc => ?_) (fun hc => ?_)
  · have h := h.1 hc
    exact sm_w.end t205 sr205 189 (o := .returned none) (M2 := M) rfl trivial (by decide) (⟨rfl, h⟩)
  · have h := h.2 hc
    obtain ⟨c1, h⟩ := h
    refine sm_w.run t205 sr205 14 2 (M2 := M) (f2 := (24, [some (.ref 116), some (.int (x1)), some (.int (x2)), none, none, none, none], [.int (x2), .ref 116])) rfl ⟨trivial, trivial, trivial⟩ ?_
    refine sm_w.cI t205 sr205 16 (i := 204) (as := [.ref 116, .int (x2)]) (g := (24, [some (.ref 116), some (.int (x1)), some (.int (x2)), none, none, none, none], [])) rfl ⟨by decide, by decide, (Nat.le_of_ble_eq_true rfl), (sm_K.g (k_116 hS) (sm_sh.rf _)).1, (sm_K.g (k_116 hS) (sm_sh.rf _)).2, (Nat.le_of_ble_eq_true rfl)⟩ (Nat.le_of_ble_eq_true rfl) (by decide) (p204_c hS c1) (fun vz M2 hz => ?_)
    obtain ⟨hz1, hz2⟩ := hz
    subst hz1
    have hz2 := hz2.symm
    subst hz2
    refine sm_w.run t205 sr205 17 3 (M2 := M) (f2 := (if 0 ≤ (p204_0 M x2) then 35 else 32, [some (.ref 116), some (.int (x1)), some (.int (x2)), some (.int (p204_0 M x2)), none, none, none], [])) rfl ⟨(Nat.le_of_ble_eq_true rfl), trivial, trivial, trivial⟩ ?_
    refine sm_w.ite (fun hc => ?_) (fun hc => ?_)
    · have h := h.1 hc
      refine sm_w.run t205 sr205 21 8 (M2 := M) (f2 := (48, [some (.ref 116), some (.int (x1)), some (.int (x2)), some (.int (p204_0 M x2)), some (.int ((iV M 116 63) + (1 : Int32))), none, none], [va_rf (sm_rv M 116 54), .ref 116])) rfl ⟨trivial, sm_K.g (k_116 hS) (sm_sh.rf _), trivial, trivial, (Nat.le_of_ble_eq_true rfl), trivial, trivial, sm_K.g (k_116 hS) (sm_sh.rf _), trivial⟩ ?_
      refine sm_w.fld (r_116_54 hS) ?_
      refine sm_w.run t205 sr205 29 2 (M2 := M) (f2 := (52, [some (.ref 116), some (.int (x1)), some (.int (x2)), some (.int (p204_0 M x2)), some (.int ((iV M 116 63) + (1 : Int32))), none, none], [va_rf (sm_rv M 116 55), .ref 146, .ref 116])) rfl ⟨trivial, sm_K.g (k_116 hS) (sm_sh.rf _), trivial⟩ ?_
      refine sm_w.fld (r_116_55 hS) ?_
      refine sm_w.run t205 sr205 31 2 (M2 := M) (f2 := (54, [some (.ref 116), some (.int (x1)), some (.int (x2)), some (.int (p204_0 M x2)), some (.int ((iV M 116 63) + (1 : Int32))), none, none], [.int (x2), .int (x1), .ref 147, .ref 146, .ref 116])) rfl ⟨trivial, trivial, trivial⟩ ?_
      refine sm_w.cJ t205 sr205 33 (i := 194) (as := [.ref 116, .ref 146, .ref 147, .int (x1), .int (x2)]) (g := (54, [some (.ref 116), some (.int (x1)), some (.int (x2)), some (.int (p204_0 M x2)), some (.int ((iV M 116 63) + (1 : Int32))), none, none], [])) rfl ⟨by decide, by decide, (Nat.le_of_ble_eq_true rfl), (sm_K.g (k_116 hS) (sm_sh.rf _)).1, (sm_K.g (k_116 hS) (sm_sh.rf _)).2, (Nat.le_of_ble_eq_true rfl)⟩ (Nat.le_of_ble_eq_true rfl) (by decide) (sm_cJ.s (by decide) hS h) (fun v3 M2 h => ?_)
      obtain ⟨hS4, h⟩ := h
      refine sm_w.run t205 sr205 34 3 (M2 := M2) (f2 := (63, [some (.ref 116), some (.int (x1)), some (.int (x2)), some (.int (p204_0 M x2)), some (.int ((iV M 116 63) + (1 : Int32))), some (.long (v3)), none], [va_rf (sm_rv M2 116 70)])) rfl ⟨(Nat.le_of_ble_eq_true rfl), trivial, sm_K.g (k_116 hS4) (sm_sh.rf _), trivial⟩ ?_
      refine sm_w.fld (r_116_70 hS4) ?_
      obtain ⟨c5, h⟩ := h
      refine sm_w.run t205 sr205 37 3 (M2 := sm_wI M2 150 ((iV M 116 63) + (1 : Int32)).toNatClampNeg (p204_0 M x2)) (f2 := (67, [some (.ref 116), some (.int (x1)), some (.int (x2)), some (.int (p204_0 M x2)), some (.int ((iV M 116 63) + (1 : Int32))), some (.long (v3)), none], [])) rfl ⟨trivial, trivial, sm_K.s2 (k_150 hS4) (l_150 hS4) c5, trivial⟩ ?_
      have hS7 : SH (sm_wI M2 150 ((iV M 116 63) + (1 : Int32)).toNatClampNeg (p204_0 M x2)) := SH.wI hS4 _ _ _
      have h := h _ hS7 rfl
      generalize sm_wI M2 150 ((iV M 116 63) + (1 : Int32)).toNatClampNeg (p204_0 M x2) = M6 at h hS7 ⊢
      refine sm_w.run t205 sr205 40 2 (M2 := M6) (f2 := (71, [some (.ref 116), some (.int (x1)), some (.int (x2)), some (.int (p204_0 M x2)), some (.int ((iV M 116 63) + (1 : Int32))), some (.long (v3)), none], [va_rf (sm_rv M6 116 71)])) rfl ⟨trivial, sm_K.g (k_116 hS7) (sm_sh.rf _), trivial⟩ ?_
      refine sm_w.fld (r_116_71 hS7) ?_
      obtain ⟨c8, h⟩ := h
      refine sm_w.run t205 sr205 42 3 (M2 := sm_wI M6 151 ((iV M 116 63) + (1 : Int32)).toNatClampNeg x2) (f2 := (75, [some (.ref 116), some (.int (x1)), some (.int (x2)), some (.int (p204_0 M x2)), some (.int ((iV M 116 63) + (1 : Int32))), some (.long (v3)), none], [])) rfl ⟨trivial, trivial, sm_K.s2 (k_151 hS7) (l_151 hS7) c8, trivial⟩ ?_
      have hS10 : SH (sm_wI M6 151 ((iV M 116 63) + (1 : Int32)).toNatClampNeg x2) := SH.wI hS7 _ _ _
      have h := h _ hS10 rfl
      generalize sm_wI M6 151 ((iV M 116 63) + (1 : Int32)).toNatClampNeg x2 = M9 at h hS10 ⊢
      refine sm_w.run t205 sr205 45 2 (M2 := M9) (f2 := (79, [some (.ref 116), some (.int (x1)), some (.int (x2)), some (.int (p204_0 M x2)), some (.int ((iV M 116 63) + (1 : Int32))), some (.long (v3)), none], [va_rf (sm_rv M9 116 72)])) rfl ⟨trivial, sm_K.g (k_116 hS10) (sm_sh.rf _), trivial⟩ ?_
      refine sm_w.fld (r_116_72 hS10) ?_
      refine sm_w.run t205 sr205 47 3 (M2 := M9) (f2 := (85, [some (.ref 116), some (.int (x1)), some (.int (x2)), some (.int (p204_0 M x2)), some (.int ((iV M 116 63) + (1 : Int32))), some (.long (v3)), none], [va_rf (sm_rv M9 116 72), .int ((iV M 116 63) + (1 : Int32)), .ref 152])) rfl ⟨trivial, trivial, sm_K.g (k_116 hS10) (sm_sh.rf _), trivial⟩ ?_
      refine sm_w.fld (r_116_72 hS10) ?_
      obtain ⟨c11, c12, h⟩ := h
      refine sm_w.run t205 sr205 50 7 (M2 := sm_wJ M9 152 ((iV M 116 63) + (1 : Int32)).toNatClampNeg ((jV M9 152 (((iV M 116 63) + (1 : Int32)) - (1 : Int32)).toNatClampNeg) + v3)) (f2 := (94, [some (.ref 116), some (.int (x1)), some (.int (x2)), some (.int (p204_0 M x2)), some (.int ((iV M 116 63) + (1 : Int32))), some (.long (v3)), none], [])) rfl ⟨trivial, trivial, trivial, sm_K.a2 (k_152 hS10) (l_152 hS10) c11, trivial, trivial, sm_K.s2 (k_152 hS10) (l_152 hS10) c12, trivial⟩ ?_
      have hS14 : SH (sm_wJ M9 152 ((iV M 116 63) + (1 : Int32)).toNatClampNeg ((jV M9 152 (((iV M 116 63) + (1 : Int32)) - (1 : Int32)).toNatClampNeg) + v3)) := SH.wJ hS10 _ _ _
      have h := h _ hS14 rfl
      generalize sm_wJ M9 152 ((iV M 116 63) + (1 : Int32)).toNatClampNeg ((jV M9 152 (((iV M 116 63) + (1 : Int32)) - (1 : Int32)).toNatClampNeg) + v3) = M13 at h hS14 ⊢
      refine sm_w.run t205 sr205 57 2 (M2 := M13) (f2 := (98, [some (.ref 116), some (.int (x1)), some (.int (x2)), some (.int (p204_0 M x2)), some (.int ((iV M 116 63) + (1 : Int32))), some (.long (v3)), none], [va_rf (sm_rv M13 116 73)])) rfl ⟨trivial, sm_K.g (k_116 hS14) (sm_sh.rf _), trivial⟩ ?_
      refine sm_w.fld (r_116_73 hS14) ?_
      refine sm_w.run t205 sr205 59 3 (M2 := M13) (f2 := (104, [some (.ref 116), some (.int (x1)), some (.int (x2)), some (.int (p204_0 M x2)), some (.int ((iV M 116 63) + (1 : Int32))), some (.long (v3)), none], [va_rf (sm_rv M13 116 73), .int ((iV M 116 63) + (1 : Int32)), .ref 153])) rfl ⟨trivial, trivial, sm_K.g (k_116 hS14) (sm_sh.rf _), trivial⟩ ?_
      refine sm_w.fld (r_116_73 hS14) ?_
      obtain ⟨c15, c16, h⟩ := h
      refine sm_w.run t205 sr205 62 5 (M2 := sm_wJ M13 153 ((iV M 116 63) + (1 : Int32)).toNatClampNeg (jV M13 153 (((iV M 116 63) + (1 : Int32)) - (1 : Int32)).toNatClampNeg)) (f2 := (110, [some (.ref 116), some (.int (x1)), some (.int (x2)), some (.int (p204_0 M x2)), some (.int ((iV M 116 63) + (1 : Int32))), some (.long (v3)), none], [])) rfl ⟨trivial, trivial, trivial, sm_K.a2 (k_153 hS14) (l_153 hS14) c15, sm_K.s2 (k_153 hS14) (l_153 hS14) c16, trivial⟩ ?_
      have hS18 : SH (sm_wJ M13 153 ((iV M 116 63) + (1 : Int32)).toNatClampNeg (jV M13 153 (((iV M 116 63) + (1 : Int32)) - (1 : Int32)).toNatClampNeg)) := SH.wJ hS14 _ _ _
      have h := h _ hS18 rfl
      generalize sm_wJ M13 153 ((iV M 116 63) + (1 : Int32)).toNatClampNeg (jV M13 153 (((iV M 116 63) + (1 : Int32)) - (1 : Int32)).toNatClampNeg) = M17 at h hS18 ⊢
      refine sm_w.run t205 sr205 67 2 (M2 := M17) (f2 := (114, [some (.ref 116), some (.int (x1)), some (.int (x2)), some (.int (p204_0 M x2)), some (.int ((iV M 116 63) + (1 : Int32))), some (.long (v3)), none], [va_rf (sm_rv M17 116 74)])) rfl ⟨trivial, sm_K.g (k_116 hS18) (sm_sh.rf _), trivial⟩ ?_
      refine sm_w.fld (r_116_74 hS18) ?_
      refine sm_w.run t205 sr205 69 3 (M2 := M17) (f2 := (120, [some (.ref 116), some (.int (x1)), some (.int (x2)), some (.int (p204_0 M x2)), some (.int ((iV M 116 63) + (1 : Int32))), some (.long (v3)), none], [va_rf (sm_rv M17 116 74), .int ((iV M 116 63) + (1 : Int32)), .ref 154])) rfl ⟨trivial, trivial, sm_K.g (k_116 hS18) (sm_sh.rf _), trivial⟩ ?_
      refine sm_w.fld (r_116_74 hS18) ?_
      obtain ⟨c19, c20, h⟩ := h
      refine sm_w.run t205 sr205 72 5 (M2 := sm_wJ M17 154 ((iV M 116 63) + (1 : Int32)).toNatClampNeg (jV M17 154 (((iV M 116 63) + (1 : Int32)) - (1 : Int32)).toNatClampNeg)) (f2 := (126, [some (.ref 116), some (.int (x1)), some (.int (x2)), some (.int (p204_0 M x2)), some (.int ((iV M 116 63) + (1 : Int32))), some (.long (v3)), none], [])) rfl ⟨trivial, trivial, trivial, sm_K.a2 (k_154 hS18) (l_154 hS18) c19, sm_K.s2 (k_154 hS18) (l_154 hS18) c20, trivial⟩ ?_
      have hS22 : SH (sm_wJ M17 154 ((iV M 116 63) + (1 : Int32)).toNatClampNeg (jV M17 154 (((iV M 116 63) + (1 : Int32)) - (1 : Int32)).toNatClampNeg)) := SH.wJ hS18 _ _ _
      have h := h _ hS22 rfl
      generalize sm_wJ M17 154 ((iV M 116 63) + (1 : Int32)).toNatClampNeg (jV M17 154 (((iV M 116 63) + (1 : Int32)) - (1 : Int32)).toNatClampNeg) = M21 at h hS22 ⊢
      refine sm_w.run t205 sr205 77 2 (M2 := M21) (f2 := (130, [some (.ref 116), some (.int (x1)), some (.int (x2)), some (.int (p204_0 M x2)), some (.int ((iV M 116 63) + (1 : Int32))), some (.long (v3)), none], [va_rf (sm_rv M21 116 75)])) rfl ⟨trivial, sm_K.g (k_116 hS22) (sm_sh.rf _), trivial⟩ ?_
      refine sm_w.fld (r_116_75 hS22) ?_
      refine sm_w.run t205 sr205 79 3 (M2 := M21) (f2 := (136, [some (.ref 116), some (.int (x1)), some (.int (x2)), some (.int (p204_0 M x2)), some (.int ((iV M 116 63) + (1 : Int32))), some (.long (v3)), none], [va_rf (sm_rv M21 116 75), .int ((iV M 116 63) + (1 : Int32)), .ref 155])) rfl ⟨trivial, trivial, sm_K.g (k_116 hS22) (sm_sh.rf _), trivial⟩ ?_
      refine sm_w.fld (r_116_75 hS22) ?_
      obtain ⟨c23, c24, h⟩ := h
      refine sm_w.run t205 sr205 82 5 (M2 := sm_wJ M21 155 ((iV M 116 63) + (1 : Int32)).toNatClampNeg (jV M21 155 (((iV M 116 63) + (1 : Int32)) - (1 : Int32)).toNatClampNeg)) (f2 := (142, [some (.ref 116), some (.int (x1)), some (.int (x2)), some (.int (p204_0 M x2)), some (.int ((iV M 116 63) + (1 : Int32))), some (.long (v3)), none], [])) rfl ⟨trivial, trivial, trivial, sm_K.a2 (k_155 hS22) (l_155 hS22) c23, sm_K.s2 (k_155 hS22) (l_155 hS22) c24, trivial⟩ ?_
      have hS26 : SH (sm_wJ M21 155 ((iV M 116 63) + (1 : Int32)).toNatClampNeg (jV M21 155 (((iV M 116 63) + (1 : Int32)) - (1 : Int32)).toNatClampNeg)) := SH.wJ hS22 _ _ _
      have h := h _ hS26 rfl
      generalize sm_wJ M21 155 ((iV M 116 63) + (1 : Int32)).toNatClampNeg (jV M21 155 (((iV M 116 63) + (1 : Int32)) - (1 : Int32)).toNatClampNeg) = M25 at h hS26 ⊢
      refine sm_w.run t205 sr205 87 2 (M2 := M25) (f2 := (146, [some (.ref 116), some (.int (x1)), some (.int (x2)), some (.int (p204_0 M x2)), some (.int ((iV M 116 63) + (1 : Int32))), some (.long (v3)), none], [va_rf (sm_rv M25 116 76)])) rfl ⟨trivial, sm_K.g (k_116 hS26) (sm_sh.rf _), trivial⟩ ?_
      refine sm_w.fld (r_116_76 hS26) ?_
      obtain ⟨c27, h⟩ := h
      refine sm_w.run t205 sr205 89 3 (M2 := sm_wJ M25 156 ((iV M 116 63) + (1 : Int32)).toNatClampNeg (0 : Int64)) (f2 := (150, [some (.ref 116), some (.int (x1)), some (.int (x2)), some (.int (p204_0 M x2)), some (.int ((iV M 116 63) + (1 : Int32))), some (.long (v3)), none], [])) rfl ⟨trivial, trivial, sm_K.s2 (k_156 hS26) (l_156 hS26) c27, trivial⟩ ?_
      have hS29 : SH (sm_wJ M25 156 ((iV M 116 63) + (1 : Int32)).toNatClampNeg (0 : Int64)) := SH.wJ hS26 _ _ _
      have h := h _ hS29 rfl
      generalize sm_wJ M25 156 ((iV M 116 63) + (1 : Int32)).toNatClampNeg (0 : Int64) = M28 at h hS29 ⊢
      refine sm_w.run t205 sr205 92 4 (M2 := M28) (f2 := (if (p204_0 M x2) = 0 then 156 else 245, [some (.ref 116), some (.int (x2)), some (.int (x2)), some (.int (p204_0 M x2)), some (.int ((iV M 116 63) + (1 : Int32))), some (.long (v3)), none], [])) rfl ⟨trivial, (Nat.le_of_ble_eq_true rfl), trivial, trivial, trivial⟩ ?_
      refine sm_w.ite (fun hc => ?_) (fun hc => ?_)
      · have h := h.1 hc
        refine sm_w.run t205 sr205 96 2 (M2 := M28) (f2 := (160, [some (.ref 116), some (.int (x2)), some (.int (x2)), some (.int (p204_0 M x2)), some (.int ((iV M 116 63) + (1 : Int32))), some (.long (v3)), none], [va_rf (sm_rv M28 116 76)])) rfl ⟨trivial, sm_K.g (k_116 hS29) (sm_sh.rf _), trivial⟩ ?_
        refine sm_w.fld (r_116_76 hS29) ?_
        refine sm_w.run t205 sr205 98 3 (M2 := M28) (f2 := (166, [some (.ref 116), some (.int (x2)), some (.int (x2)), some (.int (p204_0 M x2)), some (.int ((iV M 116 63) + (1 : Int32))), some (.long (v3)), none], [va_rf (sm_rv M28 116 55), .int ((iV M 116 63) + (1 : Int32)), .ref 156])) rfl ⟨trivial, trivial, sm_K.g (k_116 hS29) (sm_sh.rf _), trivial⟩ ?_
        refine sm_w.fld (r_116_55 hS29) ?_
        obtain ⟨c30, h⟩ := h
        refine sm_w.run t205 sr205 101 4 (M2 := M28) (f2 := (172, [some (.ref 116), some (.int (x2)), some (.int (x2)), some (.int (p204_0 M x2)), some (.int ((iV M 116 63) + (1 : Int32))), some (.long (v3)), none], [va_rf (sm_rv M28 116 14), .int (iV M28 147 x2.toNatClampNeg), .int ((iV M 116 63) + (1 : Int32)), .ref 156])) rfl ⟨trivial, sm_K.a2 (k_147 hS29) (l_147 hS29) c30, trivial, sm_K.g (k_116 hS29) (sm_sh.rf _), trivial⟩ ?_
        refine sm_w.fld (r_116_14 hS29) ?_
        obtain ⟨c31, h⟩ := h
        refine sm_w.run t205 sr205 105 2 (M2 := M28) (f2 := (175, [some (.ref 116), some (.int (x2)), some (.int (x2)), some (.int (p204_0 M x2)), some (.int ((iV M 116 63) + (1 : Int32))), some (.long (v3)), none], [.int (iV M28 120 (32 : Int32).toNatClampNeg), .int (iV M28 147 x2.toNatClampNeg), .int ((iV M 116 63) + (1 : Int32)), .ref 156])) rfl ⟨trivial, sm_K.a2 (k_120 hS29) (l_120 hS29) c31, trivial⟩ ?_
        refine sm_w.cJ t205 sr205 107 (i := 196) (as := [.int (iV M28 147 x2.toNatClampNeg), .int (iV M28 120 (32 : Int32).toNatClampNeg)]) (g := (175, [some (.ref 116), some (.int (x2)), some (.int (x2)), some (.int (p204_0 M x2)), some (.int ((iV M 116 63) + (1 : Int32))), some (.long (v3)), none], [.int ((iV M 116 63) + (1 : Int32)), .ref 156])) rfl ⟨(Nat.le_of_ble_eq_true rfl), (Nat.le_of_ble_eq_true rfl)⟩ (Nat.le_of_ble_eq_true rfl) (by decide) (p196_c hS29) (fun vz M2 hz => ?_)
        obtain ⟨hz1, hz2⟩ := hz
        subst hz1
        have hz2 := hz2.symm
        subst hz2
        obtain ⟨c32, h⟩ := h
        refine sm_w.run t205 sr205 108 1 (M2 := sm_wJ M28 156 ((iV M 116 63) + (1 : Int32)).toNatClampNeg (p196_0 M28 (iV M28 147 x2.toNatClampNeg) (iV M28 120 (32 : Int32).toNatClampNeg))) (f2 := (179, [some (.ref 116), some (.int (x2)), some (.int (x2)), some (.int (p204_0 M x2)), some (.int ((iV M 116 63) + (1 : Int32))), some (.long (v3)), none], [])) rfl ⟨sm_K.s2 (k_156 hS29) (l_156 hS29) c32, trivial⟩ ?_
        have hS34 : SH (sm_wJ M28 156 ((iV M 116 63) + (1 : Int32)).toNatClampNeg (p196_0 M28 (iV M28 147 x2.toNatClampNeg) (iV M28 120 (32 : Int32).toNatClampNeg))) := SH.wJ hS29 _ _ _
        have h := h _ hS34 rfl
        generalize sm_wJ M28 156 ((iV M 116 63) + (1 : Int32)).toNatClampNeg (p196_0 M28 (iV M28 147 x2.toNatClampNeg) (iV M28 120 (32 : Int32).toNatClampNeg)) = M33 at h hS34 ⊢
        refine sm_w.run t205 sr205 109 2 (M2 := M33) (f2 := (183, [some (.ref 116), some (.int (x2)), some (.int (x2)), some (.int (p204_0 M x2)), some (.int ((iV M 116 63) + (1 : Int32))), some (.long (v3)), none], [va_rf (sm_rv M33 116 73)])) rfl ⟨trivial, sm_K.g (k_116 hS34) (sm_sh.rf _), trivial⟩ ?_
        refine sm_w.fld (r_116_73 hS34) ?_
        obtain ⟨c35, h⟩ := h
        refine sm_w.run t205 sr205 111 5 (M2 := M33) (f2 := (191, [some (.ref 116), some (.int (x2)), some (.int (x2)), some (.int (p204_0 M x2)), some (.int ((iV M 116 63) + (1 : Int32))), some (.long (v3)), none], [va_rf (sm_rv M33 116 76), .long (jV M33 153 ((iV M 116 63) + (1 : Int32)).toNatClampNeg), .int ((iV M 116 63) + (1 : Int32)), .ref 153])) rfl ⟨trivial, ⟨rfl, rfl⟩, sm_K.a2 (k_153 hS34) (l_153 hS34) c35, trivial, sm_K.g (k_116 hS34) (sm_sh.rf _), trivial⟩ ?_
        refine sm_w.fld (r_116_76 hS34) ?_
        obtain ⟨c36, h⟩ := h
        refine sm_w.run t205 sr205 116 4 (M2 := sm_wJ M33 153 ((iV M 116 63) + (1 : Int32)).toNatClampNeg ((jV M33 153 ((iV M 116 63) + (1 : Int32)).toNatClampNeg) + (jV M33 156 ((iV M 116 63) + (1 : Int32)).toNatClampNeg))) (f2 := (196, [some (.ref 116), some (.int (x2)), some (.int (x2)), some (.int (p204_0 M x2)), some (.int ((iV M 116 63) + (1 : Int32))), some (.long (v3)), none], [])) rfl ⟨trivial, sm_K.a2 (k_156 hS34) (l_156 hS34) c36, trivial, sm_K.s2 (k_153 hS34) (l_153 hS34) c36, trivial⟩ ?_
        have hS38 : SH (sm_wJ M33 153 ((iV M 116 63) + (1 : Int32)).toNatClampNeg ((jV M33 153 ((iV M 116 63) + (1 : Int32)).toNatClampNeg) + (jV M33 156 ((iV M 116 63) + (1 : Int32)).toNatClampNeg))) := SH.wJ hS34 _ _ _
        have h := h _ hS38 rfl
        generalize sm_wJ M33 153 ((iV M 116 63) + (1 : Int32)).toNatClampNeg ((jV M33 153 ((iV M 116 63) + (1 : Int32)).toNatClampNeg) + (jV M33 156 ((iV M 116 63) + (1 : Int32)).toNatClampNeg)) = M37 at h hS38 ⊢
        refine sm_w.run t205 sr205 120 2 (M2 := M37) (f2 := (200, [some (.ref 116), some (.int (x2)), some (.int (x2)), some (.int (p204_0 M x2)), some (.int ((iV M 116 63) + (1 : Int32))), some (.long (v3)), none], [va_rf (sm_rv M37 116 74)])) rfl ⟨trivial, sm_K.g (k_116 hS38) (sm_sh.rf _), trivial⟩ ?_
        refine sm_w.fld (r_116_74 hS38) ?_
        obtain ⟨c39, h⟩ := h
        refine sm_w.run t205 sr205 122 5 (M2 := M37) (f2 := (208, [some (.ref 116), some (.int (x2)), some (.int (x2)), some (.int (p204_0 M x2)), some (.int ((iV M 116 63) + (1 : Int32))), some (.long (v3)), none], [va_rf (sm_rv M37 116 76), .long (jV M37 154 ((iV M 116 63) + (1 : Int32)).toNatClampNeg), .int ((iV M 116 63) + (1 : Int32)), .ref 154])) rfl ⟨trivial, ⟨rfl, rfl⟩, sm_K.a2 (k_154 hS38) (l_154 hS38) c39, trivial, sm_K.g (k_116 hS38) (sm_sh.rf _), trivial⟩ ?_
        refine sm_w.fld (r_116_76 hS38) ?_
        obtain ⟨c40, h⟩ := h
        refine sm_w.run t205 sr205 127 6 (M2 := sm_wJ M37 154 ((iV M 116 63) + (1 : Int32)).toNatClampNeg ((jV M37 154 ((iV M 116 63) + (1 : Int32)).toNatClampNeg) + ((jV M37 156 ((iV M 116 63) + (1 : Int32)).toNatClampNeg) / (2 : Int64)))) (f2 := (217, [some (.ref 116), some (.int (x2)), some (.int (x2)), some (.int (p204_0 M x2)), some (.int ((iV M 116 63) + (1 : Int32))), some (.long (v3)), none], [])) rfl ⟨trivial, sm_K.a2 (k_156 hS38) (l_156 hS38) c40, trivial, by decide, trivial, sm_K.s2 (k_154 hS38) (l_154 hS38) c40, trivial⟩ ?_
        have hS42 : SH (sm_wJ M37 154 ((iV M 116 63) + (1 : Int32)).toNatClampNeg ((jV M37 154 ((iV M 116 63) + (1 : Int32)).toNatClampNeg) + ((jV M37 156 ((iV M 116 63) + (1 : Int32)).toNatClampNeg) / (2 : Int64)))) := SH.wJ hS38 _ _ _
        have h := h _ hS42 rfl
        generalize sm_wJ M37 154 ((iV M 116 63) + (1 : Int32)).toNatClampNeg ((jV M37 154 ((iV M 116 63) + (1 : Int32)).toNatClampNeg) + ((jV M37 156 ((iV M 116 63) + (1 : Int32)).toNatClampNeg) / (2 : Int64))) = M41 at h hS42 ⊢
        refine sm_w.run t205 sr205 133 2 (M2 := M41) (f2 := (221, [some (.ref 116), some (.int (x2)), some (.int (x2)), some (.int (p204_0 M x2)), some (.int ((iV M 116 63) + (1 : Int32))), some (.long (v3)), none], [va_rf (sm_rv M41 116 75)])) rfl ⟨trivial, sm_K.g (k_116 hS42) (sm_sh.rf _), trivial⟩ ?_
        refine sm_w.fld (r_116_75 hS42) ?_
        obtain ⟨c43, h⟩ := h
        refine sm_w.run t205 sr205 135 5 (M2 := M41) (f2 := (229, [some (.ref 116), some (.int (x2)), some (.int (x2)), some (.int (p204_0 M x2)), some (.int ((iV M 116 63) + (1 : Int32))), some (.long (v3)), none], [va_rf (sm_rv M41 116 76), .long (jV M41 155 ((iV M 116 63) + (1 : Int32)).toNatClampNeg), .int ((iV M 116 63) + (1 : Int32)), .ref 155])) rfl ⟨trivial, ⟨rfl, rfl⟩, sm_K.a2 (k_155 hS42) (l_155 hS42) c43, trivial, sm_K.g (k_116 hS42) (sm_sh.rf _), trivial⟩ ?_
        refine sm_w.fld (r_116_76 hS42) ?_
        obtain ⟨c44, h⟩ := h
        refine sm_w.run t205 sr205 140 6 (M2 := sm_wJ M41 155 ((iV M 116 63) + (1 : Int32)).toNatClampNeg ((jV M41 155 ((iV M 116 63) + (1 : Int32)).toNatClampNeg) + ((jV M41 156 ((iV M 116 63) + (1 : Int32)).toNatClampNeg) / (3 : Int64)))) (f2 := (238, [some (.ref 116), some (.int (x2)), some (.int (x2)), some (.int (p204_0 M x2)), some (.int ((iV M 116 63) + (1 : Int32))), some (.long (v3)), none], [])) rfl ⟨trivial, sm_K.a2 (k_156 hS42) (l_156 hS42) c44, trivial, by decide, trivial, sm_K.s2 (k_155 hS42) (l_155 hS42) c44, trivial⟩ ?_
        have hS46 : SH (sm_wJ M41 155 ((iV M 116 63) + (1 : Int32)).toNatClampNeg ((jV M41 155 ((iV M 116 63) + (1 : Int32)).toNatClampNeg) + ((jV M41 156 ((iV M 116 63) + (1 : Int32)).toNatClampNeg) / (3 : Int64)))) := SH.wJ hS42 _ _ _
        have h := h _ hS46 rfl
        generalize sm_wJ M41 155 ((iV M 116 63) + (1 : Int32)).toNatClampNeg ((jV M41 155 ((iV M 116 63) + (1 : Int32)).toNatClampNeg) + ((jV M41 156 ((iV M 116 63) + (1 : Int32)).toNatClampNeg) / (3 : Int64))) = M45 at h hS46 ⊢
        refine sm_w.run t205 sr205 146 5 (M2 := M45) (f2 := (287, [some (.ref 116), some (.int (x2 + (1 : Int32))), some (.int (x2)), some (.int (p204_0 M x2)), some (.int ((iV M 116 63) + (1 : Int32))), some (.long (v3)), none], [])) rfl ⟨trivial, trivial, trivial, (Nat.le_of_ble_eq_true rfl), trivial, trivial⟩ ?_
        refine sm_w.weak (ls := [some (.ref 116), some (.int (x2 + (1 : Int32))), some (.int (x2)), none, some (.int ((iV M 116 63) + (1 : Int32))), some (.long (v3)), none]) (sm_leI [true, true, true, false, true, true, false] rfl) ?_
        exact h
      · have h := h.2 hc
        refine sm_w.run t205 sr205 151 3 (M2 := M28) (f2 := (if (p204_0 M x2) = (1 : Int32) then 250 else 287, [some (.ref 116), some (.int (x2)), some (.int (x2)), some (.int (p204_0 M x2)), some (.int ((iV M 116 63) + (1 : Int32))), some (.long (v3)), none], [])) rfl ⟨trivial, trivial, trivial, trivial⟩ ?_
        refine sm_w.ite (fun hc => ?_) (fun hc => ?_)
        · have h := h.1 hc
          refine sm_w.run t205 sr205 154 2 (M2 := M28) (f2 := (254, [some (.ref 116), some (.int (x2)), some (.int (x2)), some (.int (p204_0 M x2)), some (.int ((iV M 116 63) + (1 : Int32))), some (.long (v3)), none], [va_rf (sm_rv M28 116 76)])) rfl ⟨trivial, sm_K.g (k_116 hS29) (sm_sh.rf _), trivial⟩ ?_
          refine sm_w.fld (r_116_76 hS29) ?_
          refine sm_w.run t205 sr205 156 3 (M2 := M28) (f2 := (260, [some (.ref 116), some (.int (x2)), some (.int (x2)), some (.int (p204_0 M x2)), some (.int ((iV M 116 63) + (1 : Int32))), some (.long (v3)), none], [va_rf (sm_rv M28 116 55), .int ((iV M 116 63) + (1 : Int32)), .ref 156])) rfl ⟨trivial, trivial, sm_K.g (k_116 hS29) (sm_sh.rf _), trivial⟩ ?_
          refine sm_w.fld (r_116_55 hS29) ?_
          obtain ⟨c47, h⟩ := h
          refine sm_w.run t205 sr205 159 6 (M2 := M28) (f2 := (268, [some (.ref 116), some (.int (x2)), some (.int (x2)), some (.int (p204_0 M x2)), some (.int ((iV M 116 63) + (1 : Int32))), some (.long (v3)), none], [va_rf (sm_rv M28 116 14), .int (iV M28 147 (x2 - (1 : Int32)).toNatClampNeg), .int ((iV M 116 63) + (1 : Int32)), .ref 156])) rfl ⟨trivial, trivial, trivial, sm_K.a2 (k_147 hS29) (l_147 hS29) c47, trivial, sm_K.g (k_116 hS29) (sm_sh.rf _), trivial⟩ ?_
          refine sm_w.fld (r_116_14 hS29) ?_
          obtain ⟨c48, h⟩ := h
          refine sm_w.run t205 sr205 165 2 (M2 := M28) (f2 := (271, [some (.ref 116), some (.int (x2)), some (.int (x2)), some (.int (p204_0 M x2)), some (.int ((iV M 116 63) + (1 : Int32))), some (.long (v3)), none], [.int (iV M28 120 (45 : Int32).toNatClampNeg), .int (iV M28 147 (x2 - (1 : Int32)).toNatClampNeg), .int ((iV M 116 63) + (1 : Int32)), .ref 156])) rfl ⟨trivial, sm_K.a2 (k_120 hS29) (l_120 hS29) c48, trivial⟩ ?_
          refine sm_w.cJ t205 sr205 167 (i := 196) (as := [.int (iV M28 147 (x2 - (1 : Int32)).toNatClampNeg), .int (iV M28 120 (45 : Int32).toNatClampNeg)]) (g := (271, [some (.ref 116), some (.int (x2)), some (.int (x2)), some (.int (p204_0 M x2)), some (.int ((iV M 116 63) + (1 : Int32))), some (.long (v3)), none], [.int ((iV M 116 63) + (1 : Int32)), .ref 156])) rfl ⟨(Nat.le_of_ble_eq_true rfl), (Nat.le_of_ble_eq_true rfl)⟩ (Nat.le_of_ble_eq_true rfl) (by decide) (p196_c hS29) (fun vz M2 hz => ?_)
          obtain ⟨hz1, hz2⟩ := hz
          subst hz1
          have hz2 := hz2.symm
          subst hz2
          obtain ⟨c49, h⟩ := h
          refine sm_w.run t205 sr205 168 1 (M2 := sm_wJ M28 156 ((iV M 116 63) + (1 : Int32)).toNatClampNeg (p196_0 M28 (iV M28 147 (x2 - (1 : Int32)).toNatClampNeg) (iV M28 120 (45 : Int32).toNatClampNeg))) (f2 := (275, [some (.ref 116), some (.int (x2)), some (.int (x2)), some (.int (p204_0 M x2)), some (.int ((iV M 116 63) + (1 : Int32))), some (.long (v3)), none], [])) rfl ⟨sm_K.s2 (k_156 hS29) (l_156 hS29) c49, trivial⟩ ?_
          have hS51 : SH (sm_wJ M28 156 ((iV M 116 63) + (1 : Int32)).toNatClampNeg (p196_0 M28 (iV M28 147 (x2 - (1 : Int32)).toNatClampNeg) (iV M28 120 (45 : Int32).toNatClampNeg))) := SH.wJ hS29 _ _ _
          have h := h _ hS51 rfl
          generalize sm_wJ M28 156 ((iV M 116 63) + (1 : Int32)).toNatClampNeg (p196_0 M28 (iV M28 147 (x2 - (1 : Int32)).toNatClampNeg) (iV M28 120 (45 : Int32).toNatClampNeg)) = M50 at h hS51 ⊢
          refine sm_w.run t205 sr205 169 3 (M2 := M50) (f2 := (281, [some (.ref 116), some (.int (x2)), some (.int (x2)), some (.int (p204_0 M x2)), some (.int ((iV M 116 63) + (1 : Int32))), some (.long (v3)), none], [va_rf (sm_rv M50 116 76), .long (v3)])) rfl ⟨trivial, trivial, sm_K.g (k_116 hS51) (sm_sh.rf _), trivial⟩ ?_
          refine sm_w.fld (r_116_76 hS51) ?_
          obtain ⟨c52, h⟩ := h
          refine sm_w.run t205 sr205 172 4 (M2 := M50) (f2 := (287, [some (.ref 116), some (.int (x2)), some (.int (x2)), some (.int (p204_0 M x2)), some (.int ((iV M 116 63) + (1 : Int32))), some (.long (v3 + (jV M50 156 ((iV M 116 63) + (1 : Int32)).toNatClampNeg))), none], [])) rfl ⟨trivial, sm_K.a2 (k_156 hS51) (l_156 hS51) c52, trivial, (Nat.le_of_ble_eq_true rfl), trivial⟩ ?_
          refine sm_w.weak (ls := [some (.ref 116), some (.int (x2)), some (.int (x2)), none, some (.int ((iV M 116 63) + (1 : Int32))), some (.long (v3 + (jV M50 156 ((iV M 116 63) + (1 : Int32)).toNatClampNeg))), none]) (sm_leI [true, true, true, false, true, true, false] rfl) ?_
          exact h
        · have h := h.2 hc
          refine sm_w.weak (ls := [some (.ref 116), some (.int (x2)), some (.int (x2)), none, some (.int ((iV M 116 63) + (1 : Int32))), some (.long (v3)), none]) (sm_leI [true, true, true, false, true, true, false] rfl) ?_
          exact h
    · have h := h.2 hc
      refine sm_w.run t205 sr205 20 1 (M2 := M) (f2 := (309, [some (.ref 116), some (.int (x1)), some (.int (x2)), some (.int (p204_0 M x2)), none, none, none], [])) rfl ⟨trivial, trivial⟩ ?_
      refine sm_w.run t205 sr205 187 2 (M2 := M) (f2 := (14, [some (.ref 116), some (.int (x1)), some (.int (x2 + (1 : Int32))), some (.int (p204_0 M x2)), none, none, none], [])) rfl ⟨(Nat.le_of_ble_eq_true rfl), trivial, trivial⟩ ?_
      refine sm_w.weak (ls := [some (.ref 116), some (.int (x1)), some (.int (x2 + (1 : Int32))), none, none, none, none]) (sm_leI [true, true, true, false, false, false, false] rfl) ?_
      exact h
theorem g205_2 {M : sm_M} {x1 : Int32} {x2 : Int32} {x4 : Int32} {x5 : Int64} {K : sm_M → Prop} (hS : SH M)  (h : ((x5 ≤ (jV M 116 67) → ∀ M1, SH M1 → M1 = sm_wI M 116 63 x4 → sm_w 205 (14, [some (.ref 116), some (.int (x1)), some (.int (x2 + (1 : Int32))), none, none, none, none], []) M1 (rV K)) ∧ (¬ x5 ≤ (jV M 116 67) → ∀ M3, SH M3 → M3 = sm_wJ M 116 67 x5 → ∀ M5, SH M5 → M5 = sm_wI M3 116 63 x4 → sm_w 205 (14, [some (.ref 116), some (.int (x1)), some (.int (x2 + (1 : Int32))), none, none, none, none], []) M5 (rV K)))) : sm_w 205 (287, [some (.ref 116), some (.int (x1)), some (.int (x2)), none, some (.int (x4)), some (.long (x5)), none], []) M (rV K) := by
  refine sm_w.run t205 sr205 176 5 (M2 := M) (f2 := (if (lg_cmp x5 (jV M 116 67)) ≤ 0 then 303 else 297, [some (.ref 116), some (.int (x1)), some (.int (x2)), none, some (.int (x4)), some (.long (x5)), none], [])) rfl ⟨trivial, trivial, sm_K.g (k_116 hS) (sm_sh.rf _), trivial, trivial, trivial⟩ ?_
  refine sm_w.ite (fun hc => ?_) (fun hc => ?_)
  · have h := h.1 (lc_le.mp hc)
    refine sm_w.run t205 sr205 184 3 (M2 := sm_wI M 116 63 x4) (f2 := (309, [some (.ref 116), some (.int (x1)), some (.int (x2)), none, some (.int (x4)), some (.long (x5)), none], [])) rfl ⟨trivial, trivial, ⟨(sm_K.p (k_116 hS) (sm_sh.rf _)).1, (sm_K.p (k_116 hS) (sm_sh.rf _)).2.1, (sm_K.p (k_116 hS) (sm_sh.rf _)).2.2, Or.inl rfl⟩, trivial⟩ ?_
    have hS2 : SH (sm_wI M 116 63 x4) := SH.wI hS _ _ _
    have h := h _ hS2 rfl
    generalize sm_wI M 116 63 x4 = M1 at h hS2 ⊢
    refine sm_w.run t205 sr205 187 2 (M2 := M1) (f2 := (14, [some (.ref 116), some (.int (x1)), some (.int (x2 + (1 : Int32))), none, some (.int (x4)), some (.long (x5)), none], [])) rfl ⟨(Nat.le_of_ble_eq_true rfl), trivial, trivial⟩ ?_
    refine sm_w.weak (ls := [some (.ref 116), some (.int (x1)), some (.int (x2 + (1 : Int32))), none, none, none, none]) (sm_leI [true, true, true, false, false, false, false] rfl) ?_
    exact h
  · have h := h.2 (fun z => hc (lc_le.mpr z))
    refine sm_w.run t205 sr205 181 3 (M2 := sm_wJ M 116 67 x5) (f2 := (303, [some (.ref 116), some (.int (x1)), some (.int (x2)), none, some (.int (x4)), some (.long (x5)), none], [])) rfl ⟨trivial, trivial, ⟨(sm_K.p (k_116 hS) (sm_sh.rf _)).1, (sm_K.p (k_116 hS) (sm_sh.rf _)).2.1, (sm_K.p (k_116 hS) (sm_sh.rf _)).2.2, rfl⟩, trivial⟩ ?_
    have hS4 : SH (sm_wJ M 116 67 x5) := SH.wJ hS _ _ _
    have h := h _ hS4 rfl
    generalize sm_wJ M 116 67 x5 = M3 at h hS4 ⊢
    refine sm_w.run t205 sr205 184 3 (M2 := sm_wI M3 116 63 x4) (f2 := (309, [some (.ref 116), some (.int (x1)), some (.int (x2)), none, some (.int (x4)), some (.long (x5)), none], [])) rfl ⟨trivial, trivial, ⟨(sm_K.p (k_116 hS4) (sm_sh.rf _)).1, (sm_K.p (k_116 hS4) (sm_sh.rf _)).2.1, (sm_K.p (k_116 hS4) (sm_sh.rf _)).2.2, Or.inl rfl⟩, trivial⟩ ?_
    have hS6 : SH (sm_wI M3 116 63 x4) := SH.wI hS4 _ _ _
    have h := h _ hS6 rfl
    generalize sm_wI M3 116 63 x4 = M5 at h hS6 ⊢
    refine sm_w.run t205 sr205 187 2 (M2 := M5) (f2 := (14, [some (.ref 116), some (.int (x1)), some (.int (x2 + (1 : Int32))), none, some (.int (x4)), some (.long (x5)), none], [])) rfl ⟨(Nat.le_of_ble_eq_true rfl), trivial, trivial⟩ ?_
    refine sm_w.weak (ls := [some (.ref 116), some (.int (x1)), some (.int (x2 + (1 : Int32))), none, none, none, none]) (sm_leI [true, true, true, false, false, false, false] rfl) ?_
    exact h
-- 208 LineSetterModel.least(JJ)J
theorem t208 : sP 208 = (4, sp_208, sh_208) := rfl
theorem sr208 : sm_srt sp_208 = true := by decide +kernel
theorem g208_0 {M : sm_M} {x0 : Int64} {x2 : Int64} {K : Int64 → sm_M → Prop} (hS : SH M)  (h : ((x2 ≤ x0 → K x2 M) ∧ (¬ x2 ≤ x0 → K x0 M))) : sm_w 208 (sm_in sP 208 [.long (x0), .long (x2)]) M (rJ K) := by
  show sm_w 208 (0, [some (.long (x0)), none, some (.long (x2)), none], []) M (rJ K)
  refine sm_w.run t208 sr208 0 4 (M2 := M) (f2 := (if 0 ≤ (lg_cmp x0 x2) then 10 else 6, [some (.long (x0)), none, some (.long (x2)), none], [])) rfl ⟨trivial, trivial, trivial, trivial, trivial⟩ ?_
  refine sm_w.ite (fun hc => ?_) (fun hc => ?_)
  · have h := h.1 (lc_ge.mp hc)
    refine sm_w.run t208 sr208 6 1 (M2 := M) (f2 := (11, [some (.long (x0)), none, some (.long (x2)), none], [.long (x2)])) rfl ⟨trivial, trivial⟩ ?_
    exact sm_w.end t208 sr208 7 (o := .returned (some (.long (x2)))) (M2 := M) rfl trivial (by decide) (⟨_, rfl, h⟩)
  · have h := h.2 (fun z => hc (lc_ge.mpr z))
    refine sm_w.run t208 sr208 4 2 (M2 := M) (f2 := (11, [some (.long (x0)), none, some (.long (x2)), none], [.long (x0)])) rfl ⟨trivial, trivial, trivial⟩ ?_
    exact sm_w.end t208 sr208 7 (o := .returned (some (.long (x0)))) (M2 := M) rfl trivial (by decide) (⟨_, rfl, h⟩)
def p208_0 (M : sm_M) (x0 : Int64) (x2 : Int64) : Int64 := if x2 ≤ x0 then x2 else x0
theorem p208_c {M : sm_M} {x0 : Int64} {x2 : Int64} (hS : SH M)  : sm_cJ 208 [.long (x0), .long (x2)] M (fun v M2 => v = p208_0 M x0 x2 ∧ M2 = M) := by
  refine g208_0 (K := (fun v M2 => v = p208_0 M x0 x2 ∧ M2 = M)) hS ?_
  refine ⟨fun e1 => ?_, fun e1 => ?_⟩
  · refine ⟨?_, rfl⟩
    unfold p208_0
    rw [if_pos e1]
  · refine ⟨?_, rfl⟩
    unfold p208_0
    rw [if_neg e1]
