/-! METHODS by their segments. -/
-- 85 LineSetterLaw.set(LLineSetter;IIIII[J)I
theorem t85 : sP 85 = (8, sp_85, sh_85) := rfl
theorem sr85 : sm_srt sp_85 = true := by decide +kernel
theorem g85_0 {M : sm_M} {x1 : Int32} {x2 : Int32} {x3 : Int32} {x4 : Int32} {x5 : Int32} {K : Int32 → sm_M → Prop} (hS : SH M)  (h : sm_xI 86 [.ref 23, .int (x1), .int (x2), .int (x3), .int (x4), .int (x5)] M (fun r0 M0 => (sm_kd M0 r0 = 48 ∧ SH M0 ∧ K (1 : Int32) M0) ∨ (sm_kd M0 r0 = 49 ∧ SH M0 ∧ K (2 : Int32) M0) ∨ (sm_kd M0 r0 = 51 ∧ SH M0 ∧ K (3 : Int32) M0)) (fun v2 M1 => SH M1 ∧ (vp_in (0 : Int32) 1) ∧ ∀ M5, SH M5 → M5 = sm_wJ M1 164 (0 : Int32).toNatClampNeg v2.toInt64 → K (0 : Int32) M5)) : sm_w 85 (sm_in sP 85 [.ref 23, .int (x1), .int (x2), .int (x3), .int (x4), .int (x5), .ref 164]) M (rI K) := by
  show sm_w 85 (0, [some (.ref 23), some (.int (x1)), some (.int (x2)), some (.int (x3)), some (.int (x4)), some (.int (x5)), some (.ref 164), none], []) M (rI K)
  refine sm_w.run t85 sr85 0 8 (M2 := M) (f2 := (11, [some (.ref 23), some (.int (x1)), some (.int (x2)), some (.int (x3)), some (.int (x4)), some (.int (x5)), some (.ref 164), none], [.int (x5), .int (x4), .int (x3), .int (x2), .int (x1), .ref 23, .int ((0 : Int32)), .ref 164])) rfl ⟨trivial, trivial, trivial, trivial, trivial, trivial, trivial, trivial, trivial⟩ ?_
  refine sm_w.yI t85 sr85 8 (i := 86) (as := [.ref 23, .int (x1), .int (x2), .int (x3), .int (x4), .int (x5)]) (g := (11, [some (.ref 23), some (.int (x1)), some (.int (x2)), some (.int (x3)), some (.int (x4)), some (.int (x5)), some (.ref 164), none], [.int ((0 : Int32)), .ref 164])) rfl ⟨by decide, by decide, (Nat.le_of_ble_eq_true rfl), (sm_K.g (k_23 hS) (sm_sh.rf _)).1, (sm_K.g (k_23 hS) (sm_sh.rf _)).2, (Nat.le_of_ble_eq_true rfl)⟩ (Nat.le_of_ble_eq_true rfl) (by decide) h (fun r0 M0 h => ?_) (fun v2 M1 h => ?_)
  · rcases h with ⟨hk, hS0, h⟩ | ⟨hk, hS0, h⟩ | ⟨hk, hS0, h⟩
    · refine ⟨19, by rw [hk]; rfl, ?_⟩
      refine sm_w.run t85 sr85 12 2 (M2 := M0) (f2 := (22, [some (.ref 23), some (.int (x1)), some (.int (x2)), some (.int (x3)), some (.int (x4)), some (.int (x5)), some (.ref 164), some (.ref r0)], [.int ((1 : Int32))])) rfl ⟨(Nat.le_of_ble_eq_true rfl), trivial, trivial⟩ ?_
      exact sm_w.end t85 sr85 14 (o := .returned (some (.int ((1 : Int32))))) (M2 := M0) rfl rfl (by decide) (⟨_, rfl, h⟩)
    · refine ⟨23, by rw [hk]; rfl, ?_⟩
      refine sm_w.run t85 sr85 15 2 (M2 := M0) (f2 := (26, [some (.ref 23), some (.int (x1)), some (.int (x2)), some (.int (x3)), some (.int (x4)), some (.int (x5)), some (.ref 164), some (.ref r0)], [.int ((2 : Int32))])) rfl ⟨(Nat.le_of_ble_eq_true rfl), trivial, trivial⟩ ?_
      exact sm_w.end t85 sr85 17 (o := .returned (some (.int ((2 : Int32))))) (M2 := M0) rfl rfl (by decide) (⟨_, rfl, h⟩)
    · refine ⟨27, by rw [hk]; rfl, ?_⟩
      refine sm_w.run t85 sr85 18 2 (M2 := M0) (f2 := (30, [some (.ref 23), some (.int (x1)), some (.int (x2)), some (.int (x3)), some (.int (x4)), some (.int (x5)), some (.ref 164), some (.ref r0)], [.int ((3 : Int32))])) rfl ⟨(Nat.le_of_ble_eq_true rfl), trivial, trivial⟩ ?_
      exact sm_w.end t85 sr85 20 (o := .returned (some (.int ((3 : Int32))))) (M2 := M0) rfl rfl (by decide) (⟨_, rfl, h⟩)
  · obtain ⟨hS3, h⟩ := h
    obtain ⟨c4, h⟩ := h
    refine sm_w.run t85 sr85 9 2 (M2 := sm_wJ M1 164 (0 : Int32).toNatClampNeg v2.toInt64) (f2 := (16, [some (.ref 23), some (.int (x1)), some (.int (x2)), some (.int (x3)), some (.int (x4)), some (.int (x5)), some (.ref 164), none], [])) rfl ⟨trivial, sm_K.s2 (k_164 hS3) (l_164 hS3) c4, trivial⟩ ?_
    have hS6 : SH (sm_wJ M1 164 (0 : Int32).toNatClampNeg v2.toInt64) := SH.wJ hS3 _ _ _
    have h := h _ hS6 rfl
    generalize sm_wJ M1 164 (0 : Int32).toNatClampNeg v2.toInt64 = M5 at h hS6 ⊢
    refine sm_w.run t85 sr85 11 1 (M2 := M5) (f2 := (31, [some (.ref 23), some (.int (x1)), some (.int (x2)), some (.int (x3)), some (.int (x4)), some (.int (x5)), some (.ref 164), none], [])) rfl ⟨trivial, trivial⟩ ?_
    refine sm_w.run t85 sr85 21 1 (M2 := M5) (f2 := (32, [some (.ref 23), some (.int (x1)), some (.int (x2)), some (.int (x3)), some (.int (x4)), some (.int (x5)), some (.ref 164), none], [.int ((0 : Int32))])) rfl ⟨trivial, trivial⟩ ?_
    exact sm_w.end t85 sr85 22 (o := .returned (some (.int ((0 : Int32))))) (M2 := M5) rfl rfl (by decide) (⟨_, rfl, h⟩)
-- 130 LineSetter.refuseNothingSet()V
theorem t130 : sP 130 = (1, sp_130, sh_130) := rfl
theorem sr130 : sm_srt sp_130 = true := by decide +kernel
theorem g130_0 {M : sm_M}  {K : sm_M → Prop} {X : Nat → sm_M → Prop} (hS : SH M)  (h : (((iV M 23 15) = 0 → X M.1 (sm_new M 49 6)) ∧ (¬ (iV M 23 15) = 0 → K M))) : sm_w 130 (sm_in sP 130 [.ref 23]) M (yV X K) := by
  show sm_w 130 (0, [some (.ref 23)], []) M (yV X K)
  refine sm_w.run t130 sr130 0 3 (M2 := M) (f2 := (if (iV M 23 15) = 0 then 7 else 18, [some (.ref 23)], [])) rfl ⟨trivial, sm_K.g (k_23 hS) (sm_sh.rf _), trivial, trivial⟩ ?_
  refine sm_w.ite (fun hc => ?_) (fun hc => ?_)
  · have h := h.1 hc
    exact sm_w.end t130 sr130 3 (o := .threw M.1) (M2 := sm_new M 49 6) rfl (Nat.le_of_ble_eq_true rfl) (by decide) (Or.inl ⟨_, rfl, h⟩)
  · have h := h.2 hc
    exact sm_w.end t130 sr130 4 (o := .returned none) (M2 := M) rfl trivial (by decide) (Or.inr ⟨rfl, h⟩)
-- 129 LineSetter.told(I)J
theorem t129 : sP 129 = (3, sp_129, sh_129) := rfl
theorem sr129 : sm_srt sp_129 = true := by decide +kernel
theorem g129_0 {M : sm_M} {x1 : Int32} {K : Int64 → sm_M → Prop} {X : Nat → sm_M → Prop} (hS : SH M)  (h : ((x1 < (0 : Int32) → X M.1 (sm_new M 48 6)) ∧ (¬ x1 < (0 : Int32) → ((x1 ≤ (5 : Int32) → (((iV M 23 15) = 0 → X M.1 (sm_new M 49 6)) ∧ (¬ (iV M 23 15) = 0 → ∃ r7, sm_rv M 23 13 = some r7 ∧ fS r7 ∧ ((x1 = 0 → ∃ r10, sm_rv M 23 13 = some r10 ∧ fS r10 ∧ K (jV M r10 5) M) ∧ (x1 = 1 → ∃ r13, sm_rv M 23 13 = some r13 ∧ fS r13 ∧ K ((iV M r13 4).toInt64) M) ∧ (x1 = 2 → K ((iV M (r7 + 1) 3).toInt64) M) ∧ (x1 = 3 → ∃ r16, sm_rv M 23 13 = some r16 ∧ fS r16 ∧ K ((iV M r16 6).toInt64) M) ∧ (x1 = 4 → K (jV M (r7 + 1) 12) M) ∧ ((x1 < 0 ∨ 4 < x1) → (vp_in (iV M (r7 + 1) 3) 601) ∧ (vp_in (iV M (r7 + 1) 3) 601) ∧ K ((jV M (r7 + 1 + 7) (iV M (r7 + 1) 3).toNatClampNeg) + (jV M (r7 + 1 + 8) (iV M (r7 + 1) 3).toNatClampNeg)) M))))) ∧ (¬ x1 ≤ (5 : Int32) → X M.1 (sm_new M 48 6)))))) : sm_w 129 (sm_in sP 129 [.ref 23, .int (x1)]) M (yJ X K) := by
  show sm_w 129 (0, [some (.ref 23), some (.int (x1)), none], []) M (yJ X K)
  refine sm_w.run t129 sr129 0 4 (M2 := M) (f2 := (4, [some (.ref 23), some (.int (x1)), none], [.int ((5 : Int32)), .int ((0 : Int32)), .int (x1), .ref 23])) rfl ⟨trivial, trivial, trivial, trivial, trivial⟩ ?_
  refine sm_w.zV t129 sr129 4 (i := 79) (as := [.ref 23, .int (x1), .int ((0 : Int32)), .int ((5 : Int32))]) (g := (4, [some (.ref 23), some (.int (x1)), none], [])) rfl ⟨by decide, by decide, (Nat.le_of_ble_eq_true rfl), (sm_K.g (k_23 hS) (sm_sh.rf _)).1, (sm_K.g (k_23 hS) (sm_sh.rf _)).2, (Nat.le_of_ble_eq_true rfl)⟩ (Nat.le_of_ble_eq_true rfl) (by decide) rfl (fun r M2 h => Or.inl ⟨r, rfl, h⟩) (sm_xV.s2 (by decide) hS (g79_0 (K := fun M1 => (((iV M1 23 15) = 0 → X M1.1 (sm_new M1 49 6)) ∧ (¬ (iV M1 23 15) = 0 → ∃ r7, sm_rv M1 23 13 = some r7 ∧ fS r7 ∧ ((x1 = 0 → ∃ r10, sm_rv M1 23 13 = some r10 ∧ fS r10 ∧ K (jV M1 r10 5) M1) ∧ (x1 = 1 → ∃ r13, sm_rv M1 23 13 = some r13 ∧ fS r13 ∧ K ((iV M1 r13 4).toInt64) M1) ∧ (x1 = 2 → K ((iV M1 (r7 + 1) 3).toInt64) M1) ∧ (x1 = 3 → ∃ r16, sm_rv M1 23 13 = some r16 ∧ fS r16 ∧ K ((iV M1 r16 6).toInt64) M1) ∧ (x1 = 4 → K (jV M1 (r7 + 1) 12) M1) ∧ ((x1 < 0 ∨ 4 < x1) → (vp_in (iV M1 (r7 + 1) 3) 601) ∧ (vp_in (iV M1 (r7 + 1) 3) 601) ∧ K ((jV M1 (r7 + 1 + 7) (iV M1 (r7 + 1) 3).toNatClampNeg) + (jV M1 (r7 + 1 + 8) (iV M1 (r7 + 1) 3).toNatClampNeg)) M1))))) hS h)) (fun M1 h => ?_)
  obtain ⟨hS3, h⟩ := h
  refine sm_w.run t129 sr129 5 1 (M2 := M1) (f2 := (8, [some (.ref 23), some (.int (x1)), none], [.ref 23])) rfl ⟨trivial, trivial⟩ ?_
  refine sm_w.zV t129 sr129 6 (i := 130) (as := [.ref 23]) (g := (8, [some (.ref 23), some (.int (x1)), none], [])) rfl ⟨by decide, by decide, (Nat.le_of_ble_eq_true rfl), (sm_K.g (k_23 hS3) (sm_sh.rf _)).1, (sm_K.g (k_23 hS3) (sm_sh.rf _)).2, (Nat.le_of_ble_eq_true rfl)⟩ (Nat.le_of_ble_eq_true rfl) (by decide) rfl (fun r M2 h => Or.inl ⟨r, rfl, h⟩) (sm_xV.s2 (by decide) hS3 (g130_0 (K := fun M4 => ∃ r7, sm_rv M4 23 13 = some r7 ∧ fS r7 ∧ ((x1 = 0 → ∃ r10, sm_rv M4 23 13 = some r10 ∧ fS r10 ∧ K (jV M4 r10 5) M4) ∧ (x1 = 1 → ∃ r13, sm_rv M4 23 13 = some r13 ∧ fS r13 ∧ K ((iV M4 r13 4).toInt64) M4) ∧ (x1 = 2 → K ((iV M4 (r7 + 1) 3).toInt64) M4) ∧ (x1 = 3 → ∃ r16, sm_rv M4 23 13 = some r16 ∧ fS r16 ∧ K ((iV M4 r16 6).toInt64) M4) ∧ (x1 = 4 → K (jV M4 (r7 + 1) 12) M4) ∧ ((x1 < 0 ∨ 4 < x1) → (vp_in (iV M4 (r7 + 1) 3) 601) ∧ (vp_in (iV M4 (r7 + 1) 3) 601) ∧ K ((jV M4 (r7 + 1 + 7) (iV M4 (r7 + 1) 3).toNatClampNeg) + (jV M4 (r7 + 1 + 8) (iV M4 (r7 + 1) 3).toNatClampNeg)) M4))) hS3 h)) (fun M4 h => ?_)
  obtain ⟨hS6, h⟩ := h
  refine sm_w.run t129 sr129 7 2 (M2 := M4) (f2 := (15, [some (.ref 23), some (.int (x1)), none], [va_rf (sm_rv M4 23 13)])) rfl ⟨trivial, sm_K.g (k_23 hS6) (sm_sh.rf _), trivial⟩ ?_
  obtain ⟨r7, e8, h9, h⟩ := h
  refine sm_w.fld e8 ?_
  refine sm_w.run t129 sr129 9 1 (M2 := M4) (f2 := (18, [some (.ref 23), some (.int (x1)), none], [va_rf (sm_rv M4 r7 0)])) rfl ⟨sm_K.g (kS_0 hS6 h9) (sm_sh.rf _), trivial⟩ ?_
  refine sm_w.fld (rS_0 hS6 h9) ?_
  refine sm_w.run t129 sr129 10 2 (M2 := M4) (f2 := (20, [some (.ref 23), some (.int (x1)), some (.ref (r7 + 1))], [.int (x1)])) rfl ⟨(Nat.le_of_ble_eq_true rfl), trivial, trivial⟩ ?_
  refine sm_w.tsw t129 sr129 12 4 (x := x1) (ls := [some (.ref 23), some (.int (x1)), some (.ref (r7 + 1))]) (st := []) rfl ⟨rfl, rfl, by decide⟩ (fun hc => ?_) (fun i hi hc => ?_)
  · have h := h.2.2.2.2.2 hc
    refine sm_w.run t129 sr129 34 2 (M2 := M4) (f2 := (97, [some (.ref 23), some (.int (x1)), some (.ref (r7 + 1))], [va_rf (sm_rv M4 (r7 + 1) 8)])) rfl ⟨trivial, sm_K.g (kK_0 hS6 (fS_1 h9)) (sm_sh.rf _), trivial⟩ ?_
    refine sm_w.fld (rK_8 hS6 (fS_1 h9)) ?_
    obtain ⟨c19, h⟩ := h
    refine sm_w.run t129 sr129 36 5 (M2 := M4) (f2 := (106, [some (.ref 23), some (.int (x1)), some (.ref (r7 + 1))], [va_rf (sm_rv M4 (r7 + 1) 9), .long (jV M4 (r7 + 1 + 7) (iV M4 (r7 + 1) 3).toNatClampNeg)])) rfl ⟨trivial, sm_K.g (kK_0 hS6 (fS_1 h9)) (sm_sh.rf _), sm_K.a2 (kK_7 hS6 (fS_1 h9)) (lK_7 hS6 (fS_1 h9)) c19, trivial, sm_K.g (kK_0 hS6 (fS_1 h9)) (sm_sh.rf _), trivial⟩ ?_
    refine sm_w.fld (rK_9 hS6 (fS_1 h9)) ?_
    obtain ⟨c20, h⟩ := h
    refine sm_w.run t129 sr129 41 4 (M2 := M4) (f2 := (112, [some (.ref 23), some (.int (x1)), some (.ref (r7 + 1))], [.long ((jV M4 (r7 + 1 + 7) (iV M4 (r7 + 1) 3).toNatClampNeg) + (jV M4 (r7 + 1 + 8) (iV M4 (r7 + 1) 3).toNatClampNeg))])) rfl ⟨trivial, sm_K.g (kK_0 hS6 (fS_1 h9)) (sm_sh.rf _), sm_K.a2 (kK_8 hS6 (fS_1 h9)) (lK_8 hS6 (fS_1 h9)) c20, trivial, trivial⟩ ?_
    exact sm_w.end t129 sr129 45 (o := .returned (some (.long ((jV M4 (r7 + 1 + 7) (iV M4 (r7 + 1) 3).toNatClampNeg) + (jV M4 (r7 + 1 + 8) (iV M4 (r7 + 1) 3).toNatClampNeg))))) (M2 := M4) rfl trivial (by decide) (Or.inr ⟨_, rfl, h⟩)
  · match i, hi, hc with
    | 0, _, hc =>
      have h := h.1 hc
      refine sm_w.run t129 sr129 13 2 (M2 := M4) (f2 := (60, [some (.ref 23), some (.int (x1)), some (.ref (r7 + 1))], [va_rf (sm_rv M4 23 13)])) rfl ⟨trivial, sm_K.g (k_23 hS6) (sm_sh.rf _), trivial⟩ ?_
      obtain ⟨r10, e11, h12, h⟩ := h
      refine sm_w.fld e11 ?_
      refine sm_w.run t129 sr129 15 1 (M2 := M4) (f2 := (63, [some (.ref 23), some (.int (x1)), some (.ref (r7 + 1))], [.long (jV M4 r10 5)])) rfl ⟨sm_K.g (kS_0 hS6 h12) (sm_sh.rf _), trivial⟩ ?_
      exact sm_w.end t129 sr129 16 (o := .returned (some (.long (jV M4 r10 5)))) (M2 := M4) rfl trivial (by decide) (Or.inr ⟨_, rfl, h⟩)
    | 1, _, hc =>
      have h := h.2.1 hc
      refine sm_w.run t129 sr129 17 2 (M2 := M4) (f2 := (68, [some (.ref 23), some (.int (x1)), some (.ref (r7 + 1))], [va_rf (sm_rv M4 23 13)])) rfl ⟨trivial, sm_K.g (k_23 hS6) (sm_sh.rf _), trivial⟩ ?_
      obtain ⟨r13, e14, h15, h⟩ := h
      refine sm_w.fld e14 ?_
      refine sm_w.run t129 sr129 19 2 (M2 := M4) (f2 := (72, [some (.ref 23), some (.int (x1)), some (.ref (r7 + 1))], [.long ((iV M4 r13 4).toInt64)])) rfl ⟨sm_K.g (kS_0 hS6 h15) (sm_sh.rf _), trivial, trivial⟩ ?_
      exact sm_w.end t129 sr129 21 (o := .returned (some (.long ((iV M4 r13 4).toInt64)))) (M2 := M4) rfl trivial (by decide) (Or.inr ⟨_, rfl, h⟩)
    | 2, _, hc =>
      have h := h.2.2.1 hc
      refine sm_w.run t129 sr129 22 3 (M2 := M4) (f2 := (78, [some (.ref 23), some (.int (x1)), some (.ref (r7 + 1))], [.long ((iV M4 (r7 + 1) 3).toInt64)])) rfl ⟨trivial, sm_K.g (kK_0 hS6 (fS_1 h9)) (sm_sh.rf _), trivial, trivial⟩ ?_
      exact sm_w.end t129 sr129 25 (o := .returned (some (.long ((iV M4 (r7 + 1) 3).toInt64)))) (M2 := M4) rfl trivial (by decide) (Or.inr ⟨_, rfl, h⟩)
    | 3, _, hc =>
      have h := h.2.2.2.1 hc
      refine sm_w.run t129 sr129 26 2 (M2 := M4) (f2 := (83, [some (.ref 23), some (.int (x1)), some (.ref (r7 + 1))], [va_rf (sm_rv M4 23 13)])) rfl ⟨trivial, sm_K.g (k_23 hS6) (sm_sh.rf _), trivial⟩ ?_
      obtain ⟨r16, e17, h18, h⟩ := h
      refine sm_w.fld e17 ?_
      refine sm_w.run t129 sr129 28 2 (M2 := M4) (f2 := (87, [some (.ref 23), some (.int (x1)), some (.ref (r7 + 1))], [.long ((iV M4 r16 6).toInt64)])) rfl ⟨sm_K.g (kS_0 hS6 h18) (sm_sh.rf _), trivial, trivial⟩ ?_
      exact sm_w.end t129 sr129 30 (o := .returned (some (.long ((iV M4 r16 6).toInt64)))) (M2 := M4) rfl trivial (by decide) (Or.inr ⟨_, rfl, h⟩)
    | 4, _, hc =>
      have h := h.2.2.2.2.1 hc
      refine sm_w.run t129 sr129 31 2 (M2 := M4) (f2 := (92, [some (.ref 23), some (.int (x1)), some (.ref (r7 + 1))], [.long (jV M4 (r7 + 1) 12)])) rfl ⟨trivial, sm_K.g (kK_0 hS6 (fS_1 h9)) (sm_sh.rf _), trivial⟩ ?_
      exact sm_w.end t129 sr129 33 (o := .returned (some (.long (jV M4 (r7 + 1) 12)))) (M2 := M4) rfl trivial (by decide) (Or.inr ⟨_, rfl, h⟩)
    | k + 5, hi, _ => exact absurd hi (by omega)
-- 128 LineSetterLaw.told(LLineSetter;I[J)I
theorem t128 : sP 128 = (4, sp_128, sh_128) := rfl
theorem sr128 : sm_srt sp_128 = true := by decide +kernel
theorem g128_0 {M : sm_M} {x1 : Int32} {K : Int32 → sm_M → Prop} (hS : SH M)  (h : sm_xJ 129 [.ref 23, .int (x1)] M (fun r0 M0 => (sm_kd M0 r0 = 48 ∧ SH M0 ∧ K (1 : Int32) M0) ∨ (sm_kd M0 r0 = 49 ∧ SH M0 ∧ K (2 : Int32) M0)) (fun v2 M1 => SH M1 → (vp_in (0 : Int32) 1) ∧ ∀ M5, SH M5 → M5 = sm_wJ M1 164 (0 : Int32).toNatClampNeg v2 → K (0 : Int32) M5)) : sm_w 128 (sm_in sP 128 [.ref 23, .int (x1), .ref 164]) M (rI K) := by
  show sm_w 128 (0, [some (.ref 23), some (.int (x1)), some (.ref 164), none], []) M (rI K)
  refine sm_w.run t128 sr128 0 4 (M2 := M) (f2 := (4, [some (.ref 23), some (.int (x1)), some (.ref 164), none], [.int (x1), .ref 23, .int ((0 : Int32)), .ref 164])) rfl ⟨trivial, trivial, trivial, trivial, trivial⟩ ?_
  refine sm_w.yJ t128 sr128 4 (i := 129) (as := [.ref 23, .int (x1)]) (g := (4, [some (.ref 23), some (.int (x1)), some (.ref 164), none], [.int ((0 : Int32)), .ref 164])) rfl ⟨by decide, by decide, (Nat.le_of_ble_eq_true rfl), (sm_K.g (k_23 hS) (sm_sh.rf _)).1, (sm_K.g (k_23 hS) (sm_sh.rf _)).2, (Nat.le_of_ble_eq_true rfl)⟩ (Nat.le_of_ble_eq_true rfl) (by decide) (sm_xJ.s (by decide) hS h) (fun r0 M0 h => ?_) (fun v2 M1 h => ?_)
  · rcases h with ⟨hk, hS0, h⟩ | ⟨hk, hS0, h⟩
    · refine ⟨11, by rw [hk]; rfl, ?_⟩
      refine sm_w.run t128 sr128 7 2 (M2 := M0) (f2 := (13, [some (.ref 23), some (.int (x1)), some (.ref 164), some (.ref r0)], [.int ((1 : Int32))])) rfl ⟨(Nat.le_of_ble_eq_true rfl), trivial, trivial⟩ ?_
      exact sm_w.end t128 sr128 9 (o := .returned (some (.int ((1 : Int32))))) (M2 := M0) rfl rfl (by decide) (⟨_, rfl, h⟩)
    · refine ⟨14, by rw [hk]; rfl, ?_⟩
      refine sm_w.run t128 sr128 10 2 (M2 := M0) (f2 := (16, [some (.ref 23), some (.int (x1)), some (.ref 164), some (.ref r0)], [.int ((2 : Int32))])) rfl ⟨(Nat.le_of_ble_eq_true rfl), trivial, trivial⟩ ?_
      exact sm_w.end t128 sr128 12 (o := .returned (some (.int ((2 : Int32))))) (M2 := M0) rfl rfl (by decide) (⟨_, rfl, h⟩)
  · obtain ⟨hS3, h⟩ := h
    obtain ⟨c4, h⟩ := h
    refine sm_w.run t128 sr128 5 1 (M2 := sm_wJ M1 164 (0 : Int32).toNatClampNeg v2) (f2 := (8, [some (.ref 23), some (.int (x1)), some (.ref 164), none], [])) rfl ⟨sm_K.s2 (k_164 hS3) (l_164 hS3) c4, trivial⟩ ?_
    have hS6 : SH (sm_wJ M1 164 (0 : Int32).toNatClampNeg v2) := SH.wJ hS3 _ _ _
    have h := h _ hS6 rfl
    generalize sm_wJ M1 164 (0 : Int32).toNatClampNeg v2 = M5 at h hS6 ⊢
    refine sm_w.run t128 sr128 6 1 (M2 := M5) (f2 := (17, [some (.ref 23), some (.int (x1)), some (.ref 164), none], [])) rfl ⟨trivial, trivial⟩ ?_
    refine sm_w.run t128 sr128 13 1 (M2 := M5) (f2 := (18, [some (.ref 23), some (.int (x1)), some (.ref 164), none], [.int ((0 : Int32))])) rfl ⟨trivial, trivial⟩ ?_
    exact sm_w.end t128 sr128 14 (o := .returned (some (.int ((0 : Int32))))) (M2 := M5) rfl rfl (by decide) (⟨_, rfl, h⟩)
-- 132 LineSetter.at(II)J
theorem t132 : sP 132 = (4, sp_132, sh_132) := rfl
theorem sr132 : sm_srt sp_132 = true := by decide +kernel
theorem g132_0 {M : sm_M} {x1 : Int32} {x2 : Int32} {K : Int64 → sm_M → Prop} {X : Nat → sm_M → Prop} (hS : SH M)  (h : ((x2 < (0 : Int32) → X M.1 (sm_new M 48 6)) ∧ (¬ x2 < (0 : Int32) → ((x2 ≤ (3 : Int32) → (((iV M 23 15) = 0 → ((x1 < (1 : Int32) → X M.1 (sm_new M 48 6)) ∧ (¬ x1 < (1 : Int32) → ((x1 ≤ x1 → (((iV M 23 15) = 0 → X M.1 (sm_new M 49 6)) ∧ (¬ (iV M 23 15) = 0 → ∃ r10, sm_rv M 23 13 = some r10 ∧ fS r10 ∧ ((x2 = 0 → (vp_in x1 601) ∧ K ((iV M (r10 + 1 + 3) x1.toNatClampNeg).toInt64) M) ∧ (x2 = 1 → (vp_in x1 601) ∧ K ((iV M (r10 + 1 + 4) x1.toNatClampNeg).toInt64) M) ∧ (x2 = 2 → (vp_in x1 601) ∧ K (jV M (r10 + 1 + 7) x1.toNatClampNeg) M) ∧ ((x2 < 0 ∨ 2 < x2) → (vp_in x1 601) ∧ K (jV M (r10 + 1 + 8) x1.toNatClampNeg) M))))) ∧ (¬ x1 ≤ x1 → X M.1 (sm_new M 48 6)))))) ∧ (¬ (iV M 23 15) = 0 → ∃ r17, sm_rv M 23 13 = some r17 ∧ fS r17 ∧ ((x1 < (1 : Int32) → X M.1 (sm_new M 48 6)) ∧ (¬ x1 < (1 : Int32) → ((x1 ≤ (iV M (r17 + 1) 3) → (((iV M 23 15) = 0 → X M.1 (sm_new M 49 6)) ∧ (¬ (iV M 23 15) = 0 → ∃ r26, sm_rv M 23 13 = some r26 ∧ fS r26 ∧ ((x2 = 0 → (vp_in x1 601) ∧ K ((iV M (r26 + 1 + 3) x1.toNatClampNeg).toInt64) M) ∧ (x2 = 1 → (vp_in x1 601) ∧ K ((iV M (r26 + 1 + 4) x1.toNatClampNeg).toInt64) M) ∧ (x2 = 2 → (vp_in x1 601) ∧ K (jV M (r26 + 1 + 7) x1.toNatClampNeg) M) ∧ ((x2 < 0 ∨ 2 < x2) → (vp_in x1 601) ∧ K (jV M (r26 + 1 + 8) x1.toNatClampNeg) M))))) ∧ (¬ x1 ≤ (iV M (r17 + 1) 3) → X M.1 (sm_new M 48 6)))))))) ∧ (¬ x2 ≤ (3 : Int32) → X M.1 (sm_new M 48 6)))))) : sm_w 132 (sm_in sP 132 [.ref 23, .int (x1), .int (x2)]) M (yJ X K) := by
  show sm_w 132 (0, [some (.ref 23), some (.int (x1)), some (.int (x2)), none], []) M (yJ X K)
  refine sm_w.run t132 sr132 0 4 (M2 := M) (f2 := (4, [some (.ref 23), some (.int (x1)), some (.int (x2)), none], [.int ((3 : Int32)), .int ((0 : Int32)), .int (x2), .ref 23])) rfl ⟨trivial, trivial, trivial, trivial, trivial⟩ ?_
  refine sm_w.zV t132 sr132 4 (i := 79) (as := [.ref 23, .int (x2), .int ((0 : Int32)), .int ((3 : Int32))]) (g := (4, [some (.ref 23), some (.int (x1)), some (.int (x2)), none], [])) rfl ⟨by decide, by decide, (Nat.le_of_ble_eq_true rfl), (sm_K.g (k_23 hS) (sm_sh.rf _)).1, (sm_K.g (k_23 hS) (sm_sh.rf _)).2, (Nat.le_of_ble_eq_true rfl)⟩ (Nat.le_of_ble_eq_true rfl) (by decide) rfl (fun r M2 h => Or.inl ⟨r, rfl, h⟩) (sm_xV.s2 (by decide) hS (g79_0 (K := fun M1 => (((iV M1 23 15) = 0 → ((x1 < (1 : Int32) → X M1.1 (sm_new M1 48 6)) ∧ (¬ x1 < (1 : Int32) → ((x1 ≤ x1 → (((iV M1 23 15) = 0 → X M1.1 (sm_new M1 49 6)) ∧ (¬ (iV M1 23 15) = 0 → ∃ r10, sm_rv M1 23 13 = some r10 ∧ fS r10 ∧ ((x2 = 0 → (vp_in x1 601) ∧ K ((iV M1 (r10 + 1 + 3) x1.toNatClampNeg).toInt64) M1) ∧ (x2 = 1 → (vp_in x1 601) ∧ K ((iV M1 (r10 + 1 + 4) x1.toNatClampNeg).toInt64) M1) ∧ (x2 = 2 → (vp_in x1 601) ∧ K (jV M1 (r10 + 1 + 7) x1.toNatClampNeg) M1) ∧ ((x2 < 0 ∨ 2 < x2) → (vp_in x1 601) ∧ K (jV M1 (r10 + 1 + 8) x1.toNatClampNeg) M1))))) ∧ (¬ x1 ≤ x1 → X M1.1 (sm_new M1 48 6)))))) ∧ (¬ (iV M1 23 15) = 0 → ∃ r17, sm_rv M1 23 13 = some r17 ∧ fS r17 ∧ ((x1 < (1 : Int32) → X M1.1 (sm_new M1 48 6)) ∧ (¬ x1 < (1 : Int32) → ((x1 ≤ (iV M1 (r17 + 1) 3) → (((iV M1 23 15) = 0 → X M1.1 (sm_new M1 49 6)) ∧ (¬ (iV M1 23 15) = 0 → ∃ r26, sm_rv M1 23 13 = some r26 ∧ fS r26 ∧ ((x2 = 0 → (vp_in x1 601) ∧ K ((iV M1 (r26 + 1 + 3) x1.toNatClampNeg).toInt64) M1) ∧ (x2 = 1 → (vp_in x1 601) ∧ K ((iV M1 (r26 + 1 + 4) x1.toNatClampNeg).toInt64) M1) ∧ (x2 = 2 → (vp_in x1 601) ∧ K (jV M1 (r26 + 1 + 7) x1.toNatClampNeg) M1) ∧ ((x2 < 0 ∨ 2 < x2) → (vp_in x1 601) ∧ K (jV M1 (r26 + 1 + 8) x1.toNatClampNeg) M1))))) ∧ (¬ x1 ≤ (iV M1 (r17 + 1) 3) → X M1.1 (sm_new M1 48 6)))))))) hS h)) (fun M1 h => ?_)
  obtain ⟨hS3, h⟩ := h
  refine sm_w.run t132 sr132 5 6 (M2 := M1) (f2 := (if (iV M1 23 15) = 0 then 30 else 17, [some (.ref 23), some (.int (x1)), some (.int (x2)), none], [.int ((1 : Int32)), .int (x1), .ref 23])) rfl ⟨trivial, trivial, trivial, trivial, sm_K.g (k_23 hS3) (sm_sh.rf _), trivial, trivial⟩ ?_
  refine sm_w.ite (fun hc => ?_) (fun hc => ?_)
  · have h := h.1 hc
    refine sm_w.run t132 sr132 16 1 (M2 := M1) (f2 := (31, [some (.ref 23), some (.int (x1)), some (.int (x2)), none], [.int (x1), .int ((1 : Int32)), .int (x1), .ref 23])) rfl ⟨trivial, trivial⟩ ?_
    refine sm_w.zV t132 sr132 17 (i := 79) (as := [.ref 23, .int (x1), .int ((1 : Int32)), .int (x1)]) (g := (31, [some (.ref 23), some (.int (x1)), some (.int (x2)), none], [])) rfl ⟨by decide, by decide, (Nat.le_of_ble_eq_true rfl), (sm_K.g (k_23 hS3) (sm_sh.rf _)).1, (sm_K.g (k_23 hS3) (sm_sh.rf _)).2, (Nat.le_of_ble_eq_true rfl)⟩ (Nat.le_of_ble_eq_true rfl) (by decide) rfl (fun r M2 h => Or.inl ⟨r, rfl, h⟩) (sm_xV.s2 (by decide) hS3 (g79_0 (K := fun M4 => (((iV M4 23 15) = 0 → X M4.1 (sm_new M4 49 6)) ∧ (¬ (iV M4 23 15) = 0 → ∃ r10, sm_rv M4 23 13 = some r10 ∧ fS r10 ∧ ((x2 = 0 → (vp_in x1 601) ∧ K ((iV M4 (r10 + 1 + 3) x1.toNatClampNeg).toInt64) M4) ∧ (x2 = 1 → (vp_in x1 601) ∧ K ((iV M4 (r10 + 1 + 4) x1.toNatClampNeg).toInt64) M4) ∧ (x2 = 2 → (vp_in x1 601) ∧ K (jV M4 (r10 + 1 + 7) x1.toNatClampNeg) M4) ∧ ((x2 < 0 ∨ 2 < x2) → (vp_in x1 601) ∧ K (jV M4 (r10 + 1 + 8) x1.toNatClampNeg) M4))))) hS3 h)) (fun M4 h => ?_)
    obtain ⟨hS6, h⟩ := h
    refine sm_w.run t132 sr132 18 1 (M2 := M4) (f2 := (35, [some (.ref 23), some (.int (x1)), some (.int (x2)), none], [.ref 23])) rfl ⟨trivial, trivial⟩ ?_
    refine sm_w.zV t132 sr132 19 (i := 130) (as := [.ref 23]) (g := (35, [some (.ref 23), some (.int (x1)), some (.int (x2)), none], [])) rfl ⟨by decide, by decide, (Nat.le_of_ble_eq_true rfl), (sm_K.g (k_23 hS6) (sm_sh.rf _)).1, (sm_K.g (k_23 hS6) (sm_sh.rf _)).2, (Nat.le_of_ble_eq_true rfl)⟩ (Nat.le_of_ble_eq_true rfl) (by decide) rfl (fun r M2 h => Or.inl ⟨r, rfl, h⟩) (sm_xV.s2 (by decide) hS6 (g130_0 (K := fun M7 => ∃ r10, sm_rv M7 23 13 = some r10 ∧ fS r10 ∧ ((x2 = 0 → (vp_in x1 601) ∧ K ((iV M7 (r10 + 1 + 3) x1.toNatClampNeg).toInt64) M7) ∧ (x2 = 1 → (vp_in x1 601) ∧ K ((iV M7 (r10 + 1 + 4) x1.toNatClampNeg).toInt64) M7) ∧ (x2 = 2 → (vp_in x1 601) ∧ K (jV M7 (r10 + 1 + 7) x1.toNatClampNeg) M7) ∧ ((x2 < 0 ∨ 2 < x2) → (vp_in x1 601) ∧ K (jV M7 (r10 + 1 + 8) x1.toNatClampNeg) M7))) hS6 h)) (fun M7 h => ?_)
    obtain ⟨hS9, h⟩ := h
    refine sm_w.run t132 sr132 20 2 (M2 := M7) (f2 := (42, [some (.ref 23), some (.int (x1)), some (.int (x2)), none], [va_rf (sm_rv M7 23 13)])) rfl ⟨trivial, sm_K.g (k_23 hS9) (sm_sh.rf _), trivial⟩ ?_
    obtain ⟨r10, e11, h12, h⟩ := h
    refine sm_w.fld e11 ?_
    refine sm_w.run t132 sr132 22 1 (M2 := M7) (f2 := (45, [some (.ref 23), some (.int (x1)), some (.int (x2)), none], [va_rf (sm_rv M7 r10 0)])) rfl ⟨sm_K.g (kS_0 hS9 h12) (sm_sh.rf _), trivial⟩ ?_
    refine sm_w.fld (rS_0 hS9 h12) ?_
    refine sm_w.run t132 sr132 23 2 (M2 := M7) (f2 := (47, [some (.ref 23), some (.int (x1)), some (.int (x2)), some (.ref (r10 + 1))], [.int (x2)])) rfl ⟨(Nat.le_of_ble_eq_true rfl), trivial, trivial⟩ ?_
    refine sm_w.tsw t132 sr132 25 2 (x := x2) (ls := [some (.ref 23), some (.int (x1)), some (.int (x2)), some (.ref (r10 + 1))]) (st := []) rfl ⟨rfl, rfl, by decide⟩ (fun hc => ?_) (fun i hi hc => ?_)
    · have h := h.2.2.2 hc
      refine sm_w.run t132 sr132 43 2 (M2 := M7) (f2 := (99, [some (.ref 23), some (.int (x1)), some (.int (x2)), some (.ref (r10 + 1))], [va_rf (sm_rv M7 (r10 + 1) 9)])) rfl ⟨trivial, sm_K.g (kK_0 hS9 (fS_1 h12)) (sm_sh.rf _), trivial⟩ ?_
      refine sm_w.fld (rK_9 hS9 (fS_1 h12)) ?_
      obtain ⟨c16, h⟩ := h
      refine sm_w.run t132 sr132 45 2 (M2 := M7) (f2 := (101, [some (.ref 23), some (.int (x1)), some (.int (x2)), some (.ref (r10 + 1))], [.long (jV M7 (r10 + 1 + 8) x1.toNatClampNeg)])) rfl ⟨trivial, sm_K.a2 (kK_8 hS9 (fS_1 h12)) (lK_8 hS9 (fS_1 h12)) c16, trivial⟩ ?_
      exact sm_w.end t132 sr132 47 (o := .returned (some (.long (jV M7 (r10 + 1 + 8) x1.toNatClampNeg)))) (M2 := M7) rfl trivial (by decide) (Or.inr ⟨_, rfl, h⟩)
    · match i, hi, hc with
      | 0, _, hc =>
        have h := h.1 hc
        refine sm_w.run t132 sr132 26 2 (M2 := M7) (f2 := (76, [some (.ref 23), some (.int (x1)), some (.int (x2)), some (.ref (r10 + 1))], [va_rf (sm_rv M7 (r10 + 1) 4)])) rfl ⟨trivial, sm_K.g (kK_0 hS9 (fS_1 h12)) (sm_sh.rf _), trivial⟩ ?_
        refine sm_w.fld (rK_4 hS9 (fS_1 h12)) ?_
        obtain ⟨c13, h⟩ := h
        refine sm_w.run t132 sr132 28 3 (M2 := M7) (f2 := (79, [some (.ref 23), some (.int (x1)), some (.int (x2)), some (.ref (r10 + 1))], [.long ((iV M7 (r10 + 1 + 3) x1.toNatClampNeg).toInt64)])) rfl ⟨trivial, sm_K.a2 (kK_3 hS9 (fS_1 h12)) (lK_3 hS9 (fS_1 h12)) c13, trivial, trivial⟩ ?_
        exact sm_w.end t132 sr132 31 (o := .returned (some (.long ((iV M7 (r10 + 1 + 3) x1.toNatClampNeg).toInt64)))) (M2 := M7) rfl trivial (by decide) (Or.inr ⟨_, rfl, h⟩)
      | 1, _, hc =>
        have h := h.2.1 hc
        refine sm_w.run t132 sr132 32 2 (M2 := M7) (f2 := (84, [some (.ref 23), some (.int (x1)), some (.int (x2)), some (.ref (r10 + 1))], [va_rf (sm_rv M7 (r10 + 1) 5)])) rfl ⟨trivial, sm_K.g (kK_0 hS9 (fS_1 h12)) (sm_sh.rf _), trivial⟩ ?_
        refine sm_w.fld (rK_5 hS9 (fS_1 h12)) ?_
        obtain ⟨c14, h⟩ := h
        refine sm_w.run t132 sr132 34 3 (M2 := M7) (f2 := (87, [some (.ref 23), some (.int (x1)), some (.int (x2)), some (.ref (r10 + 1))], [.long ((iV M7 (r10 + 1 + 4) x1.toNatClampNeg).toInt64)])) rfl ⟨trivial, sm_K.a2 (kK_4 hS9 (fS_1 h12)) (lK_4 hS9 (fS_1 h12)) c14, trivial, trivial⟩ ?_
        exact sm_w.end t132 sr132 37 (o := .returned (some (.long ((iV M7 (r10 + 1 + 4) x1.toNatClampNeg).toInt64)))) (M2 := M7) rfl trivial (by decide) (Or.inr ⟨_, rfl, h⟩)
      | 2, _, hc =>
        have h := h.2.2.1 hc
        refine sm_w.run t132 sr132 38 2 (M2 := M7) (f2 := (92, [some (.ref 23), some (.int (x1)), some (.int (x2)), some (.ref (r10 + 1))], [va_rf (sm_rv M7 (r10 + 1) 8)])) rfl ⟨trivial, sm_K.g (kK_0 hS9 (fS_1 h12)) (sm_sh.rf _), trivial⟩ ?_
        refine sm_w.fld (rK_8 hS9 (fS_1 h12)) ?_
        obtain ⟨c15, h⟩ := h
        refine sm_w.run t132 sr132 40 2 (M2 := M7) (f2 := (94, [some (.ref 23), some (.int (x1)), some (.int (x2)), some (.ref (r10 + 1))], [.long (jV M7 (r10 + 1 + 7) x1.toNatClampNeg)])) rfl ⟨trivial, sm_K.a2 (kK_7 hS9 (fS_1 h12)) (lK_7 hS9 (fS_1 h12)) c15, trivial⟩ ?_
        exact sm_w.end t132 sr132 42 (o := .returned (some (.long (jV M7 (r10 + 1 + 7) x1.toNatClampNeg)))) (M2 := M7) rfl trivial (by decide) (Or.inr ⟨_, rfl, h⟩)
      | k + 3, hi, _ => exact absurd hi (by omega)
  · have h := h.2 hc
    refine sm_w.run t132 sr132 11 2 (M2 := M1) (f2 := (21, [some (.ref 23), some (.int (x1)), some (.int (x2)), none], [va_rf (sm_rv M1 23 13), .int ((1 : Int32)), .int (x1), .ref 23])) rfl ⟨trivial, sm_K.g (k_23 hS3) (sm_sh.rf _), trivial⟩ ?_
    obtain ⟨r17, e18, h19, h⟩ := h
    refine sm_w.fld e18 ?_
    refine sm_w.run t132 sr132 13 1 (M2 := M1) (f2 := (24, [some (.ref 23), some (.int (x1)), some (.int (x2)), none], [va_rf (sm_rv M1 r17 0), .int ((1 : Int32)), .int (x1), .ref 23])) rfl ⟨sm_K.g (kS_0 hS3 h19) (sm_sh.rf _), trivial⟩ ?_
    refine sm_w.fld (rS_0 hS3 h19) ?_
    refine sm_w.run t132 sr132 14 2 (M2 := M1) (f2 := (31, [some (.ref 23), some (.int (x1)), some (.int (x2)), none], [.int (iV M1 (r17 + 1) 3), .int ((1 : Int32)), .int (x1), .ref 23])) rfl ⟨sm_K.g (kK_0 hS3 (fS_1 h19)) (sm_sh.rf _), trivial, trivial⟩ ?_
    refine sm_w.zV t132 sr132 17 (i := 79) (as := [.ref 23, .int (x1), .int ((1 : Int32)), .int (iV M1 (r17 + 1) 3)]) (g := (31, [some (.ref 23), some (.int (x1)), some (.int (x2)), none], [])) rfl ⟨by decide, by decide, (Nat.le_of_ble_eq_true rfl), (sm_K.g (k_23 hS3) (sm_sh.rf _)).1, (sm_K.g (k_23 hS3) (sm_sh.rf _)).2, (Nat.le_of_ble_eq_true rfl)⟩ (Nat.le_of_ble_eq_true rfl) (by decide) rfl (fun r M2 h => Or.inl ⟨r, rfl, h⟩) (sm_xV.s2 (by decide) hS3 (g79_0 (K := fun M20 => (((iV M20 23 15) = 0 → X M20.1 (sm_new M20 49 6)) ∧ (¬ (iV M20 23 15) = 0 → ∃ r26, sm_rv M20 23 13 = some r26 ∧ fS r26 ∧ ((x2 = 0 → (vp_in x1 601) ∧ K ((iV M20 (r26 + 1 + 3) x1.toNatClampNeg).toInt64) M20) ∧ (x2 = 1 → (vp_in x1 601) ∧ K ((iV M20 (r26 + 1 + 4) x1.toNatClampNeg).toInt64) M20) ∧ (x2 = 2 → (vp_in x1 601) ∧ K (jV M20 (r26 + 1 + 7) x1.toNatClampNeg) M20) ∧ ((x2 < 0 ∨ 2 < x2) → (vp_in x1 601) ∧ K (jV M20 (r26 + 1 + 8) x1.toNatClampNeg) M20))))) hS3 h)) (fun M20 h => ?_)
    obtain ⟨hS22, h⟩ := h
    refine sm_w.run t132 sr132 18 1 (M2 := M20) (f2 := (35, [some (.ref 23), some (.int (x1)), some (.int (x2)), none], [.ref 23])) rfl ⟨trivial, trivial⟩ ?_
    refine sm_w.zV t132 sr132 19 (i := 130) (as := [.ref 23]) (g := (35, [some (.ref 23), some (.int (x1)), some (.int (x2)), none], [])) rfl ⟨by decide, by decide, (Nat.le_of_ble_eq_true rfl), (sm_K.g (k_23 hS22) (sm_sh.rf _)).1, (sm_K.g (k_23 hS22) (sm_sh.rf _)).2, (Nat.le_of_ble_eq_true rfl)⟩ (Nat.le_of_ble_eq_true rfl) (by decide) rfl (fun r M2 h => Or.inl ⟨r, rfl, h⟩) (sm_xV.s2 (by decide) hS22 (g130_0 (K := fun M23 => ∃ r26, sm_rv M23 23 13 = some r26 ∧ fS r26 ∧ ((x2 = 0 → (vp_in x1 601) ∧ K ((iV M23 (r26 + 1 + 3) x1.toNatClampNeg).toInt64) M23) ∧ (x2 = 1 → (vp_in x1 601) ∧ K ((iV M23 (r26 + 1 + 4) x1.toNatClampNeg).toInt64) M23) ∧ (x2 = 2 → (vp_in x1 601) ∧ K (jV M23 (r26 + 1 + 7) x1.toNatClampNeg) M23) ∧ ((x2 < 0 ∨ 2 < x2) → (vp_in x1 601) ∧ K (jV M23 (r26 + 1 + 8) x1.toNatClampNeg) M23))) hS22 h)) (fun M23 h => ?_)
    obtain ⟨hS25, h⟩ := h
    refine sm_w.run t132 sr132 20 2 (M2 := M23) (f2 := (42, [some (.ref 23), some (.int (x1)), some (.int (x2)), none], [va_rf (sm_rv M23 23 13)])) rfl ⟨trivial, sm_K.g (k_23 hS25) (sm_sh.rf _), trivial⟩ ?_
    obtain ⟨r26, e27, h28, h⟩ := h
    refine sm_w.fld e27 ?_
    refine sm_w.run t132 sr132 22 1 (M2 := M23) (f2 := (45, [some (.ref 23), some (.int (x1)), some (.int (x2)), none], [va_rf (sm_rv M23 r26 0)])) rfl ⟨sm_K.g (kS_0 hS25 h28) (sm_sh.rf _), trivial⟩ ?_
    refine sm_w.fld (rS_0 hS25 h28) ?_
    refine sm_w.run t132 sr132 23 2 (M2 := M23) (f2 := (47, [some (.ref 23), some (.int (x1)), some (.int (x2)), some (.ref (r26 + 1))], [.int (x2)])) rfl ⟨(Nat.le_of_ble_eq_true rfl), trivial, trivial⟩ ?_
    refine sm_w.tsw t132 sr132 25 2 (x := x2) (ls := [some (.ref 23), some (.int (x1)), some (.int (x2)), some (.ref (r26 + 1))]) (st := []) rfl ⟨rfl, rfl, by decide⟩ (fun hc => ?_) (fun i hi hc => ?_)
    · have h := h.2.2.2 hc
      refine sm_w.run t132 sr132 43 2 (M2 := M23) (f2 := (99, [some (.ref 23), some (.int (x1)), some (.int (x2)), some (.ref (r26 + 1))], [va_rf (sm_rv M23 (r26 + 1) 9)])) rfl ⟨trivial, sm_K.g (kK_0 hS25 (fS_1 h28)) (sm_sh.rf _), trivial⟩ ?_
      refine sm_w.fld (rK_9 hS25 (fS_1 h28)) ?_
      obtain ⟨c32, h⟩ := h
      refine sm_w.run t132 sr132 45 2 (M2 := M23) (f2 := (101, [some (.ref 23), some (.int (x1)), some (.int (x2)), some (.ref (r26 + 1))], [.long (jV M23 (r26 + 1 + 8) x1.toNatClampNeg)])) rfl ⟨trivial, sm_K.a2 (kK_8 hS25 (fS_1 h28)) (lK_8 hS25 (fS_1 h28)) c32, trivial⟩ ?_
      exact sm_w.end t132 sr132 47 (o := .returned (some (.long (jV M23 (r26 + 1 + 8) x1.toNatClampNeg)))) (M2 := M23) rfl trivial (by decide) (Or.inr ⟨_, rfl, h⟩)
    · match i, hi, hc with
      | 0, _, hc =>
        have h := h.1 hc
        refine sm_w.run t132 sr132 26 2 (M2 := M23) (f2 := (76, [some (.ref 23), some (.int (x1)), some (.int (x2)), some (.ref (r26 + 1))], [va_rf (sm_rv M23 (r26 + 1) 4)])) rfl ⟨trivial, sm_K.g (kK_0 hS25 (fS_1 h28)) (sm_sh.rf _), trivial⟩ ?_
        refine sm_w.fld (rK_4 hS25 (fS_1 h28)) ?_
        obtain ⟨c29, h⟩ := h
        refine sm_w.run t132 sr132 28 3 (M2 := M23) (f2 := (79, [some (.ref 23), some (.int (x1)), some (.int (x2)), some (.ref (r26 + 1))], [.long ((iV M23 (r26 + 1 + 3) x1.toNatClampNeg).toInt64)])) rfl ⟨trivial, sm_K.a2 (kK_3 hS25 (fS_1 h28)) (lK_3 hS25 (fS_1 h28)) c29, trivial, trivial⟩ ?_
        exact sm_w.end t132 sr132 31 (o := .returned (some (.long ((iV M23 (r26 + 1 + 3) x1.toNatClampNeg).toInt64)))) (M2 := M23) rfl trivial (by decide) (Or.inr ⟨_, rfl, h⟩)
      | 1, _, hc =>
        have h := h.2.1 hc
        refine sm_w.run t132 sr132 32 2 (M2 := M23) (f2 := (84, [some (.ref 23), some (.int (x1)), some (.int (x2)), some (.ref (r26 + 1))], [va_rf (sm_rv M23 (r26 + 1) 5)])) rfl ⟨trivial, sm_K.g (kK_0 hS25 (fS_1 h28)) (sm_sh.rf _), trivial⟩ ?_
        refine sm_w.fld (rK_5 hS25 (fS_1 h28)) ?_
        obtain ⟨c30, h⟩ := h
        refine sm_w.run t132 sr132 34 3 (M2 := M23) (f2 := (87, [some (.ref 23), some (.int (x1)), some (.int (x2)), some (.ref (r26 + 1))], [.long ((iV M23 (r26 + 1 + 4) x1.toNatClampNeg).toInt64)])) rfl ⟨trivial, sm_K.a2 (kK_4 hS25 (fS_1 h28)) (lK_4 hS25 (fS_1 h28)) c30, trivial, trivial⟩ ?_
        exact sm_w.end t132 sr132 37 (o := .returned (some (.long ((iV M23 (r26 + 1 + 4) x1.toNatClampNeg).toInt64)))) (M2 := M23) rfl trivial (by decide) (Or.inr ⟨_, rfl, h⟩)
      | 2, _, hc =>
        have h := h.2.2.1 hc
        refine sm_w.run t132 sr132 38 2 (M2 := M23) (f2 := (92, [some (.ref 23), some (.int (x1)), some (.int (x2)), some (.ref (r26 + 1))], [va_rf (sm_rv M23 (r26 + 1) 8)])) rfl ⟨trivial, sm_K.g (kK_0 hS25 (fS_1 h28)) (sm_sh.rf _), trivial⟩ ?_
        refine sm_w.fld (rK_8 hS25 (fS_1 h28)) ?_
        obtain ⟨c31, h⟩ := h
        refine sm_w.run t132 sr132 40 2 (M2 := M23) (f2 := (94, [some (.ref 23), some (.int (x1)), some (.int (x2)), some (.ref (r26 + 1))], [.long (jV M23 (r26 + 1 + 7) x1.toNatClampNeg)])) rfl ⟨trivial, sm_K.a2 (kK_7 hS25 (fS_1 h28)) (lK_7 hS25 (fS_1 h28)) c31, trivial⟩ ?_
        exact sm_w.end t132 sr132 42 (o := .returned (some (.long (jV M23 (r26 + 1 + 7) x1.toNatClampNeg)))) (M2 := M23) rfl trivial (by decide) (Or.inr ⟨_, rfl, h⟩)
      | k + 3, hi, _ => exact absurd hi (by omega)
-- 131 LineSetterLaw.at(LLineSetter;II[J)I
theorem t131 : sP 131 = (5, sp_131, sh_131) := rfl
theorem sr131 : sm_srt sp_131 = true := by decide +kernel
theorem g131_0 {M : sm_M} {x1 : Int32} {x2 : Int32} {K : Int32 → sm_M → Prop} (hS : SH M)  (h : sm_xJ 132 [.ref 23, .int (x1), .int (x2)] M (fun r0 M0 => (sm_kd M0 r0 = 48 ∧ SH M0 ∧ K (1 : Int32) M0) ∨ (sm_kd M0 r0 = 49 ∧ SH M0 ∧ K (2 : Int32) M0)) (fun v2 M1 => SH M1 → (vp_in (0 : Int32) 1) ∧ ∀ M5, SH M5 → M5 = sm_wJ M1 164 (0 : Int32).toNatClampNeg v2 → K (0 : Int32) M5)) : sm_w 131 (sm_in sP 131 [.ref 23, .int (x1), .int (x2), .ref 164]) M (rI K) := by
  show sm_w 131 (0, [some (.ref 23), some (.int (x1)), some (.int (x2)), some (.ref 164), none], []) M (rI K)
  refine sm_w.run t131 sr131 0 5 (M2 := M) (f2 := (5, [some (.ref 23), some (.int (x1)), some (.int (x2)), some (.ref 164), none], [.int (x2), .int (x1), .ref 23, .int ((0 : Int32)), .ref 164])) rfl ⟨trivial, trivial, trivial, trivial, trivial, trivial⟩ ?_
  refine sm_w.yJ t131 sr131 5 (i := 132) (as := [.ref 23, .int (x1), .int (x2)]) (g := (5, [some (.ref 23), some (.int (x1)), some (.int (x2)), some (.ref 164), none], [.int ((0 : Int32)), .ref 164])) rfl ⟨by decide, by decide, (Nat.le_of_ble_eq_true rfl), (sm_K.g (k_23 hS) (sm_sh.rf _)).1, (sm_K.g (k_23 hS) (sm_sh.rf _)).2, (Nat.le_of_ble_eq_true rfl)⟩ (Nat.le_of_ble_eq_true rfl) (by decide) (sm_xJ.s (by decide) hS h) (fun r0 M0 h => ?_) (fun v2 M1 h => ?_)
  · rcases h with ⟨hk, hS0, h⟩ | ⟨hk, hS0, h⟩
    · refine ⟨12, by rw [hk]; rfl, ?_⟩
      refine sm_w.run t131 sr131 8 2 (M2 := M0) (f2 := (15, [some (.ref 23), some (.int (x1)), some (.int (x2)), some (.ref 164), some (.ref r0)], [.int ((1 : Int32))])) rfl ⟨(Nat.le_of_ble_eq_true rfl), trivial, trivial⟩ ?_
      exact sm_w.end t131 sr131 10 (o := .returned (some (.int ((1 : Int32))))) (M2 := M0) rfl rfl (by decide) (⟨_, rfl, h⟩)
    · refine ⟨16, by rw [hk]; rfl, ?_⟩
      refine sm_w.run t131 sr131 11 2 (M2 := M0) (f2 := (19, [some (.ref 23), some (.int (x1)), some (.int (x2)), some (.ref 164), some (.ref r0)], [.int ((2 : Int32))])) rfl ⟨(Nat.le_of_ble_eq_true rfl), trivial, trivial⟩ ?_
      exact sm_w.end t131 sr131 13 (o := .returned (some (.int ((2 : Int32))))) (M2 := M0) rfl rfl (by decide) (⟨_, rfl, h⟩)
  · obtain ⟨hS3, h⟩ := h
    obtain ⟨c4, h⟩ := h
    refine sm_w.run t131 sr131 6 1 (M2 := sm_wJ M1 164 (0 : Int32).toNatClampNeg v2) (f2 := (9, [some (.ref 23), some (.int (x1)), some (.int (x2)), some (.ref 164), none], [])) rfl ⟨sm_K.s2 (k_164 hS3) (l_164 hS3) c4, trivial⟩ ?_
    have hS6 : SH (sm_wJ M1 164 (0 : Int32).toNatClampNeg v2) := SH.wJ hS3 _ _ _
    have h := h _ hS6 rfl
    generalize sm_wJ M1 164 (0 : Int32).toNatClampNeg v2 = M5 at h hS6 ⊢
    refine sm_w.run t131 sr131 7 1 (M2 := M5) (f2 := (20, [some (.ref 23), some (.int (x1)), some (.int (x2)), some (.ref 164), none], [])) rfl ⟨trivial, trivial⟩ ?_
    refine sm_w.run t131 sr131 14 1 (M2 := M5) (f2 := (21, [some (.ref 23), some (.int (x1)), some (.int (x2)), some (.ref 164), none], [.int ((0 : Int32))])) rfl ⟨trivial, trivial⟩ ?_
    exact sm_w.end t131 sr131 15 (o := .returned (some (.int ((0 : Int32))))) (M2 := M5) rfl rfl (by decide) (⟨_, rfl, h⟩)
