/-! METHODS by their segments. -/
-- 152 LineSetter.parts()I
theorem t152 : sP 152 = (3, sp_152, sh_152) := rfl
theorem sr152 : sm_srt sp_152 = true := by decide +kernel
theorem g152_0 {M : sm_M}  {K : Int32 → sm_M → Prop} {X : Nat → sm_M → Prop} (hS : SH M)  (h : ∀ M1, SH M1 → M1 = sm_wI M 24 1 (0 : Int32) → (((iV M 24 1) < (1 : Int32) → X M1.1 (sm_new M1 48 6)) ∧ (¬ (iV M 24 1) < (1 : Int32) → (((60 : Int32) < (iV M 24 1) → X M1.1 (sm_new M1 48 6)) ∧ (¬ (60 : Int32) < (iV M 24 1) → sm_cI 153 [.ref 25, .int (iV M 24 1)] M1 (fun v4 M3 => SH M3 → ((v4 = 0 → X M3.1 (sm_new M3 48 6)) ∧ (¬ v4 = 0 → sm_cV 9 [.ref 29, .int ((-1 : Int32))] M3 (fun M6 => SH M6 → ∃ r9, sm_rv M6 23 11 = some r9 ∧ fH r9 ∧ sm_cV 90 [.ref r9, .ref 25, .int ((0 : Int32)), .int (iV M 24 1), .ref 29] M6 (fun M12 => SH M12 → ∀ M15, SH M15 → M15 = sm_wI M12 26 1 (0 : Int32) → sm_w 152 (90, [some (.ref 23), some (.int (iV M 24 1)), some (.int ((0 : Int32)))], []) M15 (yI X K))))))))))) : sm_w 152 (sm_in sP 152 [.ref 23]) M (yI X K) := by
  show sm_w 152 (0, [some (.ref 23), none, none], []) M (yI X K)
  refine sm_w.run t152 sr152 0 2 (M2 := M) (f2 := (4, [some (.ref 23), none, none], [va_rf (sm_rv M 23 0)])) rfl ⟨trivial, sm_K.g (k_23 hS) (sm_sh.rf _), trivial⟩ ?_
  refine sm_w.fld (r_23_0 hS) ?_
  refine sm_w.run t152 sr152 2 4 (M2 := M) (f2 := (12, [some (.ref 23), some (.int (iV M 24 1)), none], [va_rf (sm_rv M 23 0)])) rfl ⟨sm_K.g (kB_0 hS fB_24) (sm_sh.rf _), (Nat.le_of_ble_eq_true rfl), trivial, sm_K.g (k_23 hS) (sm_sh.rf _), trivial⟩ ?_
  refine sm_w.fld (r_23_0 hS) ?_
  refine sm_w.run t152 sr152 6 2 (M2 := sm_wI M 24 1 (0 : Int32)) (f2 := (16, [some (.ref 23), some (.int (iV M 24 1)), none], [])) rfl ⟨trivial, ⟨(sm_K.p (kB_0 hS fB_24) (sm_sh.rf _)).1, (sm_K.p (kB_0 hS fB_24) (sm_sh.rf _)).2.1, (sm_K.p (kB_0 hS fB_24) (sm_sh.rf _)).2.2, Or.inl rfl⟩, trivial⟩ ?_
  have hS2 : SH (sm_wI M 24 1 (0 : Int32)) := SH.wI hS _ _ _
  have h := h _ hS2 rfl
  generalize sm_wI M 24 1 (0 : Int32) = M1 at h hS2 ⊢
  refine sm_w.run t152 sr152 8 3 (M2 := M1) (f2 := (if (iV M 24 1) < (1 : Int32) then 41 else 21, [some (.ref 23), some (.int (iV M 24 1)), none], [])) rfl ⟨trivial, trivial, trivial, trivial⟩ ?_
  refine sm_w.ite (fun hc => ?_) (fun hc => ?_)
  · have h := h.1 hc
    exact sm_w.end t152 sr152 20 (o := .threw M1.1) (M2 := sm_new M1 48 6) rfl (Nat.le_of_ble_eq_true rfl) (by decide) (Or.inl ⟨_, rfl, h⟩)
  · have h := h.2 hc
    refine sm_w.run t152 sr152 11 3 (M2 := M1) (f2 := (if (60 : Int32) < (iV M 24 1) then 41 else 27, [some (.ref 23), some (.int (iV M 24 1)), none], [])) rfl ⟨trivial, trivial, trivial, trivial⟩ ?_
    refine sm_w.ite (fun hc => ?_) (fun hc => ?_)
    · have h := h.1 hc
      exact sm_w.end t152 sr152 20 (o := .threw M1.1) (M2 := sm_new M1 48 6) rfl (Nat.le_of_ble_eq_true rfl) (by decide) (Or.inl ⟨_, rfl, h⟩)
    · have h := h.2 hc
      refine sm_w.run t152 sr152 14 2 (M2 := M1) (f2 := (31, [some (.ref 23), some (.int (iV M 24 1)), none], [va_rf (sm_rv M1 23 0)])) rfl ⟨trivial, sm_K.g (k_23 hS2) (sm_sh.rf _), trivial⟩ ?_
      refine sm_w.fld (r_23_0 hS2) ?_
      refine sm_w.run t152 sr152 16 1 (M2 := M1) (f2 := (34, [some (.ref 23), some (.int (iV M 24 1)), none], [va_rf (sm_rv M1 24 0)])) rfl ⟨sm_K.g (kB_0 hS2 fB_24) (sm_sh.rf _), trivial⟩ ?_
      refine sm_w.fld (r_24_0 hS2) ?_
      refine sm_w.run t152 sr152 17 1 (M2 := M1) (f2 := (35, [some (.ref 23), some (.int (iV M 24 1)), none], [.int (iV M 24 1), .ref 25])) rfl ⟨trivial, trivial⟩ ?_
      refine sm_w.cI t152 sr152 18 (i := 153) (as := [.ref 25, .int (iV M 24 1)]) (g := (35, [some (.ref 23), some (.int (iV M 24 1)), none], [])) rfl ⟨(Nat.le_of_ble_eq_true rfl), (Nat.le_of_ble_eq_true rfl)⟩ (Nat.le_of_ble_eq_true rfl) (by decide) (sm_cI.s (by decide) hS2 h) (fun v4 M3 h => ?_)
      obtain ⟨hS5, h⟩ := h
      refine sm_w.run t152 sr152 19 1 (M2 := M3) (f2 := (if v4 = 0 then 41 else 52, [some (.ref 23), some (.int (iV M 24 1)), none], [])) rfl ⟨trivial, trivial⟩ ?_
      refine sm_w.ite (fun hc => ?_) (fun hc => ?_)
      · have h := h.1 hc
        exact sm_w.end t152 sr152 20 (o := .threw M3.1) (M2 := sm_new M3 48 6) rfl (Nat.le_of_ble_eq_true rfl) (by decide) (Or.inl ⟨_, rfl, h⟩)
      · have h := h.2 hc
        refine sm_w.run t152 sr152 21 2 (M2 := M3) (f2 := (56, [some (.ref 23), some (.int (iV M 24 1)), none], [va_rf (sm_rv M3 23 3)])) rfl ⟨trivial, sm_K.g (k_23 hS5) (sm_sh.rf _), trivial⟩ ?_
        refine sm_w.fld (r_23_3 hS5) ?_
        refine sm_w.run t152 sr152 23 1 (M2 := M3) (f2 := (57, [some (.ref 23), some (.int (iV M 24 1)), none], [.int ((-1 : Int32)), .ref 29])) rfl ⟨trivial, trivial⟩ ?_
        refine sm_w.cV t152 sr152 24 (i := 9) (as := [.ref 29, .int ((-1 : Int32))]) (g := (57, [some (.ref 23), some (.int (iV M 24 1)), none], [])) rfl ⟨(Nat.le_of_ble_eq_true rfl), (Nat.le_of_ble_eq_true rfl)⟩ (Nat.le_of_ble_eq_true rfl) (by decide) (sm_cV.s (by decide) hS5 h) (fun M6 h => ?_)
        obtain ⟨hS8, h⟩ := h
        refine sm_w.run t152 sr152 25 2 (M2 := M6) (f2 := (64, [some (.ref 23), some (.int (iV M 24 1)), none], [va_rf (sm_rv M6 23 11)])) rfl ⟨trivial, sm_K.g (k_23 hS8) (sm_sh.rf _), trivial⟩ ?_
        obtain ⟨r9, e10, h11, h⟩ := h
        refine sm_w.fld e10 ?_
        refine sm_w.run t152 sr152 27 2 (M2 := M6) (f2 := (68, [some (.ref 23), some (.int (iV M 24 1)), none], [va_rf (sm_rv M6 23 0), .ref r9])) rfl ⟨trivial, sm_K.g (k_23 hS8) (sm_sh.rf _), trivial⟩ ?_
        refine sm_w.fld (r_23_0 hS8) ?_
        refine sm_w.run t152 sr152 29 1 (M2 := M6) (f2 := (71, [some (.ref 23), some (.int (iV M 24 1)), none], [va_rf (sm_rv M6 24 0), .ref r9])) rfl ⟨sm_K.g (kB_0 hS8 fB_24) (sm_sh.rf _), trivial⟩ ?_
        refine sm_w.fld (r_24_0 hS8) ?_
        refine sm_w.run t152 sr152 30 4 (M2 := M6) (f2 := (77, [some (.ref 23), some (.int (iV M 24 1)), none], [va_rf (sm_rv M6 23 3), .int (iV M 24 1), .int ((0 : Int32)), .ref 25, .ref r9])) rfl ⟨trivial, trivial, trivial, sm_K.g (k_23 hS8) (sm_sh.rf _), trivial⟩ ?_
        refine sm_w.fld (r_23_3 hS8) ?_
        refine sm_w.cV t152 sr152 34 (i := 90) (as := [.ref r9, .ref 25, .int ((0 : Int32)), .int (iV M 24 1), .ref 29]) (g := (77, [some (.ref 23), some (.int (iV M 24 1)), none], [])) rfl ⟨by decide, by decide, (Nat.le_of_ble_eq_true rfl), (sm_K.g (kH_0 hS8 h11) (sm_sh.rf _)).1, (sm_K.g (kH_0 hS8 h11) (sm_sh.rf _)).2, (Nat.le_of_ble_eq_true rfl)⟩ (Nat.le_of_ble_eq_true rfl) (by decide) (sm_cV.s (by decide) hS8 h) (fun M12 h => ?_)
        obtain ⟨hS14, h⟩ := h
        refine sm_w.run t152 sr152 35 2 (M2 := M12) (f2 := (84, [some (.ref 23), some (.int (iV M 24 1)), none], [va_rf (sm_rv M12 23 1)])) rfl ⟨trivial, sm_K.g (k_23 hS14) (sm_sh.rf _), trivial⟩ ?_
        refine sm_w.fld (r_23_1 hS14) ?_
        refine sm_w.run t152 sr152 37 2 (M2 := sm_wI M12 26 1 (0 : Int32)) (f2 := (88, [some (.ref 23), some (.int (iV M 24 1)), none], [])) rfl ⟨trivial, ⟨(sm_K.p (kB_0 hS14 fB_26) (sm_sh.rf _)).1, (sm_K.p (kB_0 hS14 fB_26) (sm_sh.rf _)).2.1, (sm_K.p (kB_0 hS14 fB_26) (sm_sh.rf _)).2.2, Or.inl rfl⟩, trivial⟩ ?_
        have hS16 : SH (sm_wI M12 26 1 (0 : Int32)) := SH.wI hS14 _ _ _
        have h := h _ hS16 rfl
        generalize sm_wI M12 26 1 (0 : Int32) = M15 at h hS16 ⊢
        refine sm_w.run t152 sr152 39 2 (M2 := M15) (f2 := (90, [some (.ref 23), some (.int (iV M 24 1)), some (.int ((0 : Int32)))], [])) rfl ⟨trivial, (Nat.le_of_ble_eq_true rfl), trivial⟩ ?_
        exact h
theorem g152_1 {M : sm_M} {x1 : Int32} {x2 : Int32} {K : Int32 → sm_M → Prop} {X : Nat → sm_M → Prop} (hS : SH M)  (h : ((x1 ≤ x2 → K (iV M 26 1) M) ∧ (¬ x1 ≤ x2 → (vp_in x2 61) ∧ (((iV M 29 x2.toNatClampNeg) = (1 : Int32) → sm_cV 20 [.ref 26, .int ((45 : Int32))] M (fun M2 => SH M2 → (vp_in x2 8192) ∧ sm_cV 20 [.ref 26, .int (iV M2 25 x2.toNatClampNeg)] M2 (fun M6 => SH M6 → sm_w 152 (90, [some (.ref 23), some (.int (x1)), some (.int (x2 + (1 : Int32)))], []) M6 (yI X K)))) ∧ (¬ (iV M 29 x2.toNatClampNeg) = (1 : Int32) → (vp_in x2 8192) ∧ sm_cV 20 [.ref 26, .int (iV M 25 x2.toNatClampNeg)] M (fun M10 => SH M10 → sm_w 152 (90, [some (.ref 23), some (.int (x1)), some (.int (x2 + (1 : Int32)))], []) M10 (yI X K))))))) : sm_w 152 (90, [some (.ref 23), some (.int (x1)), some (.int (x2))], []) M (yI X K) := by
  refine sm_w.run t152 sr152 41 3 (M2 := M) (f2 := (if x1 ≤ x2 then 136 else 95, [some (.ref 23), some (.int (x1)), some (.int (x2))], [])) rfl ⟨trivial, trivial, trivial, trivial⟩ ?_
  refine sm_w.ite (fun hc => ?_) (fun hc => ?_)
  · have h := h.1 hc
    refine sm_w.run t152 sr152 64 2 (M2 := M) (f2 := (140, [some (.ref 23), some (.int (x1)), some (.int (x2))], [va_rf (sm_rv M 23 1)])) rfl ⟨trivial, sm_K.g (k_23 hS) (sm_sh.rf _), trivial⟩ ?_
    refine sm_w.fld (r_23_1 hS) ?_
    refine sm_w.run t152 sr152 66 1 (M2 := M) (f2 := (143, [some (.ref 23), some (.int (x1)), some (.int (x2))], [.int (iV M 26 1)])) rfl ⟨sm_K.g (kB_0 hS fB_26) (sm_sh.rf _), trivial⟩ ?_
    exact sm_w.end t152 sr152 67 (o := .returned (some (.int (iV M 26 1)))) (M2 := M) rfl rfl (by decide) (Or.inr ⟨_, rfl, h⟩)
  · have h := h.2 hc
    refine sm_w.run t152 sr152 44 2 (M2 := M) (f2 := (99, [some (.ref 23), some (.int (x1)), some (.int (x2))], [va_rf (sm_rv M 23 3)])) rfl ⟨trivial, sm_K.g (k_23 hS) (sm_sh.rf _), trivial⟩ ?_
    refine sm_w.fld (r_23_3 hS) ?_
    obtain ⟨c1, h⟩ := h
    refine sm_w.run t152 sr152 46 4 (M2 := M) (f2 := (if (iV M 29 x2.toNatClampNeg) = (1 : Int32) then 105 else 114, [some (.ref 23), some (.int (x1)), some (.int (x2))], [])) rfl ⟨trivial, sm_K.a2 (k_29 hS) (l_29 hS) c1, trivial, trivial, trivial⟩ ?_
    refine sm_w.ite (fun hc => ?_) (fun hc => ?_)
    · have h := h.1 hc
      refine sm_w.run t152 sr152 50 2 (M2 := M) (f2 := (109, [some (.ref 23), some (.int (x1)), some (.int (x2))], [va_rf (sm_rv M 23 1)])) rfl ⟨trivial, sm_K.g (k_23 hS) (sm_sh.rf _), trivial⟩ ?_
      refine sm_w.fld (r_23_1 hS) ?_
      refine sm_w.run t152 sr152 52 1 (M2 := M) (f2 := (111, [some (.ref 23), some (.int (x1)), some (.int (x2))], [.int ((45 : Int32)), .ref 26])) rfl ⟨trivial, trivial⟩ ?_
      refine sm_w.cV t152 sr152 53 (i := 20) (as := [.ref 26, .int ((45 : Int32))]) (g := (111, [some (.ref 23), some (.int (x1)), some (.int (x2))], [])) rfl ⟨by decide, by decide, (Nat.le_of_ble_eq_true rfl), (sm_K.g (kB_0 hS fB_26) (sm_sh.rf _)).1, (sm_K.g (kB_0 hS fB_26) (sm_sh.rf _)).2, (Nat.le_of_ble_eq_true rfl)⟩ (Nat.le_of_ble_eq_true rfl) (by decide) (sm_cV.s (by decide) hS h) (fun M2 h => ?_)
      obtain ⟨hS4, h⟩ := h
      refine sm_w.run t152 sr152 54 2 (M2 := M2) (f2 := (118, [some (.ref 23), some (.int (x1)), some (.int (x2))], [va_rf (sm_rv M2 23 1)])) rfl ⟨trivial, sm_K.g (k_23 hS4) (sm_sh.rf _), trivial⟩ ?_
      refine sm_w.fld (r_23_1 hS4) ?_
      refine sm_w.run t152 sr152 56 2 (M2 := M2) (f2 := (122, [some (.ref 23), some (.int (x1)), some (.int (x2))], [va_rf (sm_rv M2 23 0), .ref 26])) rfl ⟨trivial, sm_K.g (k_23 hS4) (sm_sh.rf _), trivial⟩ ?_
      refine sm_w.fld (r_23_0 hS4) ?_
      refine sm_w.run t152 sr152 58 1 (M2 := M2) (f2 := (125, [some (.ref 23), some (.int (x1)), some (.int (x2))], [va_rf (sm_rv M2 24 0), .ref 26])) rfl ⟨sm_K.g (kB_0 hS4 fB_24) (sm_sh.rf _), trivial⟩ ?_
      refine sm_w.fld (r_24_0 hS4) ?_
      obtain ⟨c5, h⟩ := h
      refine sm_w.run t152 sr152 59 2 (M2 := M2) (f2 := (127, [some (.ref 23), some (.int (x1)), some (.int (x2))], [.int (iV M2 25 x2.toNatClampNeg), .ref 26])) rfl ⟨trivial, sm_K.a2 (k_25 hS4) (l_25 hS4) c5, trivial⟩ ?_
      refine sm_w.cV t152 sr152 61 (i := 20) (as := [.ref 26, .int (iV M2 25 x2.toNatClampNeg)]) (g := (127, [some (.ref 23), some (.int (x1)), some (.int (x2))], [])) rfl ⟨by decide, by decide, (Nat.le_of_ble_eq_true rfl), (sm_K.g (kB_0 hS4 fB_26) (sm_sh.rf _)).1, (sm_K.g (kB_0 hS4 fB_26) (sm_sh.rf _)).2, (Nat.le_of_ble_eq_true rfl)⟩ (Nat.le_of_ble_eq_true rfl) (by decide) (sm_cV.s (by decide) hS4 h) (fun M6 h => ?_)
      obtain ⟨hS8, h⟩ := h
      refine sm_w.run t152 sr152 62 2 (M2 := M6) (f2 := (90, [some (.ref 23), some (.int (x1)), some (.int (x2 + (1 : Int32)))], [])) rfl ⟨(Nat.le_of_ble_eq_true rfl), trivial, trivial⟩ ?_
      exact h
    · have h := h.2 hc
      refine sm_w.run t152 sr152 54 2 (M2 := M) (f2 := (118, [some (.ref 23), some (.int (x1)), some (.int (x2))], [va_rf (sm_rv M 23 1)])) rfl ⟨trivial, sm_K.g (k_23 hS) (sm_sh.rf _), trivial⟩ ?_
      refine sm_w.fld (r_23_1 hS) ?_
      refine sm_w.run t152 sr152 56 2 (M2 := M) (f2 := (122, [some (.ref 23), some (.int (x1)), some (.int (x2))], [va_rf (sm_rv M 23 0), .ref 26])) rfl ⟨trivial, sm_K.g (k_23 hS) (sm_sh.rf _), trivial⟩ ?_
      refine sm_w.fld (r_23_0 hS) ?_
      refine sm_w.run t152 sr152 58 1 (M2 := M) (f2 := (125, [some (.ref 23), some (.int (x1)), some (.int (x2))], [va_rf (sm_rv M 24 0), .ref 26])) rfl ⟨sm_K.g (kB_0 hS fB_24) (sm_sh.rf _), trivial⟩ ?_
      refine sm_w.fld (r_24_0 hS) ?_
      obtain ⟨c9, h⟩ := h
      refine sm_w.run t152 sr152 59 2 (M2 := M) (f2 := (127, [some (.ref 23), some (.int (x1)), some (.int (x2))], [.int (iV M 25 x2.toNatClampNeg), .ref 26])) rfl ⟨trivial, sm_K.a2 (k_25 hS) (l_25 hS) c9, trivial⟩ ?_
      refine sm_w.cV t152 sr152 61 (i := 20) (as := [.ref 26, .int (iV M 25 x2.toNatClampNeg)]) (g := (127, [some (.ref 23), some (.int (x1)), some (.int (x2))], [])) rfl ⟨by decide, by decide, (Nat.le_of_ble_eq_true rfl), (sm_K.g (kB_0 hS fB_26) (sm_sh.rf _)).1, (sm_K.g (kB_0 hS fB_26) (sm_sh.rf _)).2, (Nat.le_of_ble_eq_true rfl)⟩ (Nat.le_of_ble_eq_true rfl) (by decide) (sm_cV.s (by decide) hS h) (fun M10 h => ?_)
      obtain ⟨hS12, h⟩ := h
      refine sm_w.run t152 sr152 62 2 (M2 := M10) (f2 := (90, [some (.ref 23), some (.int (x1)), some (.int (x2 + (1 : Int32)))], [])) rfl ⟨(Nat.le_of_ble_eq_true rfl), trivial, trivial⟩ ?_
      exact h
-- 151 LineSetterLaw.parts(LLineSetter;[J)I
theorem t151 : sP 151 = (3, sp_151, sh_151) := rfl
theorem sr151 : sm_srt sp_151 = true := by decide +kernel
theorem g151_0 {M : sm_M}  {K : Int32 → sm_M → Prop} (hS : SH M)  (h : sm_xI 152 [.ref 23] M (fun r0 M0 => (sm_kd M0 r0 = 48 ∧ SH M0 ∧ K (1 : Int32) M0)) (fun v2 M1 => SH M1 → (vp_in (0 : Int32) 1) ∧ ∀ M5, SH M5 → M5 = sm_wJ M1 164 (0 : Int32).toNatClampNeg v2.toInt64 → K (0 : Int32) M5)) : sm_w 151 (sm_in sP 151 [.ref 23, .ref 164]) M (rI K) := by
  show sm_w 151 (0, [some (.ref 23), some (.ref 164), none], []) M (rI K)
  refine sm_w.run t151 sr151 0 3 (M2 := M) (f2 := (3, [some (.ref 23), some (.ref 164), none], [.ref 23, .int ((0 : Int32)), .ref 164])) rfl ⟨trivial, trivial, trivial, trivial⟩ ?_
  refine sm_w.yI t151 sr151 3 (i := 152) (as := [.ref 23]) (g := (3, [some (.ref 23), some (.ref 164), none], [.int ((0 : Int32)), .ref 164])) rfl ⟨by decide, by decide, (Nat.le_of_ble_eq_true rfl), (sm_K.g (k_23 hS) (sm_sh.rf _)).1, (sm_K.g (k_23 hS) (sm_sh.rf _)).2, (Nat.le_of_ble_eq_true rfl)⟩ (Nat.le_of_ble_eq_true rfl) (by decide) (sm_xI.s (by decide) hS h) (fun r0 M0 h => ?_) (fun v2 M1 h => ?_)
  · rcases h with ⟨hk, hS0, h⟩
    · refine ⟨11, by rw [hk]; rfl, ?_⟩
      refine sm_w.run t151 sr151 7 2 (M2 := M0) (f2 := (13, [some (.ref 23), some (.ref 164), some (.ref r0)], [.int ((1 : Int32))])) rfl ⟨(Nat.le_of_ble_eq_true rfl), trivial, trivial⟩ ?_
      exact sm_w.end t151 sr151 9 (o := .returned (some (.int ((1 : Int32))))) (M2 := M0) rfl rfl (by decide) (⟨_, rfl, h⟩)
  · obtain ⟨hS3, h⟩ := h
    obtain ⟨c4, h⟩ := h
    refine sm_w.run t151 sr151 4 2 (M2 := sm_wJ M1 164 (0 : Int32).toNatClampNeg v2.toInt64) (f2 := (8, [some (.ref 23), some (.ref 164), none], [])) rfl ⟨trivial, sm_K.s2 (k_164 hS3) (l_164 hS3) c4, trivial⟩ ?_
    have hS6 : SH (sm_wJ M1 164 (0 : Int32).toNatClampNeg v2.toInt64) := SH.wJ hS3 _ _ _
    have h := h _ hS6 rfl
    generalize sm_wJ M1 164 (0 : Int32).toNatClampNeg v2.toInt64 = M5 at h hS6 ⊢
    refine sm_w.run t151 sr151 6 1 (M2 := M5) (f2 := (14, [some (.ref 23), some (.ref 164), none], [])) rfl ⟨trivial, trivial⟩ ?_
    refine sm_w.run t151 sr151 10 1 (M2 := M5) (f2 := (15, [some (.ref 23), some (.ref 164), none], [.int ((0 : Int32))])) rfl ⟨trivial, trivial⟩ ?_
    exact sm_w.end t151 sr151 11 (o := .returned (some (.int ((0 : Int32))))) (M2 := M5) rfl rfl (by decide) (⟨_, rfl, h⟩)
-- 155 LineSetter.width(I)J
theorem t155 : sP 155 = (4, sp_155, sh_155) := rfl
theorem sr155 : sm_srt sp_155 = true := by decide +kernel
theorem g155_0 {M : sm_M} {x1 : Int32} {K : Int64 → sm_M → Prop} {X : Nat → sm_M → Prop} (hS : SH M)  (h : ∀ M1, SH M1 → M1 = sm_wI M 24 1 (0 : Int32) → ((x1 < (1000 : Int32) → X M1.1 (sm_new M1 48 6)) ∧ (¬ x1 < (1000 : Int32) → ((x1 ≤ (100000 : Int32) → sm_w 155 (23, [some (.ref 23), some (.int (x1)), some (.int (iV M 24 1)), some (.int ((0 : Int32)))], []) M1 (yJ X K)) ∧ (¬ x1 ≤ (100000 : Int32) → X M1.1 (sm_new M1 48 6)))))) : sm_w 155 (sm_in sP 155 [.ref 23, .int (x1)]) M (yJ X K) := by
  show sm_w 155 (0, [some (.ref 23), some (.int (x1)), none, none], []) M (yJ X K)
  refine sm_w.run t155 sr155 0 2 (M2 := M) (f2 := (4, [some (.ref 23), some (.int (x1)), none, none], [va_rf (sm_rv M 23 0)])) rfl ⟨trivial, sm_K.g (k_23 hS) (sm_sh.rf _), trivial⟩ ?_
  refine sm_w.fld (r_23_0 hS) ?_
  refine sm_w.run t155 sr155 2 4 (M2 := M) (f2 := (12, [some (.ref 23), some (.int (x1)), some (.int (iV M 24 1)), none], [va_rf (sm_rv M 23 0)])) rfl ⟨sm_K.g (kB_0 hS fB_24) (sm_sh.rf _), (Nat.le_of_ble_eq_true rfl), trivial, sm_K.g (k_23 hS) (sm_sh.rf _), trivial⟩ ?_
  refine sm_w.fld (r_23_0 hS) ?_
  refine sm_w.run t155 sr155 6 2 (M2 := sm_wI M 24 1 (0 : Int32)) (f2 := (16, [some (.ref 23), some (.int (x1)), some (.int (iV M 24 1)), none], [])) rfl ⟨trivial, ⟨(sm_K.p (kB_0 hS fB_24) (sm_sh.rf _)).1, (sm_K.p (kB_0 hS fB_24) (sm_sh.rf _)).2.1, (sm_K.p (kB_0 hS fB_24) (sm_sh.rf _)).2.2, Or.inl rfl⟩, trivial⟩ ?_
  have hS2 : SH (sm_wI M 24 1 (0 : Int32)) := SH.wI hS _ _ _
  have h := h _ hS2 rfl
  generalize sm_wI M 24 1 (0 : Int32) = M1 at h hS2 ⊢
  refine sm_w.run t155 sr155 8 2 (M2 := M1) (f2 := (18, [some (.ref 23), some (.int (x1)), some (.int (iV M 24 1)), none], [.int (x1), .ref 23])) rfl ⟨trivial, trivial, trivial⟩ ?_
  refine sm_w.zV t155 sr155 10 (i := 78) (as := [.ref 23, .int (x1)]) (g := (18, [some (.ref 23), some (.int (x1)), some (.int (iV M 24 1)), none], [])) rfl ⟨by decide, by decide, (Nat.le_of_ble_eq_true rfl), (sm_K.g (k_23 hS2) (sm_sh.rf _)).1, (sm_K.g (k_23 hS2) (sm_sh.rf _)).2, (Nat.le_of_ble_eq_true rfl)⟩ (Nat.le_of_ble_eq_true rfl) (by decide) rfl (fun r M2 h => Or.inl ⟨r, rfl, h⟩) (sm_xV.s2 (by decide) hS2 (g78_0 (K := fun M3 => sm_w 155 (23, [some (.ref 23), some (.int (x1)), some (.int (iV M 24 1)), some (.int ((0 : Int32)))], []) M3 (yJ X K)) hS2 h)) (fun M3 h => ?_)
  obtain ⟨hS5, h⟩ := h
  refine sm_w.run t155 sr155 11 2 (M2 := M3) (f2 := (23, [some (.ref 23), some (.int (x1)), some (.int (iV M 24 1)), some (.int ((0 : Int32)))], [])) rfl ⟨trivial, (Nat.le_of_ble_eq_true rfl), trivial⟩ ?_
  exact h
theorem g155_1 {M : sm_M} {x1 : Int32} {x2 : Int32} {x3 : Int32} {K : Int64 → sm_M → Prop} {X : Nat → sm_M → Prop} (hS : SH M)  (h : ((x2 ≤ x3 → sm_cV 92 [.ref 28, .int ((0 : Int32)), .int (x2), .int (x1)] M (fun M1 => SH M1 → ∃ r4, sm_rv M1 23 9 = some r4 ∧ fF r4 ∧ sm_cJ 100 [.ref r4, .ref 25, .ref 28, .int ((0 : Int32)), .int (x2)] M1 (fun v8 M7 => SH M7 → K v8 M7))) ∧ (¬ x2 ≤ x3 → (vp_in x3 8192) ∧ (((iV M 25 x3.toNatClampNeg) < (32 : Int32) → X M.1 (sm_new M 48 6)) ∧ (¬ (iV M 25 x3.toNatClampNeg) < (32 : Int32) → (((iV M 25 x3.toNatClampNeg) ≤ (126 : Int32) → sm_w 155 (23, [some (.ref 23), some (.int (x1)), some (.int (x2)), some (.int (x3 + (1 : Int32)))], []) M (yJ X K)) ∧ (¬ (iV M 25 x3.toNatClampNeg) ≤ (126 : Int32) → X M.1 (sm_new M 48 6)))))))) : sm_w 155 (23, [some (.ref 23), some (.int (x1)), some (.int (x2)), some (.int (x3))], []) M (yJ X K) := by
  refine sm_w.run t155 sr155 13 3 (M2 := M) (f2 := (if x2 ≤ x3 then 51 else 28, [some (.ref 23), some (.int (x1)), some (.int (x2)), some (.int (x3))], [])) rfl ⟨trivial, trivial, trivial, trivial⟩ ?_
  refine sm_w.ite (fun hc => ?_) (fun hc => ?_)
  · have h := h.1 hc
    refine sm_w.run t155 sr155 27 2 (M2 := M) (f2 := (55, [some (.ref 23), some (.int (x1)), some (.int (x2)), some (.int (x3))], [va_rf (sm_rv M 23 2)])) rfl ⟨trivial, sm_K.g (k_23 hS) (sm_sh.rf _), trivial⟩ ?_
    refine sm_w.fld (r_23_2 hS) ?_
    refine sm_w.run t155 sr155 29 3 (M2 := M) (f2 := (58, [some (.ref 23), some (.int (x1)), some (.int (x2)), some (.int (x3))], [.int (x1), .int (x2), .int ((0 : Int32)), .ref 28])) rfl ⟨trivial, trivial, trivial, trivial⟩ ?_
    refine sm_w.cV t155 sr155 32 (i := 92) (as := [.ref 28, .int ((0 : Int32)), .int (x2), .int (x1)]) (g := (58, [some (.ref 23), some (.int (x1)), some (.int (x2)), some (.int (x3))], [])) rfl ⟨(Nat.le_of_ble_eq_true rfl), (Nat.le_of_ble_eq_true rfl)⟩ (Nat.le_of_ble_eq_true rfl) (by decide) (sm_cV.s (by decide) hS h) (fun M1 h => ?_)
    obtain ⟨hS3, h⟩ := h
    refine sm_w.run t155 sr155 33 2 (M2 := M1) (f2 := (65, [some (.ref 23), some (.int (x1)), some (.int (x2)), some (.int (x3))], [va_rf (sm_rv M1 23 9)])) rfl ⟨trivial, sm_K.g (k_23 hS3) (sm_sh.rf _), trivial⟩ ?_
    obtain ⟨r4, e5, h6, h⟩ := h
    refine sm_w.fld e5 ?_
    refine sm_w.run t155 sr155 35 2 (M2 := M1) (f2 := (69, [some (.ref 23), some (.int (x1)), some (.int (x2)), some (.int (x3))], [va_rf (sm_rv M1 23 0), .ref r4])) rfl ⟨trivial, sm_K.g (k_23 hS3) (sm_sh.rf _), trivial⟩ ?_
    refine sm_w.fld (r_23_0 hS3) ?_
    refine sm_w.run t155 sr155 37 1 (M2 := M1) (f2 := (72, [some (.ref 23), some (.int (x1)), some (.int (x2)), some (.int (x3))], [va_rf (sm_rv M1 24 0), .ref r4])) rfl ⟨sm_K.g (kB_0 hS3 fB_24) (sm_sh.rf _), trivial⟩ ?_
    refine sm_w.fld (r_24_0 hS3) ?_
    refine sm_w.run t155 sr155 38 2 (M2 := M1) (f2 := (76, [some (.ref 23), some (.int (x1)), some (.int (x2)), some (.int (x3))], [va_rf (sm_rv M1 23 2), .ref 25, .ref r4])) rfl ⟨trivial, sm_K.g (k_23 hS3) (sm_sh.rf _), trivial⟩ ?_
    refine sm_w.fld (r_23_2 hS3) ?_
    refine sm_w.run t155 sr155 40 2 (M2 := M1) (f2 := (78, [some (.ref 23), some (.int (x1)), some (.int (x2)), some (.int (x3))], [.int (x2), .int ((0 : Int32)), .ref 28, .ref 25, .ref r4])) rfl ⟨trivial, trivial, trivial⟩ ?_
    refine sm_w.cJ t155 sr155 42 (i := 100) (as := [.ref r4, .ref 25, .ref 28, .int ((0 : Int32)), .int (x2)]) (g := (78, [some (.ref 23), some (.int (x1)), some (.int (x2)), some (.int (x3))], [])) rfl ⟨by decide, by decide, (Nat.le_of_ble_eq_true rfl), (sm_K.g (kF_0 hS3 h6) (sm_sh.rf _)).1, (sm_K.g (kF_0 hS3 h6) (sm_sh.rf _)).2, (Nat.le_of_ble_eq_true rfl)⟩ (Nat.le_of_ble_eq_true rfl) (by decide) (sm_cJ.s (by decide) hS3 h) (fun v8 M7 h => ?_)
    obtain ⟨hS9, h⟩ := h
    exact sm_w.end t155 sr155 43 (o := .returned (some (.long (v8)))) (M2 := M7) rfl trivial (by decide) (Or.inr ⟨_, rfl, h⟩)
  · have h := h.2 hc
    refine sm_w.run t155 sr155 16 3 (M2 := M) (f2 := (33, [some (.ref 23), some (.int (x1)), some (.int (x2)), some (.int (x3))], [va_rf (sm_rv M 23 0), .ref 23])) rfl ⟨trivial, trivial, sm_K.g (k_23 hS) (sm_sh.rf _), trivial⟩ ?_
    refine sm_w.fld (r_23_0 hS) ?_
    refine sm_w.run t155 sr155 19 1 (M2 := M) (f2 := (36, [some (.ref 23), some (.int (x1)), some (.int (x2)), some (.int (x3))], [va_rf (sm_rv M 24 0), .ref 23])) rfl ⟨sm_K.g (kB_0 hS fB_24) (sm_sh.rf _), trivial⟩ ?_
    refine sm_w.fld (r_24_0 hS) ?_
    obtain ⟨c10, h⟩ := h
    refine sm_w.run t155 sr155 20 4 (M2 := M) (f2 := (42, [some (.ref 23), some (.int (x1)), some (.int (x2)), some (.int (x3))], [.int ((126 : Int32)), .int ((32 : Int32)), .int (iV M 25 x3.toNatClampNeg), .ref 23])) rfl ⟨trivial, sm_K.a2 (k_25 hS) (l_25 hS) c10, trivial, trivial, trivial⟩ ?_
    refine sm_w.zV t155 sr155 24 (i := 79) (as := [.ref 23, .int (iV M 25 x3.toNatClampNeg), .int ((32 : Int32)), .int ((126 : Int32))]) (g := (42, [some (.ref 23), some (.int (x1)), some (.int (x2)), some (.int (x3))], [])) rfl ⟨by decide, by decide, (Nat.le_of_ble_eq_true rfl), (sm_K.g (k_23 hS) (sm_sh.rf _)).1, (sm_K.g (k_23 hS) (sm_sh.rf _)).2, (Nat.le_of_ble_eq_true rfl)⟩ (Nat.le_of_ble_eq_true rfl) (by decide) rfl (fun r M2 h => Or.inl ⟨r, rfl, h⟩) (sm_xV.s2 (by decide) hS (g79_0 (K := fun M11 => sm_w 155 (23, [some (.ref 23), some (.int (x1)), some (.int (x2)), some (.int (x3 + (1 : Int32)))], []) M11 (yJ X K)) hS h)) (fun M11 h => ?_)
    obtain ⟨hS13, h⟩ := h
    refine sm_w.run t155 sr155 25 2 (M2 := M11) (f2 := (23, [some (.ref 23), some (.int (x1)), some (.int (x2)), some (.int (x3 + (1 : Int32)))], [])) rfl ⟨(Nat.le_of_ble_eq_true rfl), trivial, trivial⟩ ?_
    exact h
-- 154 LineSetterLaw.width(LLineSetter;I[J)I
theorem t154 : sP 154 = (4, sp_154, sh_154) := rfl
theorem sr154 : sm_srt sp_154 = true := by decide +kernel
theorem g154_0 {M : sm_M} {x1 : Int32} {K : Int32 → sm_M → Prop} (hS : SH M)  (h : sm_xJ 155 [.ref 23, .int (x1)] M (fun r0 M0 => (sm_kd M0 r0 = 48 ∧ SH M0 ∧ K (1 : Int32) M0)) (fun v2 M1 => SH M1 → (vp_in (0 : Int32) 1) ∧ ∀ M5, SH M5 → M5 = sm_wJ M1 164 (0 : Int32).toNatClampNeg v2 → K (0 : Int32) M5)) : sm_w 154 (sm_in sP 154 [.ref 23, .int (x1), .ref 164]) M (rI K) := by
  show sm_w 154 (0, [some (.ref 23), some (.int (x1)), some (.ref 164), none], []) M (rI K)
  refine sm_w.run t154 sr154 0 4 (M2 := M) (f2 := (4, [some (.ref 23), some (.int (x1)), some (.ref 164), none], [.int (x1), .ref 23, .int ((0 : Int32)), .ref 164])) rfl ⟨trivial, trivial, trivial, trivial, trivial⟩ ?_
  refine sm_w.yJ t154 sr154 4 (i := 155) (as := [.ref 23, .int (x1)]) (g := (4, [some (.ref 23), some (.int (x1)), some (.ref 164), none], [.int ((0 : Int32)), .ref 164])) rfl ⟨by decide, by decide, (Nat.le_of_ble_eq_true rfl), (sm_K.g (k_23 hS) (sm_sh.rf _)).1, (sm_K.g (k_23 hS) (sm_sh.rf _)).2, (Nat.le_of_ble_eq_true rfl)⟩ (Nat.le_of_ble_eq_true rfl) (by decide) (sm_xJ.s (by decide) hS h) (fun r0 M0 h => ?_) (fun v2 M1 h => ?_)
  · rcases h with ⟨hk, hS0, h⟩
    · refine ⟨11, by rw [hk]; rfl, ?_⟩
      refine sm_w.run t154 sr154 7 2 (M2 := M0) (f2 := (13, [some (.ref 23), some (.int (x1)), some (.ref 164), some (.ref r0)], [.int ((1 : Int32))])) rfl ⟨(Nat.le_of_ble_eq_true rfl), trivial, trivial⟩ ?_
      exact sm_w.end t154 sr154 9 (o := .returned (some (.int ((1 : Int32))))) (M2 := M0) rfl rfl (by decide) (⟨_, rfl, h⟩)
  · obtain ⟨hS3, h⟩ := h
    obtain ⟨c4, h⟩ := h
    refine sm_w.run t154 sr154 5 1 (M2 := sm_wJ M1 164 (0 : Int32).toNatClampNeg v2) (f2 := (8, [some (.ref 23), some (.int (x1)), some (.ref 164), none], [])) rfl ⟨sm_K.s2 (k_164 hS3) (l_164 hS3) c4, trivial⟩ ?_
    have hS6 : SH (sm_wJ M1 164 (0 : Int32).toNatClampNeg v2) := SH.wJ hS3 _ _ _
    have h := h _ hS6 rfl
    generalize sm_wJ M1 164 (0 : Int32).toNatClampNeg v2 = M5 at h hS6 ⊢
    refine sm_w.run t154 sr154 6 1 (M2 := M5) (f2 := (14, [some (.ref 23), some (.int (x1)), some (.ref 164), none], [])) rfl ⟨trivial, trivial⟩ ?_
    refine sm_w.run t154 sr154 10 1 (M2 := M5) (f2 := (15, [some (.ref 23), some (.int (x1)), some (.ref 164), none], [.int ((0 : Int32))])) rfl ⟨trivial, trivial⟩ ?_
    exact sm_w.end t154 sr154 11 (o := .returned (some (.int ((0 : Int32))))) (M2 := M5) rfl rfl (by decide) (⟨_, rfl, h⟩)
-- 157 LineSetter.word(I)J
theorem t157 : sP 157 = (5, sp_157, sh_157) := rfl
theorem sr157 : sm_srt sp_157 = true := by decide +kernel
theorem g157_0 {M : sm_M} {x1 : Int32} {K : Int64 → sm_M → Prop} {X : Nat → sm_M → Prop} (hS : SH M)  (h : ((x1 < 0 → X M.1 (sm_new M 51 6)) ∧ (¬ x1 < 0 → ((x1 < (iV M 26 1) → sm_w 157 (31, [some (.ref 23), some (.int (x1)), some (.long ((0 : Int64))), none, some (.int ((0 : Int32)))], []) M (yJ X K)) ∧ (¬ x1 < (iV M 26 1) → X M.1 (sm_new M 51 6)))))) : sm_w 157 (sm_in sP 157 [.ref 23, .int (x1)]) M (yJ X K) := by
  show sm_w 157 (0, [some (.ref 23), some (.int (x1)), none, none, none], []) M (yJ X K)
  refine sm_w.run t157 sr157 0 2 (M2 := M) (f2 := (if x1 < 0 then 15 else 4, [some (.ref 23), some (.int (x1)), none, none, none], [])) rfl ⟨trivial, trivial, trivial⟩ ?_
  refine sm_w.ite (fun hc => ?_) (fun hc => ?_)
  · have h := h.1 hc
    exact sm_w.end t157 sr157 7 (o := .threw M.1) (M2 := sm_new M 51 6) rfl (Nat.le_of_ble_eq_true rfl) (by decide) (Or.inl ⟨_, rfl, h⟩)
  · have h := h.2 hc
    refine sm_w.run t157 sr157 2 3 (M2 := M) (f2 := (9, [some (.ref 23), some (.int (x1)), none, none, none], [va_rf (sm_rv M 23 1), .int (x1)])) rfl ⟨trivial, trivial, sm_K.g (k_23 hS) (sm_sh.rf _), trivial⟩ ?_
    refine sm_w.fld (r_23_1 hS) ?_
    refine sm_w.run t157 sr157 5 2 (M2 := M) (f2 := (if x1 < (iV M 26 1) then 26 else 15, [some (.ref 23), some (.int (x1)), none, none, none], [])) rfl ⟨sm_K.g (kB_0 hS fB_26) (sm_sh.rf _), trivial, trivial⟩ ?_
    refine sm_w.ite (fun hc => ?_) (fun hc => ?_)
    · have h := h.1 hc
      refine sm_w.run t157 sr157 8 4 (M2 := M) (f2 := (31, [some (.ref 23), some (.int (x1)), some (.long ((0 : Int64))), none, some (.int ((0 : Int32)))], [])) rfl ⟨trivial, (Nat.le_of_ble_eq_true rfl), trivial, (Nat.le_of_ble_eq_true rfl), trivial⟩ ?_
      exact h
    · have h := h.2 hc
      exact sm_w.end t157 sr157 7 (o := .threw M.1) (M2 := sm_new M 51 6) rfl (Nat.le_of_ble_eq_true rfl) (by decide) (Or.inl ⟨_, rfl, h⟩)
theorem g157_1 {M : sm_M} {x1 : Int32} {x2 : Int64} {x4 : Int32} {K : Int64 → sm_M → Prop} {X : Nat → sm_M → Prop} (hS : SH M)  (h : (((8 : Int32) ≤ x4 → K x2 M) ∧ (¬ (8 : Int32) ≤ x4 → (q30_0 M 26 (x1 + x4)) ∧ sm_w 157 (31, [some (.ref 23), some (.int (x1)), some (.long ((x2 <<< ((8 : Int32).toInt64 &&& 63)) ||| ((if (p30_0 M 26 (x1 + x4)) < (0 : Int32) then (0 : Int32) else (p30_0 M 26 (x1 + x4))).toInt64))), none, some (.int (x4 + (1 : Int32)))], []) M (yJ X K)))) : sm_w 157 (31, [some (.ref 23), some (.int (x1)), some (.long (x2)), none, some (.int (x4))], []) M (yJ X K) := by
  refine sm_w.run t157 sr157 12 3 (M2 := M) (f2 := (if (8 : Int32) ≤ x4 then 66 else 38, [some (.ref 23), some (.int (x1)), some (.long (x2)), none, some (.int (x4))], [])) rfl ⟨trivial, trivial, trivial, trivial⟩ ?_
  refine sm_w.ite (fun hc => ?_) (fun hc => ?_)
  · have h := h.1 hc
    refine sm_w.run t157 sr157 31 1 (M2 := M) (f2 := (67, [some (.ref 23), some (.int (x1)), some (.long (x2)), none, some (.int (x4))], [.long (x2)])) rfl ⟨trivial, trivial⟩ ?_
    exact sm_w.end t157 sr157 32 (o := .returned (some (.long (x2)))) (M2 := M) rfl trivial (by decide) (Or.inr ⟨_, rfl, h⟩)
  · have h := h.2 hc
    refine sm_w.run t157 sr157 15 5 (M2 := M) (f2 := (46, [some (.ref 23), some (.int (x1)), some (.long (x2)), none, some (.int (x4))], [va_rf (sm_rv M 23 1), .long (x2 <<< ((8 : Int32).toInt64 &&& 63))])) rfl ⟨trivial, trivial, trivial, trivial, sm_K.g (k_23 hS) (sm_sh.rf _), trivial⟩ ?_
    refine sm_w.fld (r_23_1 hS) ?_
    obtain ⟨c1, h⟩ := h
    refine sm_w.run t157 sr157 20 3 (M2 := M) (f2 := (50, [some (.ref 23), some (.int (x1)), some (.long (x2)), none, some (.int (x4))], [.int (x1 + x4), .ref 26, .long (x2 <<< ((8 : Int32).toInt64 &&& 63))])) rfl ⟨trivial, trivial, trivial, trivial⟩ ?_
    refine sm_w.cI t157 sr157 23 (i := 30) (as := [.ref 26, .int (x1 + x4)]) (g := (50, [some (.ref 23), some (.int (x1)), some (.long (x2)), none, some (.int (x4))], [.long (x2 <<< ((8 : Int32).toInt64 &&& 63))])) rfl ⟨by decide, by decide, (Nat.le_of_ble_eq_true rfl), (sm_K.g (kB_0 hS fB_26) (sm_sh.rf _)).1, (sm_K.g (kB_0 hS fB_26) (sm_sh.rf _)).2, (Nat.le_of_ble_eq_true rfl)⟩ (Nat.le_of_ble_eq_true rfl) (by decide) (p30_c hS fB_26 c1) (fun vz M2 hz => ?_)
    obtain ⟨hz1, hz2⟩ := hz
    subst hz1
    have hz2 := hz2.symm
    subst hz2
    refine sm_w.run t157 sr157 24 7 (M2 := M) (f2 := (31, [some (.ref 23), some (.int (x1)), some (.long ((x2 <<< ((8 : Int32).toInt64 &&& 63)) ||| ((if (p30_0 M 26 (x1 + x4)) < (0 : Int32) then (0 : Int32) else (p30_0 M 26 (x1 + x4))).toInt64))), none, some (.int (x4 + (1 : Int32)))], [])) rfl ⟨trivial, (Nat.le_of_ble_eq_true rfl), trivial, trivial, (Nat.le_of_ble_eq_true rfl), (Nat.le_of_ble_eq_true rfl), trivial, trivial⟩ ?_
    exact h
-- 156 LineSetterLaw.word(LLineSetter;I[J)I
theorem t156 : sP 156 = (4, sp_156, sh_156) := rfl
theorem sr156 : sm_srt sp_156 = true := by decide +kernel
theorem g156_0 {M : sm_M} {x1 : Int32} {K : Int32 → sm_M → Prop} (hS : SH M)  (h : sm_xJ 157 [.ref 23, .int (x1)] M (fun r0 M0 => (sm_kd M0 r0 = 51 ∧ SH M0 ∧ K (1 : Int32) M0)) (fun v2 M1 => SH M1 → (vp_in (0 : Int32) 1) ∧ ∀ M5, SH M5 → M5 = sm_wJ M1 164 (0 : Int32).toNatClampNeg v2 → K (0 : Int32) M5)) : sm_w 156 (sm_in sP 156 [.ref 23, .int (x1), .ref 164]) M (rI K) := by
  show sm_w 156 (0, [some (.ref 23), some (.int (x1)), some (.ref 164), none], []) M (rI K)
  refine sm_w.run t156 sr156 0 4 (M2 := M) (f2 := (4, [some (.ref 23), some (.int (x1)), some (.ref 164), none], [.int (x1), .ref 23, .int ((0 : Int32)), .ref 164])) rfl ⟨trivial, trivial, trivial, trivial, trivial⟩ ?_
  refine sm_w.yJ t156 sr156 4 (i := 157) (as := [.ref 23, .int (x1)]) (g := (4, [some (.ref 23), some (.int (x1)), some (.ref 164), none], [.int ((0 : Int32)), .ref 164])) rfl ⟨by decide, by decide, (Nat.le_of_ble_eq_true rfl), (sm_K.g (k_23 hS) (sm_sh.rf _)).1, (sm_K.g (k_23 hS) (sm_sh.rf _)).2, (Nat.le_of_ble_eq_true rfl)⟩ (Nat.le_of_ble_eq_true rfl) (by decide) (sm_xJ.s (by decide) hS h) (fun r0 M0 h => ?_) (fun v2 M1 h => ?_)
  · rcases h with ⟨hk, hS0, h⟩
    · refine ⟨11, by rw [hk]; rfl, ?_⟩
      refine sm_w.run t156 sr156 7 2 (M2 := M0) (f2 := (13, [some (.ref 23), some (.int (x1)), some (.ref 164), some (.ref r0)], [.int ((1 : Int32))])) rfl ⟨(Nat.le_of_ble_eq_true rfl), trivial, trivial⟩ ?_
      exact sm_w.end t156 sr156 9 (o := .returned (some (.int ((1 : Int32))))) (M2 := M0) rfl rfl (by decide) (⟨_, rfl, h⟩)
  · obtain ⟨hS3, h⟩ := h
    obtain ⟨c4, h⟩ := h
    refine sm_w.run t156 sr156 5 1 (M2 := sm_wJ M1 164 (0 : Int32).toNatClampNeg v2) (f2 := (8, [some (.ref 23), some (.int (x1)), some (.ref 164), none], [])) rfl ⟨sm_K.s2 (k_164 hS3) (l_164 hS3) c4, trivial⟩ ?_
    have hS6 : SH (sm_wJ M1 164 (0 : Int32).toNatClampNeg v2) := SH.wJ hS3 _ _ _
    have h := h _ hS6 rfl
    generalize sm_wJ M1 164 (0 : Int32).toNatClampNeg v2 = M5 at h hS6 ⊢
    refine sm_w.run t156 sr156 6 1 (M2 := M5) (f2 := (14, [some (.ref 23), some (.int (x1)), some (.ref 164), none], [])) rfl ⟨trivial, trivial⟩ ?_
    refine sm_w.run t156 sr156 10 1 (M2 := M5) (f2 := (15, [some (.ref 23), some (.int (x1)), some (.ref 164), none], [.int ((0 : Int32))])) rfl ⟨trivial, trivial⟩ ?_
    exact sm_w.end t156 sr156 11 (o := .returned (some (.int ((0 : Int32))))) (M2 := M5) rfl rfl (by decide) (⟨_, rfl, h⟩)
-- 159 LineSetter.count(I)I
theorem t159 : sP 159 = (2, sp_159, sh_159) := rfl
theorem sr159 : sm_srt sp_159 = true := by decide +kernel
theorem g159_0 {M : sm_M} {x1 : Int32} {K : Int32 → sm_M → Prop} {X : Nat → sm_M → Prop} (hS : SH M)  (h : ((x1 < (0 : Int32) → X M.1 (sm_new M 48 6)) ∧ (¬ x1 < (0 : Int32) → ((x1 ≤ (2 : Int32) → ((x1 = 0 → K (iV M 24 1) M) ∧ (x1 = 1 → K (iV M 26 1) M) ∧ (¬ x1 = 0 → ¬ x1 = 1 → K (iV M 30 2) M))) ∧ (¬ x1 ≤ (2 : Int32) → X M.1 (sm_new M 48 6)))))) : sm_w 159 (sm_in sP 159 [.ref 23, .int (x1)]) M (yI X K) := by
  show sm_w 159 (0, [some (.ref 23), some (.int (x1))], []) M (yI X K)
  refine sm_w.run t159 sr159 0 4 (M2 := M) (f2 := (4, [some (.ref 23), some (.int (x1))], [.int ((2 : Int32)), .int ((0 : Int32)), .int (x1), .ref 23])) rfl ⟨trivial, trivial, trivial, trivial, trivial⟩ ?_
  refine sm_w.zV t159 sr159 4 (i := 79) (as := [.ref 23, .int (x1), .int ((0 : Int32)), .int ((2 : Int32))]) (g := (4, [some (.ref 23), some (.int (x1))], [])) rfl ⟨by decide, by decide, (Nat.le_of_ble_eq_true rfl), (sm_K.g (k_23 hS) (sm_sh.rf _)).1, (sm_K.g (k_23 hS) (sm_sh.rf _)).2, (Nat.le_of_ble_eq_true rfl)⟩ (Nat.le_of_ble_eq_true rfl) (by decide) rfl (fun r M2 h => Or.inl ⟨r, rfl, h⟩) (sm_xV.s2 (by decide) hS (g79_0 (K := fun M1 => ((x1 = 0 → K (iV M1 24 1) M1) ∧ (x1 = 1 → K (iV M1 26 1) M1) ∧ (¬ x1 = 0 → ¬ x1 = 1 → K (iV M1 30 2) M1))) hS h)) (fun M1 h => ?_)
  obtain ⟨hS3, h⟩ := h
  refine sm_w.run t159 sr159 5 1 (M2 := M1) (f2 := (8, [some (.ref 23), some (.int (x1))], [.int (x1)])) rfl ⟨trivial, trivial⟩ ?_
  refine sm_w.lsw2 t159 sr159 6 (x := x1) (ls := [some (.ref 23), some (.int (x1))]) (st := []) rfl (fun hc => ?_) (fun hc => ?_) (fun hc hd => ?_)
  · have h := h.1 hc
    refine sm_w.run t159 sr159 7 2 (M2 := M1) (f2 := (40, [some (.ref 23), some (.int (x1))], [va_rf (sm_rv M1 23 0)])) rfl ⟨trivial, sm_K.g (k_23 hS3) (sm_sh.rf _), trivial⟩ ?_
    refine sm_w.fld (r_23_0 hS3) ?_
    refine sm_w.run t159 sr159 9 1 (M2 := M1) (f2 := (43, [some (.ref 23), some (.int (x1))], [.int (iV M1 24 1)])) rfl ⟨sm_K.g (kB_0 hS3 fB_24) (sm_sh.rf _), trivial⟩ ?_
    exact sm_w.end t159 sr159 10 (o := .returned (some (.int (iV M1 24 1)))) (M2 := M1) rfl rfl (by decide) (Or.inr ⟨_, rfl, h⟩)
  · have h := h.2.1 hc
    refine sm_w.run t159 sr159 11 2 (M2 := M1) (f2 := (48, [some (.ref 23), some (.int (x1))], [va_rf (sm_rv M1 23 1)])) rfl ⟨trivial, sm_K.g (k_23 hS3) (sm_sh.rf _), trivial⟩ ?_
    refine sm_w.fld (r_23_1 hS3) ?_
    refine sm_w.run t159 sr159 13 1 (M2 := M1) (f2 := (51, [some (.ref 23), some (.int (x1))], [.int (iV M1 26 1)])) rfl ⟨sm_K.g (kB_0 hS3 fB_26) (sm_sh.rf _), trivial⟩ ?_
    exact sm_w.end t159 sr159 14 (o := .returned (some (.int (iV M1 26 1)))) (M2 := M1) rfl rfl (by decide) (Or.inr ⟨_, rfl, h⟩)
  · have h := h.2.2 hc hd
    refine sm_w.run t159 sr159 15 2 (M2 := M1) (f2 := (56, [some (.ref 23), some (.int (x1))], [va_rf (sm_rv M1 23 4)])) rfl ⟨trivial, sm_K.g (k_23 hS3) (sm_sh.rf _), trivial⟩ ?_
    refine sm_w.fld (r_23_4 hS3) ?_
    refine sm_w.run t159 sr159 17 1 (M2 := M1) (f2 := (59, [some (.ref 23), some (.int (x1))], [.int (iV M1 30 2)])) rfl ⟨sm_K.g (k_30 hS3) (sm_sh.rf _), trivial⟩ ?_
    exact sm_w.end t159 sr159 18 (o := .returned (some (.int (iV M1 30 2)))) (M2 := M1) rfl rfl (by decide) (Or.inr ⟨_, rfl, h⟩)
-- 158 LineSetterLaw.count(LLineSetter;I[J)I
theorem t158 : sP 158 = (4, sp_158, sh_158) := rfl
theorem sr158 : sm_srt sp_158 = true := by decide +kernel
theorem g158_0 {M : sm_M} {x1 : Int32} {K : Int32 → sm_M → Prop} (hS : SH M)  (h : sm_xI 159 [.ref 23, .int (x1)] M (fun r0 M0 => (sm_kd M0 r0 = 48 ∧ SH M0 ∧ K (1 : Int32) M0)) (fun v2 M1 => SH M1 → (vp_in (0 : Int32) 1) ∧ ∀ M5, SH M5 → M5 = sm_wJ M1 164 (0 : Int32).toNatClampNeg v2.toInt64 → K (0 : Int32) M5)) : sm_w 158 (sm_in sP 158 [.ref 23, .int (x1), .ref 164]) M (rI K) := by
  show sm_w 158 (0, [some (.ref 23), some (.int (x1)), some (.ref 164), none], []) M (rI K)
  refine sm_w.run t158 sr158 0 4 (M2 := M) (f2 := (4, [some (.ref 23), some (.int (x1)), some (.ref 164), none], [.int (x1), .ref 23, .int ((0 : Int32)), .ref 164])) rfl ⟨trivial, trivial, trivial, trivial, trivial⟩ ?_
  refine sm_w.yI t158 sr158 4 (i := 159) (as := [.ref 23, .int (x1)]) (g := (4, [some (.ref 23), some (.int (x1)), some (.ref 164), none], [.int ((0 : Int32)), .ref 164])) rfl ⟨by decide, by decide, (Nat.le_of_ble_eq_true rfl), (sm_K.g (k_23 hS) (sm_sh.rf _)).1, (sm_K.g (k_23 hS) (sm_sh.rf _)).2, (Nat.le_of_ble_eq_true rfl)⟩ (Nat.le_of_ble_eq_true rfl) (by decide) (sm_xI.s (by decide) hS h) (fun r0 M0 h => ?_) (fun v2 M1 h => ?_)
  · rcases h with ⟨hk, hS0, h⟩
    · refine ⟨12, by rw [hk]; rfl, ?_⟩
      refine sm_w.run t158 sr158 8 2 (M2 := M0) (f2 := (14, [some (.ref 23), some (.int (x1)), some (.ref 164), some (.ref r0)], [.int ((1 : Int32))])) rfl ⟨(Nat.le_of_ble_eq_true rfl), trivial, trivial⟩ ?_
      exact sm_w.end t158 sr158 10 (o := .returned (some (.int ((1 : Int32))))) (M2 := M0) rfl rfl (by decide) (⟨_, rfl, h⟩)
  · obtain ⟨hS3, h⟩ := h
    obtain ⟨c4, h⟩ := h
    refine sm_w.run t158 sr158 5 2 (M2 := sm_wJ M1 164 (0 : Int32).toNatClampNeg v2.toInt64) (f2 := (9, [some (.ref 23), some (.int (x1)), some (.ref 164), none], [])) rfl ⟨trivial, sm_K.s2 (k_164 hS3) (l_164 hS3) c4, trivial⟩ ?_
    have hS6 : SH (sm_wJ M1 164 (0 : Int32).toNatClampNeg v2.toInt64) := SH.wJ hS3 _ _ _
    have h := h _ hS6 rfl
    generalize sm_wJ M1 164 (0 : Int32).toNatClampNeg v2.toInt64 = M5 at h hS6 ⊢
    refine sm_w.run t158 sr158 7 1 (M2 := M5) (f2 := (15, [some (.ref 23), some (.int (x1)), some (.ref 164), none], [])) rfl ⟨trivial, trivial⟩ ?_
    refine sm_w.run t158 sr158 11 1 (M2 := M5) (f2 := (16, [some (.ref 23), some (.int (x1)), some (.ref 164), none], [.int ((0 : Int32))])) rfl ⟨trivial, trivial⟩ ?_
    exact sm_w.end t158 sr158 12 (o := .returned (some (.int ((0 : Int32))))) (M2 := M5) rfl rfl (by decide) (⟨_, rfl, h⟩)
-- 161 LineSetterModel.thrown()I
theorem t161 : sP 161 = (1, sp_161, sh_161) := rfl
theorem sr161 : sm_srt sp_161 = true := by decide +kernel
theorem g161_0 {M : sm_M}  {K : Int32 → sm_M → Prop} (hS : SH M)  (h : K (iV M 116 0) M) : sm_w 161 (sm_in sP 161 [.ref 116]) M (rI K) := by
  show sm_w 161 (0, [some (.ref 116)], []) M (rI K)
  refine sm_w.run t161 sr161 0 2 (M2 := M) (f2 := (4, [some (.ref 116)], [.int (iV M 116 0)])) rfl ⟨trivial, sm_K.g (k_116 hS) (sm_sh.rf _), trivial⟩ ?_
  exact sm_w.end t161 sr161 2 (o := .returned (some (.int (iV M 116 0)))) (M2 := M) rfl rfl (by decide) (⟨_, rfl, h⟩)
def p161_0 (M : sm_M) : Int32 := iV M 116 0
theorem p161_c {M : sm_M}  (hS : SH M)  : sm_cI 161 [.ref 116] M (fun v M2 => v = p161_0 M ∧ M2 = M) := by
  refine g161_0 (K := (fun v M2 => v = p161_0 M ∧ M2 = M)) hS ?_
  exact ⟨rfl, rfl⟩
-- 163 LineSetterModel.refuse(I)I
theorem t163 : sP 163 = (2, sp_163, sh_163) := rfl
theorem sr163 : sm_srt sp_163 = true := by decide +kernel
theorem g163_0 {M : sm_M} {x1 : Int32} {K : Int32 → sm_M → Prop} (hS : SH M)  (h : ∀ M1, SH M1 → M1 = sm_wI M 116 0 x1 → K (0 : Int32) M1) : sm_w 163 (sm_in sP 163 [.ref 116, .int (x1)]) M (rI K) := by
  show sm_w 163 (0, [some (.ref 116), some (.int (x1))], []) M (rI K)
  refine sm_w.run t163 sr163 0 3 (M2 := sm_wI M 116 0 x1) (f2 := (5, [some (.ref 116), some (.int (x1))], [])) rfl ⟨trivial, trivial, ⟨(sm_K.p (k_116 hS) (sm_sh.rf _)).1, (sm_K.p (k_116 hS) (sm_sh.rf _)).2.1, (sm_K.p (k_116 hS) (sm_sh.rf _)).2.2, Or.inl rfl⟩, trivial⟩ ?_
  have hS2 : SH (sm_wI M 116 0 x1) := SH.wI hS _ _ _
  have h := h _ hS2 rfl
  generalize sm_wI M 116 0 x1 = M1 at h hS2 ⊢
  refine sm_w.run t163 sr163 3 1 (M2 := M1) (f2 := (6, [some (.ref 116), some (.int (x1))], [.int ((0 : Int32))])) rfl ⟨trivial, trivial⟩ ?_
  exact sm_w.end t163 sr163 4 (o := .returned (some (.int ((0 : Int32))))) (M2 := M1) rfl rfl (by decide) (⟨_, rfl, h⟩)
-- 164 LineSetterModel.four(I)V
theorem t164 : sP 164 = (3, sp_164, sh_164) := rfl
theorem sr164 : sm_srt sp_164 = true := by decide +kernel
theorem g164_0 {M : sm_M} {x1 : Int32} {K : sm_M → Prop} (hS : SH M)  (h : sm_w 164 (3, [some (.ref 116), some (.int (x1)), some (.int ((24 : Int32)))], []) M (rV K)) : sm_w 164 (sm_in sP 164 [.ref 116, .int (x1)]) M (rV K) := by
  show sm_w 164 (0, [some (.ref 116), some (.int (x1)), none], []) M (rV K)
  refine sm_w.run t164 sr164 0 2 (M2 := M) (f2 := (3, [some (.ref 116), some (.int (x1)), some (.int ((24 : Int32)))], [])) rfl ⟨trivial, (Nat.le_of_ble_eq_true rfl), trivial⟩ ?_
  exact h
theorem g164_1 {M : sm_M} {x1 : Int32} {x2 : Int32} {K : sm_M → Prop} (hS : SH M)  (h : ((x2 < 0 → K M) ∧ (¬ x2 < 0 → (vp_in (iV M 116 3) 8192) ∧ ∀ M2, SH M2 → M2 = sm_wI M 117 (iV M 116 3).toNatClampNeg ((x1 >>> (x2 &&& 31)) &&& (255 : Int32)) → ∀ M4, SH M4 → M4 = sm_wI M2 116 3 ((iV M2 116 3) + (1 : Int32)) → sm_w 164 (3, [some (.ref 116), some (.int (x1)), some (.int (x2 + (-8 : Int32)))], []) M4 (rV K)))) : sm_w 164 (3, [some (.ref 116), some (.int (x1)), some (.int (x2))], []) M (rV K) := by
  refine sm_w.run t164 sr164 2 2 (M2 := M) (f2 := (if x2 < 0 then 39 else 7, [some (.ref 116), some (.int (x1)), some (.int (x2))], [])) rfl ⟨trivial, trivial, trivial⟩ ?_
  refine sm_w.ite (fun hc => ?_) (fun hc => ?_)
  · have h := h.1 hc
    exact sm_w.end t164 sr164 22 (o := .returned none) (M2 := M) rfl trivial (by decide) (⟨rfl, h⟩)
  · have h := h.2 hc
    refine sm_w.run t164 sr164 4 2 (M2 := M) (f2 := (11, [some (.ref 116), some (.int (x1)), some (.int (x2))], [va_rf (sm_rv M 116 1)])) rfl ⟨trivial, sm_K.g (k_116 hS) (sm_sh.rf _), trivial⟩ ?_
    refine sm_w.fld (r_116_1 hS) ?_
    obtain ⟨c1, h⟩ := h
    refine sm_w.run t164 sr164 6 8 (M2 := sm_wI M 117 (iV M 116 3).toNatClampNeg ((x1 >>> (x2 &&& 31)) &&& (255 : Int32))) (f2 := (23, [some (.ref 116), some (.int (x1)), some (.int (x2))], [])) rfl ⟨trivial, sm_K.g (k_116 hS) (sm_sh.rf _), trivial, trivial, trivial, trivial, trivial, sm_K.s2 (k_117 hS) (l_117 hS) c1, trivial⟩ ?_
    have hS3 : SH (sm_wI M 117 (iV M 116 3).toNatClampNeg ((x1 >>> (x2 &&& 31)) &&& (255 : Int32))) := SH.wI hS _ _ _
    have h := h _ hS3 rfl
    generalize sm_wI M 117 (iV M 116 3).toNatClampNeg ((x1 >>> (x2 &&& 31)) &&& (255 : Int32)) = M2 at h hS3 ⊢
    refine sm_w.run t164 sr164 14 6 (M2 := sm_wI M2 116 3 ((iV M2 116 3) + (1 : Int32))) (f2 := (33, [some (.ref 116), some (.int (x1)), some (.int (x2))], [])) rfl ⟨trivial, rfl, sm_K.g (k_116 hS3) (sm_sh.rf _), trivial, trivial, ⟨(sm_K.p (k_116 hS3) (sm_sh.rf _)).1, (sm_K.p (k_116 hS3) (sm_sh.rf _)).2.1, (sm_K.p (k_116 hS3) (sm_sh.rf _)).2.2, Or.inl rfl⟩, trivial⟩ ?_
    have hS5 : SH (sm_wI M2 116 3 ((iV M2 116 3) + (1 : Int32))) := SH.wI hS3 _ _ _
    have h := h _ hS5 rfl
    generalize sm_wI M2 116 3 ((iV M2 116 3) + (1 : Int32)) = M4 at h hS5 ⊢
    refine sm_w.run t164 sr164 20 2 (M2 := M4) (f2 := (3, [some (.ref 116), some (.int (x1)), some (.int (x2 + (-8 : Int32)))], [])) rfl ⟨(Nat.le_of_ble_eq_true rfl), trivial, trivial⟩ ?_
    exact h
