/-! METHODS by their segments. -/
-- 28 LineSetter$FontReader.skipBlanks()V
theorem t28 : sP 28 = (1, sp_28, sh_28) := rfl
theorem sr28 : sm_srt sp_28 = true := by decide +kernel
theorem g28_0 {M : sm_M}  {K : sm_M → Prop} (hS : SH M)  (h : sm_cI 29 [.ref 24, .int (iV M 33 1)] M (fun v2 M1 => SH M1 → ∀ M4, SH M4 → M4 = sm_wI M1 33 1 v2 → K M4)) : sm_w 28 (sm_in sP 28 [.ref 33]) M (rV K) := by
  show sm_w 28 (0, [some (.ref 33)], []) M (rV K)
  refine sm_w.run t28 sr28 0 3 (M2 := M) (f2 := (5, [some (.ref 33)], [va_rf (sm_rv M 33 0), .ref 33])) rfl ⟨trivial, trivial, sm_K.g (k_33 hS) (sm_sh.rf _), trivial⟩ ?_
  refine sm_w.fld (r_33_0 hS) ?_
  refine sm_w.run t28 sr28 3 2 (M2 := M) (f2 := (9, [some (.ref 33)], [.int (iV M 33 1), .ref 24, .ref 33])) rfl ⟨trivial, sm_K.g (k_33 hS) (sm_sh.rf _), trivial⟩ ?_
  refine sm_w.cI t28 sr28 5 (i := 29) (as := [.ref 24, .int (iV M 33 1)]) (g := (9, [some (.ref 33)], [.ref 33])) rfl ⟨by decide, by decide, (Nat.le_of_ble_eq_true rfl), (sm_K.g (kB_0 hS fB_24) (sm_sh.rf _)).1, (sm_K.g (kB_0 hS fB_24) (sm_sh.rf _)).2, (Nat.le_of_ble_eq_true rfl)⟩ (Nat.le_of_ble_eq_true rfl) (by decide) (sm_cI.s (by decide) hS h) (fun v2 M1 h => ?_)
  obtain ⟨hS3, h⟩ := h
  refine sm_w.run t28 sr28 6 1 (M2 := sm_wI M1 33 1 v2) (f2 := (15, [some (.ref 33)], [])) rfl ⟨⟨(sm_K.p (k_33 hS3) (sm_sh.rf _)).1, (sm_K.p (k_33 hS3) (sm_sh.rf _)).2.1, (sm_K.p (k_33 hS3) (sm_sh.rf _)).2.2, Or.inl rfl⟩, trivial⟩ ?_
  have hS5 : SH (sm_wI M1 33 1 v2) := SH.wI hS3 _ _ _
  have h := h _ hS5 rfl
  generalize sm_wI M1 33 1 v2 = M4 at h hS5 ⊢
  exact sm_w.end t28 sr28 7 (o := .returned none) (M2 := M4) rfl trivial (by decide) (⟨rfl, h⟩)
-- 35 java/lang/String.coder()B
theorem t35 : sP 35 = (1, sp_35, sh_35) := rfl
theorem sr35 : sm_srt sp_35 = true := by decide +kernel
theorem g35_0 {M : sm_M} {x0 : Nat} {K : Int32 → sm_M → Prop} (hS : SH M) (hx0 : fN x0) (h : (narrow (sm_ry 1) (.int (iV M x0 1)) = .int (iV M x0 1)) ∧ K (iV M x0 1) M) : sm_w 35 (sm_in sP 35 [.ref x0]) M (rI K) := by
  show sm_w 35 (0, [some (.ref x0)], []) M (rI K)
  refine sm_w.run t35 sr35 0 2 (M2 := M) (f2 := (if (1 : Int32) = 0 then 13 else 6, [some (.ref x0)], [])) rfl ⟨trivial, trivial, trivial⟩ ?_
  rw [if_neg (by decide)]
  refine sm_w.run t35 sr35 2 3 (M2 := M) (f2 := (14, [some (.ref x0)], [.int (iV M x0 1)])) rfl ⟨trivial, (kN hS hx0), trivial, trivial⟩ ?_
  obtain ⟨c1, h⟩ := h
  exact sm_w.end t35 sr35 6 (o := .returned (some (.int (iV M x0 1)))) (M2 := M) rfl c1 (by decide) (⟨_, rfl, h⟩)
def p35_0 (M : sm_M) (x0 : Nat) : Int32 := iV M x0 1
def q35_0 (M : sm_M) (x0 : Nat) : Prop := (narrow (sm_ry 1) (.int (iV M x0 1)) = .int (iV M x0 1))
theorem p35_c {M : sm_M} {x0 : Nat} (hS : SH M) (hx0 : fN x0) (hq : q35_0 M x0) : sm_cI 35 [.ref x0] M (fun v M2 => v = p35_0 M x0 ∧ M2 = M) := by
  refine g35_0 (K := (fun v M2 => v = p35_0 M x0 ∧ M2 = M)) hS hx0 ?_
  unfold q35_0 at hq
  have d1 := hq
  refine ⟨d1, ?_⟩
  exact ⟨rfl, rfl⟩
-- 34 java/lang/String.length()I
theorem t34 : sP 34 = (1, sp_34, sh_34) := rfl
theorem sr34 : sm_srt sp_34 = true := by decide +kernel
theorem g34_0 {M : sm_M} {x0 : Nat} {K : Int32 → sm_M → Prop} (hS : SH M) (hx0 : fN x0) (h : (q35_0 M x0) ∧ K ((Int32.ofNat (cN x0)) >>> ((p35_0 M x0) &&& 31)) M) : sm_w 34 (sm_in sP 34 [.ref x0]) M (rI K) := by
  show sm_w 34 (0, [some (.ref x0)], []) M (rI K)
  refine sm_w.run t34 sr34 0 2 (M2 := M) (f2 := (4, [some (.ref x0)], [va_rf (sm_rv M x0 0)])) rfl ⟨trivial, (kN hS hx0), trivial⟩ ?_
  refine sm_w.fld (rN_0 hS hx0) ?_
  refine sm_w.run t34 sr34 2 1 (M2 := M) (f2 := (5, [some (.ref x0)], [.int (Int32.ofNat (sm_ln M (x0 + 1)))])) rfl ⟨⟨(kN1 hS hx0).1, Or.inr ⟨Nat.le_of_succ_le (kN1 hS hx0).2.1, (kN1 hS hx0).2.2⟩⟩, trivial⟩ ?_
  refine sm_w.aln (lN1 hS hx0) ?_
  obtain ⟨c1, h⟩ := h
  refine sm_w.run t34 sr34 3 1 (M2 := M) (f2 := (6, [some (.ref x0)], [.ref x0, .int (Int32.ofNat (cN x0))])) rfl ⟨trivial, trivial⟩ ?_
  refine sm_w.cI t34 sr34 4 (i := 35) (as := [.ref x0]) (g := (6, [some (.ref x0)], [.int (Int32.ofNat (cN x0))])) rfl ⟨by decide, by decide, (Nat.le_of_ble_eq_true rfl), (kN hS hx0).1, (kN hS hx0).2, (Nat.le_of_ble_eq_true rfl)⟩ (Nat.le_of_ble_eq_true rfl) (by decide) (p35_c hS hx0 c1) (fun vz M2 hz => ?_)
  obtain ⟨hz1, hz2⟩ := hz
  subst hz1
  have hz2 := hz2.symm
  subst hz2
  refine sm_w.run t34 sr34 5 1 (M2 := M) (f2 := (10, [some (.ref x0)], [.int ((Int32.ofNat (cN x0)) >>> ((p35_0 M x0) &&& 31))])) rfl ⟨trivial, trivial⟩ ?_
  exact sm_w.end t34 sr34 6 (o := .returned (some (.int ((Int32.ofNat (cN x0)) >>> ((p35_0 M x0) &&& 31))))) (M2 := M) rfl rfl (by decide) (⟨_, rfl, h⟩)
def p34_0 (M : sm_M) (x0 : Nat) : Int32 := (Int32.ofNat (cN x0)) >>> ((p35_0 M x0) &&& 31)
def q34_0 (M : sm_M) (x0 : Nat) : Prop := (q35_0 M x0)
theorem p34_c {M : sm_M} {x0 : Nat} (hS : SH M) (hx0 : fN x0) (hq : q34_0 M x0) : sm_cI 34 [.ref x0] M (fun v M2 => v = p34_0 M x0 ∧ M2 = M) := by
  refine g34_0 (K := (fun v M2 => v = p34_0 M x0 ∧ M2 = M)) hS hx0 ?_
  unfold q34_0 at hq
  have d1 := hq
  refine ⟨d1, ?_⟩
  exact ⟨rfl, rfl⟩
-- 38 java/lang/String.isLatin1()Z
theorem t38 : sP 38 = (1, sp_38, sh_38) := rfl
theorem sr38 : sm_srt sp_38 = true := by decide +kernel
theorem g38_0 {M : sm_M} {x0 : Nat} {K : Int32 → sm_M → Prop} (hS : SH M) (hx0 : fN x0) (h : (((iV M x0 1) = 0 → K (1 : Int32) M) ∧ (¬ (iV M x0 1) = 0 → K (0 : Int32) M))) : sm_w 38 (sm_in sP 38 [.ref x0]) M (rI K) := by
  show sm_w 38 (0, [some (.ref x0)], []) M (rI K)
  refine sm_w.run t38 sr38 0 2 (M2 := M) (f2 := (if (1 : Int32) = 0 then 17 else 6, [some (.ref x0)], [])) rfl ⟨trivial, trivial, trivial⟩ ?_
  rw [if_neg (by decide)]
  refine sm_w.run t38 sr38 2 3 (M2 := M) (f2 := (if (iV M x0 1) = 0 then 13 else 17, [some (.ref x0)], [])) rfl ⟨trivial, (kN hS hx0), trivial, trivial⟩ ?_
  refine sm_w.ite (fun hc => ?_) (fun hc => ?_)
  · have h := h.1 hc
    refine sm_w.run t38 sr38 5 2 (M2 := M) (f2 := (18, [some (.ref x0)], [.int ((1 : Int32))])) rfl ⟨trivial, trivial, trivial⟩ ?_
    exact sm_w.end t38 sr38 8 (o := .returned (some (.int ((1 : Int32))))) (M2 := M) rfl rfl (by decide) (⟨_, rfl, h⟩)
  · have h := h.2 hc
    refine sm_w.run t38 sr38 7 1 (M2 := M) (f2 := (18, [some (.ref x0)], [.int ((0 : Int32))])) rfl ⟨trivial, trivial⟩ ?_
    exact sm_w.end t38 sr38 8 (o := .returned (some (.int ((0 : Int32))))) (M2 := M) rfl rfl (by decide) (⟨_, rfl, h⟩)
def p38_0 (M : sm_M) (x0 : Nat) : Int32 := if (iV M x0 1) = 0 then (1 : Int32) else (0 : Int32)
theorem p38_c {M : sm_M} {x0 : Nat} (hS : SH M) (hx0 : fN x0) : sm_cI 38 [.ref x0] M (fun v M2 => v = p38_0 M x0 ∧ M2 = M) := by
  refine g38_0 (K := (fun v M2 => v = p38_0 M x0 ∧ M2 = M)) hS hx0 ?_
  refine ⟨fun e1 => ?_, fun e1 => ?_⟩
  · refine ⟨?_, rfl⟩
    unfold p38_0
    rw [if_pos e1]
  · refine ⟨?_, rfl⟩
    unfold p38_0
    rw [if_neg e1]
-- 40 java/lang/String.checkIndex(II)V
theorem t40 : sP 40 = (2, sp_40, sh_40) := rfl
theorem sr40 : sm_srt sp_40 = true := by decide +kernel
theorem g40_0 {M : sm_M} {x0 : Int32} {x1 : Int32} {K : sm_M → Prop} (hS : SH M)  (h : (¬ x0 < 0 ∧ x0 < x1) ∧ K M) : sm_w 40 (sm_in sP 40 [.int (x0), .int (x1)]) M (rV K) := by
  show sm_w 40 (0, [some (.int (x0)), some (.int (x1))], []) M (rV K)
  obtain ⟨c1, h⟩ := h
  refine sm_w.run t40 sr40 0 3 (M2 := M) (f2 := (9, [some (.int (x0)), some (.int (x1))], [])) rfl ⟨trivial, trivial, ⟨c1, (Nat.le_of_ble_eq_true rfl)⟩, trivial⟩ ?_
  exact sm_w.end t40 sr40 3 (o := .returned none) (M2 := M) rfl trivial (by decide) (⟨rfl, h⟩)
def q40_0 (M : sm_M) (x0 : Int32) (x1 : Int32) : Prop := (¬ x0 < 0 ∧ x0 < x1)
theorem p40_c {M : sm_M} {x0 : Int32} {x1 : Int32} (hS : SH M)  (hq : q40_0 M x0 x1) : sm_cV 40 [.int (x0), .int (x1)] M (fun M2 => M2 = M) := by
  refine g40_0 (K := (fun M2 => M2 = M)) hS ?_
  unfold q40_0 at hq
  have d1 := hq
  refine ⟨d1, ?_⟩
  exact rfl
-- 39 java/lang/StringLatin1.charAt([BI)C
theorem t39 : sP 39 = (2, sp_39, sh_39) := rfl
theorem sr39 : sm_srt sp_39 = true := by decide +kernel
theorem g39_0 {M : sm_M} {x0 : Nat} {nx0 : Nat} {x1 : Int32} {K : Int32 → sm_M → Prop} (hS : SH M) (hx0 : (∀ {M : sm_M}, SH M → x0 < M.1 ∧ (61 ≤ sm_kd M x0 ∧ sm_kd M x0 < 65)) ∧ (∀ {M : sm_M}, SH M → sm_ln M x0 = nx0)) (h : (q40_0 M x1 (Int32.ofNat nx0)) ∧ (vp_in x1 nx0) ∧ (narrow (sm_ry 4) (.int ((((iV M x0 x1.toNatClampNeg) &&& (255 : Int32)).toUInt32 % 65536).toInt32)) = .int ((((iV M x0 x1.toNatClampNeg) &&& (255 : Int32)).toUInt32 % 65536).toInt32)) ∧ K ((((iV M x0 x1.toNatClampNeg) &&& (255 : Int32)).toUInt32 % 65536).toInt32) M) : sm_w 39 (sm_in sP 39 [.ref x0, .int (x1)]) M (rI K) := by
  show sm_w 39 (0, [some (.ref x0), some (.int (x1))], []) M (rI K)
  refine sm_w.run t39 sr39 0 3 (M2 := M) (f2 := (3, [some (.ref x0), some (.int (x1))], [.int (Int32.ofNat (sm_ln M x0)), .int (x1)])) rfl ⟨trivial, trivial, ⟨(hx0.1 hS).1, Or.inr ⟨Nat.le_of_succ_le (hx0.1 hS).2.1, (hx0.1 hS).2.2⟩⟩, trivial⟩ ?_
  refine sm_w.aln (hx0.2 hS) ?_
  obtain ⟨c1, h⟩ := h
  refine sm_w.cV t39 sr39 3 (i := 40) (as := [.int (x1), .int (Int32.ofNat nx0)]) (g := (3, [some (.ref x0), some (.int (x1))], [])) rfl ⟨(Nat.le_of_ble_eq_true rfl), (Nat.le_of_ble_eq_true rfl)⟩ (Nat.le_of_ble_eq_true rfl) (by decide) (p40_c hS c1) (fun M2 hz => ?_)
  have hz := hz.symm
  subst hz
  obtain ⟨c2, c3, h⟩ := h
  refine sm_w.run t39 sr39 4 6 (M2 := M) (f2 := (14, [some (.ref x0), some (.int (x1))], [.int ((((iV M x0 x1.toNatClampNeg) &&& (255 : Int32)).toUInt32 % 65536).toInt32)])) rfl ⟨trivial, trivial, sm_bk5 (hx0.1 hS) (hx0.2 hS) c2, trivial, trivial, trivial, trivial⟩ ?_
  exact sm_w.end t39 sr39 10 (o := .returned (some (.int ((((iV M x0 x1.toNatClampNeg) &&& (255 : Int32)).toUInt32 % 65536).toInt32)))) (M2 := M) rfl c3 (by decide) (⟨_, rfl, h⟩)
def p39_0 (M : sm_M) (x0 : Nat) (nx0 : Nat) (x1 : Int32) : Int32 := (((iV M x0 x1.toNatClampNeg) &&& (255 : Int32)).toUInt32 % 65536).toInt32
def q39_0 (M : sm_M) (x0 : Nat) (nx0 : Nat) (x1 : Int32) : Prop := (q40_0 M x1 (Int32.ofNat nx0)) ∧ (vp_in x1 nx0) ∧ (narrow (sm_ry 4) (.int ((((iV M x0 x1.toNatClampNeg) &&& (255 : Int32)).toUInt32 % 65536).toInt32)) = .int ((((iV M x0 x1.toNatClampNeg) &&& (255 : Int32)).toUInt32 % 65536).toInt32))
theorem p39_c {M : sm_M} {x0 : Nat} {nx0 : Nat} {x1 : Int32} (hS : SH M) (hx0 : (∀ {M : sm_M}, SH M → x0 < M.1 ∧ (61 ≤ sm_kd M x0 ∧ sm_kd M x0 < 65)) ∧ (∀ {M : sm_M}, SH M → sm_ln M x0 = nx0)) (hq : q39_0 M x0 nx0 x1) : sm_cI 39 [.ref x0, .int (x1)] M (fun v M2 => v = p39_0 M x0 nx0 x1 ∧ M2 = M) := by
  refine g39_0 (K := (fun v M2 => v = p39_0 M x0 nx0 x1 ∧ M2 = M)) hS hx0 ?_
  unfold q39_0 at hq
  obtain ⟨d1, hq⟩ := hq
  refine ⟨d1, ?_⟩
  obtain ⟨d2, d3⟩ := hq
  refine ⟨d2, d3, ?_⟩
  exact ⟨rfl, rfl⟩
-- 37 java/lang/String.charAt(I)C
theorem t37 : sP 37 = (2, sp_37, sh_37) := rfl
theorem sr37 : sm_srt sp_37 = true := by decide +kernel
theorem g37_0 {M : sm_M} {x0 : Nat} {x1 : Int32} {K : Int32 → sm_M → Prop} (hS : SH M) (hx0 : fN x0) (h : (((p38_0 M x0) = 0 → False) ∧ (¬ (p38_0 M x0) = 0 → (q39_0 M (x0 + 1) (cN x0) x1) ∧ (narrow (sm_ry 4) (.int (p39_0 M (x0 + 1) (cN x0) x1)) = .int (p39_0 M (x0 + 1) (cN x0) x1)) ∧ K (p39_0 M (x0 + 1) (cN x0) x1) M))) : sm_w 37 (sm_in sP 37 [.ref x0, .int (x1)]) M (rI K) := by
  show sm_w 37 (0, [some (.ref x0), some (.int (x1))], []) M (rI K)
  refine sm_w.run t37 sr37 0 1 (M2 := M) (f2 := (1, [some (.ref x0), some (.int (x1))], [.ref x0])) rfl ⟨trivial, trivial⟩ ?_
  refine sm_w.cI t37 sr37 1 (i := 38) (as := [.ref x0]) (g := (1, [some (.ref x0), some (.int (x1))], [])) rfl ⟨by decide, by decide, (Nat.le_of_ble_eq_true rfl), (kN hS hx0).1, (kN hS hx0).2, (Nat.le_of_ble_eq_true rfl)⟩ (Nat.le_of_ble_eq_true rfl) (by decide) (p38_c hS hx0) (fun vz M2 hz => ?_)
  obtain ⟨hz1, hz2⟩ := hz
  subst hz1
  have hz2 := hz2.symm
  subst hz2
  refine sm_w.run t37 sr37 2 1 (M2 := M) (f2 := (if (p38_0 M x0) = 0 then 16 else 7, [some (.ref x0), some (.int (x1))], [])) rfl ⟨trivial, trivial⟩ ?_
  refine sm_w.ite (fun hc => ?_) (fun hc => ?_)
  · have h := h.1 hc
    refine sm_w.run t37 sr37 8 2 (M2 := M) (f2 := (20, [some (.ref x0), some (.int (x1))], [va_rf (sm_rv M x0 0)])) rfl ⟨trivial, (kN hS hx0), trivial⟩ ?_
    refine sm_w.fld (rN_0 hS hx0) ?_
    refine sm_w.run t37 sr37 10 1 (M2 := M) (f2 := (21, [some (.ref x0), some (.int (x1))], [.int (x1), .ref (x0 + 1)])) rfl ⟨trivial, trivial⟩ ?_
    exact h.elim
  · have h := h.2 hc
    refine sm_w.run t37 sr37 3 2 (M2 := M) (f2 := (11, [some (.ref x0), some (.int (x1))], [va_rf (sm_rv M x0 0)])) rfl ⟨trivial, (kN hS hx0), trivial⟩ ?_
    refine sm_w.fld (rN_0 hS hx0) ?_
    obtain ⟨c1, h⟩ := h
    refine sm_w.run t37 sr37 5 1 (M2 := M) (f2 := (12, [some (.ref x0), some (.int (x1))], [.int (x1), .ref (x0 + 1)])) rfl ⟨trivial, trivial⟩ ?_
    refine sm_w.cI t37 sr37 6 (i := 39) (as := [.ref (x0 + 1), .int (x1)]) (g := (12, [some (.ref x0), some (.int (x1))], [])) rfl ⟨(Nat.le_of_ble_eq_true rfl), (Nat.le_of_ble_eq_true rfl)⟩ (Nat.le_of_ble_eq_true rfl) (by decide) (p39_c hS ⟨fun h => kN1 h hx0, fun h => lN1 h hx0⟩ c1) (fun vz M2 hz => ?_)
    obtain ⟨hz1, hz2⟩ := hz
    subst hz1
    have hz2 := hz2.symm
    subst hz2
    obtain ⟨c2, h⟩ := h
    exact sm_w.end t37 sr37 7 (o := .returned (some (.int (p39_0 M (x0 + 1) (cN x0) x1)))) (M2 := M) rfl c2 (by decide) (⟨_, rfl, h⟩)
def p37_0 (M : sm_M) (x0 : Nat) (x1 : Int32) : Int32 := if (p38_0 M x0) = 0 then 0 else (p39_0 M (x0 + 1) (cN x0) x1)
def q37_0 (M : sm_M) (x0 : Nat) (x1 : Int32) : Prop := (((p38_0 M x0) = 0 → (False)) ∧ (¬ (p38_0 M x0) = 0 → (q39_0 M (x0 + 1) (cN x0) x1) ∧ (narrow (sm_ry 4) (.int (p39_0 M (x0 + 1) (cN x0) x1)) = .int (p39_0 M (x0 + 1) (cN x0) x1))))
theorem p37_c {M : sm_M} {x0 : Nat} {x1 : Int32} (hS : SH M) (hx0 : fN x0) (hq : q37_0 M x0 x1) : sm_cI 37 [.ref x0, .int (x1)] M (fun v M2 => v = p37_0 M x0 x1 ∧ M2 = M) := by
  refine g37_0 (K := (fun v M2 => v = p37_0 M x0 x1 ∧ M2 = M)) hS hx0 ?_
  unfold q37_0 at hq
  refine ⟨fun e1 => ?_, fun e1 => ?_⟩
  · have hq := hq.1 e1
    exact hq
  · have hq := hq.2 e1
    obtain ⟨d2, hq⟩ := hq
    refine ⟨d2, ?_⟩
    have d3 := hq
    refine ⟨d3, ?_⟩
    refine ⟨?_, rfl⟩
    unfold p37_0
    rw [if_neg e1]
-- 36 LineSetter$Bytes.holds(Ljava/lang/String;I)Z
theorem t36 : sP 36 = (4, sp_36, sh_36) := rfl
theorem sr36 : sm_srt sp_36 = true := by decide +kernel
theorem g36_0 {M : sm_M} {x0 : Nat} {x1 : Nat} {x2 : Int32} {K : Int32 → sm_M → Prop} (hS : SH M) (hx0 : fB x0) (hx1 : fN x1) (h : sm_w 36 (2, [some (.ref x0), some (.ref x1), some (.int (x2)), some (.int ((0 : Int32)))], []) M (rI K)) : sm_w 36 (sm_in sP 36 [.ref x0, .ref x1, .int (x2)]) M (rI K) := by
  show sm_w 36 (0, [some (.ref x0), some (.ref x1), some (.int (x2)), none], []) M (rI K)
  refine sm_w.run t36 sr36 0 2 (M2 := M) (f2 := (2, [some (.ref x0), some (.ref x1), some (.int (x2)), some (.int ((0 : Int32)))], [])) rfl ⟨trivial, (Nat.le_of_ble_eq_true rfl), trivial⟩ ?_
  exact h
theorem g36_1 {M : sm_M} {x0 : Nat} {x1 : Nat} {x2 : Int32} {x3 : Int32} {K : Int32 → sm_M → Prop} (hS : SH M) (hx0 : fB x0) (hx1 : fN x1) (h : (q34_0 M x1) ∧ (((p34_0 M x1) ≤ x3 → K (1 : Int32) M) ∧ (¬ (p34_0 M x1) ≤ x3 → (q30_0 M x0 (x2 + x3)) ∧ (q37_0 M x1 x3) ∧ (((p30_0 M x0 (x2 + x3)) = (p37_0 M x1 x3) → sm_w 36 (2, [some (.ref x0), some (.ref x1), some (.int (x2)), some (.int (x3 + (1 : Int32)))], []) M (rI K)) ∧ (¬ (p30_0 M x0 (x2 + x3)) = (p37_0 M x1 x3) → K (0 : Int32) M))))) : sm_w 36 (2, [some (.ref x0), some (.ref x1), some (.int (x2)), some (.int (x3))], []) M (rI K) := by
  obtain ⟨c1, h⟩ := h
  refine sm_w.run t36 sr36 2 2 (M2 := M) (f2 := (4, [some (.ref x0), some (.ref x1), some (.int (x2)), some (.int (x3))], [.ref x1, .int (x3)])) rfl ⟨trivial, trivial, trivial⟩ ?_
  refine sm_w.cI t36 sr36 4 (i := 34) (as := [.ref x1]) (g := (4, [some (.ref x0), some (.ref x1), some (.int (x2)), some (.int (x3))], [.int (x3)])) rfl ⟨by decide, by decide, (Nat.le_of_ble_eq_true rfl), (kN hS hx1).1, (kN hS hx1).2, (Nat.le_of_ble_eq_true rfl)⟩ (Nat.le_of_ble_eq_true rfl) (by decide) (p34_c hS hx1 c1) (fun vz M2 hz => ?_)
  obtain ⟨hz1, hz2⟩ := hz
  subst hz1
  have hz2 := hz2.symm
  subst hz2
  refine sm_w.run t36 sr36 5 1 (M2 := M) (f2 := (if (p34_0 M x1) ≤ x3 then 33 else 10, [some (.ref x0), some (.ref x1), some (.int (x2)), some (.int (x3))], [])) rfl ⟨trivial, trivial⟩ ?_
  refine sm_w.ite (fun hc => ?_) (fun hc => ?_)
  · have h := h.1 hc
    refine sm_w.run t36 sr36 19 1 (M2 := M) (f2 := (34, [some (.ref x0), some (.ref x1), some (.int (x2)), some (.int (x3))], [.int ((1 : Int32))])) rfl ⟨trivial, trivial⟩ ?_
    exact sm_w.end t36 sr36 20 (o := .returned (some (.int ((1 : Int32))))) (M2 := M) rfl rfl (by decide) (⟨_, rfl, h⟩)
  · have h := h.2 hc
    obtain ⟨c2, h⟩ := h
    refine sm_w.run t36 sr36 6 4 (M2 := M) (f2 := (14, [some (.ref x0), some (.ref x1), some (.int (x2)), some (.int (x3))], [.int (x2 + x3), .ref x0])) rfl ⟨trivial, trivial, trivial, trivial, trivial⟩ ?_
    refine sm_w.cI t36 sr36 10 (i := 30) (as := [.ref x0, .int (x2 + x3)]) (g := (14, [some (.ref x0), some (.ref x1), some (.int (x2)), some (.int (x3))], [])) rfl ⟨by decide, by decide, (Nat.le_of_ble_eq_true rfl), (sm_K.g (kB_0 hS hx0) (sm_sh.rf _)).1, (sm_K.g (kB_0 hS hx0) (sm_sh.rf _)).2, (Nat.le_of_ble_eq_true rfl)⟩ (Nat.le_of_ble_eq_true rfl) (by decide) (p30_c hS hx0 c2) (fun vz M2 hz => ?_)
    obtain ⟨hz1, hz2⟩ := hz
    subst hz1
    have hz2 := hz2.symm
    subst hz2
    obtain ⟨c3, h⟩ := h
    refine sm_w.run t36 sr36 11 2 (M2 := M) (f2 := (19, [some (.ref x0), some (.ref x1), some (.int (x2)), some (.int (x3))], [.int (x3), .ref x1, .int (p30_0 M x0 (x2 + x3))])) rfl ⟨trivial, trivial, trivial⟩ ?_
    refine sm_w.cI t36 sr36 13 (i := 37) (as := [.ref x1, .int (x3)]) (g := (19, [some (.ref x0), some (.ref x1), some (.int (x2)), some (.int (x3))], [.int (p30_0 M x0 (x2 + x3))])) rfl ⟨by decide, by decide, (Nat.le_of_ble_eq_true rfl), (kN hS hx1).1, (kN hS hx1).2, (Nat.le_of_ble_eq_true rfl)⟩ (Nat.le_of_ble_eq_true rfl) (by decide) (p37_c hS hx1 c3) (fun vz M2 hz => ?_)
    obtain ⟨hz1, hz2⟩ := hz
    subst hz1
    have hz2 := hz2.symm
    subst hz2
    refine sm_w.run t36 sr36 14 1 (M2 := M) (f2 := (if (p30_0 M x0 (x2 + x3)) = (p37_0 M x1 x3) then 27 else 25, [some (.ref x0), some (.ref x1), some (.int (x2)), some (.int (x3))], [])) rfl ⟨trivial, trivial⟩ ?_
    refine sm_w.ite (fun hc => ?_) (fun hc => ?_)
    · have h := h.1 hc
      refine sm_w.run t36 sr36 17 2 (M2 := M) (f2 := (2, [some (.ref x0), some (.ref x1), some (.int (x2)), some (.int (x3 + (1 : Int32)))], [])) rfl ⟨(Nat.le_of_ble_eq_true rfl), trivial, trivial⟩ ?_
      exact h
    · have h := h.2 hc
      refine sm_w.run t36 sr36 15 1 (M2 := M) (f2 := (26, [some (.ref x0), some (.ref x1), some (.int (x2)), some (.int (x3))], [.int ((0 : Int32))])) rfl ⟨trivial, trivial⟩ ?_
      exact sm_w.end t36 sr36 16 (o := .returned (some (.int ((0 : Int32))))) (M2 := M) rfl rfl (by decide) (⟨_, rfl, h⟩)
-- 41 LineSetter.isSmallLetter(I)Z
theorem t41 : sP 41 = (1, sp_41, sh_41) := rfl
theorem sr41 : sm_srt sp_41 = true := by decide +kernel
theorem g41_0 {M : sm_M} {x0 : Int32} {K : Int32 → sm_M → Prop} (hS : SH M)  (h : ((x0 < (97 : Int32) → K (0 : Int32) M) ∧ (¬ x0 < (97 : Int32) → (((122 : Int32) < x0 → K (0 : Int32) M) ∧ (¬ (122 : Int32) < x0 → K (1 : Int32) M))))) : sm_w 41 (sm_in sP 41 [.int (x0)]) M (rI K) := by
  show sm_w 41 (0, [some (.int (x0))], []) M (rI K)
  refine sm_w.run t41 sr41 0 3 (M2 := M) (f2 := (if x0 < (97 : Int32) then 16 else 6, [some (.int (x0))], [])) rfl ⟨trivial, trivial, trivial, trivial⟩ ?_
  refine sm_w.ite (fun hc => ?_) (fun hc => ?_)
  · have h := h.1 hc
    refine sm_w.run t41 sr41 8 1 (M2 := M) (f2 := (17, [some (.int (x0))], [.int ((0 : Int32))])) rfl ⟨trivial, trivial⟩ ?_
    exact sm_w.end t41 sr41 9 (o := .returned (some (.int ((0 : Int32))))) (M2 := M) rfl rfl (by decide) (⟨_, rfl, h⟩)
  · have h := h.2 hc
    refine sm_w.run t41 sr41 3 3 (M2 := M) (f2 := (if (122 : Int32) < x0 then 16 else 12, [some (.int (x0))], [])) rfl ⟨trivial, trivial, trivial, trivial⟩ ?_
    refine sm_w.ite (fun hc => ?_) (fun hc => ?_)
    · have h := h.1 hc
      refine sm_w.run t41 sr41 8 1 (M2 := M) (f2 := (17, [some (.int (x0))], [.int ((0 : Int32))])) rfl ⟨trivial, trivial⟩ ?_
      exact sm_w.end t41 sr41 9 (o := .returned (some (.int ((0 : Int32))))) (M2 := M) rfl rfl (by decide) (⟨_, rfl, h⟩)
    · have h := h.2 hc
      refine sm_w.run t41 sr41 6 2 (M2 := M) (f2 := (17, [some (.int (x0))], [.int ((1 : Int32))])) rfl ⟨trivial, trivial, trivial⟩ ?_
      exact sm_w.end t41 sr41 9 (o := .returned (some (.int ((1 : Int32))))) (M2 := M) rfl rfl (by decide) (⟨_, rfl, h⟩)
def p41_0 (M : sm_M) (x0 : Int32) : Int32 := if x0 < (97 : Int32) then (0 : Int32) else (if (122 : Int32) < x0 then (0 : Int32) else (1 : Int32))
theorem p41_c {M : sm_M} {x0 : Int32} (hS : SH M)  : sm_cI 41 [.int (x0)] M (fun v M2 => v = p41_0 M x0 ∧ M2 = M) := by
  refine g41_0 (K := (fun v M2 => v = p41_0 M x0 ∧ M2 = M)) hS ?_
  refine ⟨fun e1 => ?_, fun e1 => ?_⟩
  · refine ⟨?_, rfl⟩
    unfold p41_0
    rw [if_pos e1]
  · refine ⟨fun e2 => ?_, fun e2 => ?_⟩
    · refine ⟨?_, rfl⟩
      unfold p41_0
      rw [if_neg e1, if_pos e2]
    · refine ⟨?_, rfl⟩
      unfold p41_0
      rw [if_neg e1, if_neg e2]
-- 42 LineSetter.isDigit(I)Z
theorem t42 : sP 42 = (1, sp_42, sh_42) := rfl
theorem sr42 : sm_srt sp_42 = true := by decide +kernel
theorem g42_0 {M : sm_M} {x0 : Int32} {K : Int32 → sm_M → Prop} (hS : SH M)  (h : ((x0 < (48 : Int32) → K (0 : Int32) M) ∧ (¬ x0 < (48 : Int32) → (((57 : Int32) < x0 → K (0 : Int32) M) ∧ (¬ (57 : Int32) < x0 → K (1 : Int32) M))))) : sm_w 42 (sm_in sP 42 [.int (x0)]) M (rI K) := by
  show sm_w 42 (0, [some (.int (x0))], []) M (rI K)
  refine sm_w.run t42 sr42 0 3 (M2 := M) (f2 := (if x0 < (48 : Int32) then 16 else 6, [some (.int (x0))], [])) rfl ⟨trivial, trivial, trivial, trivial⟩ ?_
  refine sm_w.ite (fun hc => ?_) (fun hc => ?_)
  · have h := h.1 hc
    refine sm_w.run t42 sr42 8 1 (M2 := M) (f2 := (17, [some (.int (x0))], [.int ((0 : Int32))])) rfl ⟨trivial, trivial⟩ ?_
    exact sm_w.end t42 sr42 9 (o := .returned (some (.int ((0 : Int32))))) (M2 := M) rfl rfl (by decide) (⟨_, rfl, h⟩)
  · have h := h.2 hc
    refine sm_w.run t42 sr42 3 3 (M2 := M) (f2 := (if (57 : Int32) < x0 then 16 else 12, [some (.int (x0))], [])) rfl ⟨trivial, trivial, trivial, trivial⟩ ?_
    refine sm_w.ite (fun hc => ?_) (fun hc => ?_)
    · have h := h.1 hc
      refine sm_w.run t42 sr42 8 1 (M2 := M) (f2 := (17, [some (.int (x0))], [.int ((0 : Int32))])) rfl ⟨trivial, trivial⟩ ?_
      exact sm_w.end t42 sr42 9 (o := .returned (some (.int ((0 : Int32))))) (M2 := M) rfl rfl (by decide) (⟨_, rfl, h⟩)
    · have h := h.2 hc
      refine sm_w.run t42 sr42 6 2 (M2 := M) (f2 := (17, [some (.int (x0))], [.int ((1 : Int32))])) rfl ⟨trivial, trivial, trivial⟩ ?_
      exact sm_w.end t42 sr42 9 (o := .returned (some (.int ((1 : Int32))))) (M2 := M) rfl rfl (by decide) (⟨_, rfl, h⟩)
def p42_0 (M : sm_M) (x0 : Int32) : Int32 := if x0 < (48 : Int32) then (0 : Int32) else (if (57 : Int32) < x0 then (0 : Int32) else (1 : Int32))
theorem p42_c {M : sm_M} {x0 : Int32} (hS : SH M)  : sm_cI 42 [.int (x0)] M (fun v M2 => v = p42_0 M x0 ∧ M2 = M) := by
  refine g42_0 (K := (fun v M2 => v = p42_0 M x0 ∧ M2 = M)) hS ?_
  refine ⟨fun e1 => ?_, fun e1 => ?_⟩
  · refine ⟨?_, rfl⟩
    unfold p42_0
    rw [if_pos e1]
  · refine ⟨fun e2 => ?_, fun e2 => ?_⟩
    · refine ⟨?_, rfl⟩
      unfold p42_0
      rw [if_neg e1, if_pos e2]
    · refine ⟨?_, rfl⟩
      unfold p42_0
      rw [if_neg e1, if_neg e2]
-- 33 LineSetter$FontReader.takeName(Ljava/lang/String;)Z
theorem t33 : sP 33 = (3, sp_33, sh_33) := rfl
theorem sr33 : sm_srt sp_33 = true := by decide +kernel
theorem g33_0 {M : sm_M} {x1 : Nat} {K : Int32 → sm_M → Prop} (hS : SH M) (hx1 : fN x1) (h : (q34_0 M x1) ∧ (q30_0 M 24 ((iV M 33 1) + (p34_0 M x1))) ∧ sm_cI 36 [.ref 24, .ref x1, .int (iV M 33 1)] M (fun v4 M3 => SH M3 → ((v4 = 0 → K (0 : Int32) M3) ∧ (¬ v4 = 0 → (((p41_0 M3 (p30_0 M 24 ((iV M 33 1) + (p34_0 M x1)))) = 0 → (((p42_0 M3 (p30_0 M 24 ((iV M 33 1) + (p34_0 M x1)))) = 0 → (q34_0 M3 x1) ∧ ∀ M7, SH M7 → M7 = sm_wI M3 33 1 ((iV M3 33 1) + (p34_0 M3 x1)) → K (1 : Int32) M7) ∧ (¬ (p42_0 M3 (p30_0 M 24 ((iV M 33 1) + (p34_0 M x1)))) = 0 → K (0 : Int32) M3))) ∧ (¬ (p41_0 M3 (p30_0 M 24 ((iV M 33 1) + (p34_0 M x1)))) = 0 → K (0 : Int32) M3)))))) : sm_w 33 (sm_in sP 33 [.ref 33, .ref x1]) M (rI K) := by
  show sm_w 33 (0, [some (.ref 33), some (.ref x1), none], []) M (rI K)
  refine sm_w.run t33 sr33 0 2 (M2 := M) (f2 := (4, [some (.ref 33), some (.ref x1), none], [va_rf (sm_rv M 33 0)])) rfl ⟨trivial, sm_K.g (k_33 hS) (sm_sh.rf _), trivial⟩ ?_
  refine sm_w.fld (r_33_0 hS) ?_
  obtain ⟨c1, h⟩ := h
  refine sm_w.run t33 sr33 2 3 (M2 := M) (f2 := (9, [some (.ref 33), some (.ref x1), none], [.ref x1, .int (iV M 33 1), .ref 24])) rfl ⟨trivial, sm_K.g (k_33 hS) (sm_sh.rf _), trivial, trivial⟩ ?_
  refine sm_w.cI t33 sr33 5 (i := 34) (as := [.ref x1]) (g := (9, [some (.ref 33), some (.ref x1), none], [.int (iV M 33 1), .ref 24])) rfl ⟨by decide, by decide, (Nat.le_of_ble_eq_true rfl), (kN hS hx1).1, (kN hS hx1).2, (Nat.le_of_ble_eq_true rfl)⟩ (Nat.le_of_ble_eq_true rfl) (by decide) (p34_c hS hx1 c1) (fun vz M2 hz => ?_)
  obtain ⟨hz1, hz2⟩ := hz
  subst hz1
  have hz2 := hz2.symm
  subst hz2
  obtain ⟨c2, h⟩ := h
  refine sm_w.run t33 sr33 6 1 (M2 := M) (f2 := (13, [some (.ref 33), some (.ref x1), none], [.int ((iV M 33 1) + (p34_0 M x1)), .ref 24])) rfl ⟨trivial, trivial⟩ ?_
  refine sm_w.cI t33 sr33 7 (i := 30) (as := [.ref 24, .int ((iV M 33 1) + (p34_0 M x1))]) (g := (13, [some (.ref 33), some (.ref x1), none], [])) rfl ⟨by decide, by decide, (Nat.le_of_ble_eq_true rfl), (sm_K.g (kB_0 hS fB_24) (sm_sh.rf _)).1, (sm_K.g (kB_0 hS fB_24) (sm_sh.rf _)).2, (Nat.le_of_ble_eq_true rfl)⟩ (Nat.le_of_ble_eq_true rfl) (by decide) (p30_c hS fB_24 c2) (fun vz M2 hz => ?_)
  obtain ⟨hz1, hz2⟩ := hz
  subst hz1
  have hz2 := hz2.symm
  subst hz2
  refine sm_w.run t33 sr33 8 3 (M2 := M) (f2 := (21, [some (.ref 33), some (.ref x1), some (.int (p30_0 M 24 ((iV M 33 1) + (p34_0 M x1))))], [va_rf (sm_rv M 33 0)])) rfl ⟨(Nat.le_of_ble_eq_true rfl), trivial, sm_K.g (k_33 hS) (sm_sh.rf _), trivial⟩ ?_
  refine sm_w.fld (r_33_0 hS) ?_
  refine sm_w.run t33 sr33 11 3 (M2 := M) (f2 := (26, [some (.ref 33), some (.ref x1), some (.int (p30_0 M 24 ((iV M 33 1) + (p34_0 M x1))))], [.int (iV M 33 1), .ref x1, .ref 24])) rfl ⟨trivial, trivial, sm_K.g (k_33 hS) (sm_sh.rf _), trivial⟩ ?_
  refine sm_w.cI t33 sr33 14 (i := 36) (as := [.ref 24, .ref x1, .int (iV M 33 1)]) (g := (26, [some (.ref 33), some (.ref x1), some (.int (p30_0 M 24 ((iV M 33 1) + (p34_0 M x1))))], [])) rfl ⟨by decide, by decide, (Nat.le_of_ble_eq_true rfl), (sm_K.g (kB_0 hS fB_24) (sm_sh.rf _)).1, (sm_K.g (kB_0 hS fB_24) (sm_sh.rf _)).2, (Nat.le_of_ble_eq_true rfl)⟩ (Nat.le_of_ble_eq_true rfl) (by decide) (sm_cI.s (by decide) hS h) (fun v4 M3 h => ?_)
  obtain ⟨hS5, h⟩ := h
  refine sm_w.run t33 sr33 15 1 (M2 := M3) (f2 := (if v4 = 0 then 46 else 32, [some (.ref 33), some (.ref x1), some (.int (p30_0 M 24 ((iV M 33 1) + (p34_0 M x1))))], [])) rfl ⟨trivial, trivial⟩ ?_
  refine sm_w.ite (fun hc => ?_) (fun hc => ?_)
  · have h := h.1 hc
    refine sm_w.run t33 sr33 22 1 (M2 := M3) (f2 := (47, [some (.ref 33), some (.ref x1), some (.int (p30_0 M 24 ((iV M 33 1) + (p34_0 M x1))))], [.int ((0 : Int32))])) rfl ⟨trivial, trivial⟩ ?_
    exact sm_w.end t33 sr33 23 (o := .returned (some (.int ((0 : Int32))))) (M2 := M3) rfl rfl (by decide) (⟨_, rfl, h⟩)
  · have h := h.2 hc
    refine sm_w.run t33 sr33 16 1 (M2 := M3) (f2 := (33, [some (.ref 33), some (.ref x1), some (.int (p30_0 M 24 ((iV M 33 1) + (p34_0 M x1))))], [.int (p30_0 M 24 ((iV M 33 1) + (p34_0 M x1)))])) rfl ⟨trivial, trivial⟩ ?_
    refine sm_w.cI t33 sr33 17 (i := 41) (as := [.int (p30_0 M 24 ((iV M 33 1) + (p34_0 M x1)))]) (g := (33, [some (.ref 33), some (.ref x1), some (.int (p30_0 M 24 ((iV M 33 1) + (p34_0 M x1))))], [])) rfl ⟨(Nat.le_of_ble_eq_true rfl), (Nat.le_of_ble_eq_true rfl)⟩ (Nat.le_of_ble_eq_true rfl) (by decide) (p41_c hS5) (fun vz M2 hz => ?_)
    obtain ⟨hz1, hz2⟩ := hz
    subst hz1
    have hz2 := hz2.symm
    subst hz2
    refine sm_w.run t33 sr33 18 1 (M2 := M3) (f2 := (if (p41_0 M3 (p30_0 M 24 ((iV M 33 1) + (p34_0 M x1)))) = 0 then 39 else 46, [some (.ref 33), some (.ref x1), some (.int (p30_0 M 24 ((iV M 33 1) + (p34_0 M x1))))], [])) rfl ⟨trivial, trivial⟩ ?_
    refine sm_w.ite (fun hc => ?_) (fun hc => ?_)
    · have h := h.1 hc
      refine sm_w.run t33 sr33 19 1 (M2 := M3) (f2 := (40, [some (.ref 33), some (.ref x1), some (.int (p30_0 M 24 ((iV M 33 1) + (p34_0 M x1))))], [.int (p30_0 M 24 ((iV M 33 1) + (p34_0 M x1)))])) rfl ⟨trivial, trivial⟩ ?_
      refine sm_w.cI t33 sr33 20 (i := 42) (as := [.int (p30_0 M 24 ((iV M 33 1) + (p34_0 M x1)))]) (g := (40, [some (.ref 33), some (.ref x1), some (.int (p30_0 M 24 ((iV M 33 1) + (p34_0 M x1))))], [])) rfl ⟨(Nat.le_of_ble_eq_true rfl), (Nat.le_of_ble_eq_true rfl)⟩ (Nat.le_of_ble_eq_true rfl) (by decide) (p42_c hS5) (fun vz M2 hz => ?_)
      obtain ⟨hz1, hz2⟩ := hz
      subst hz1
      have hz2 := hz2.symm
      subst hz2
      refine sm_w.run t33 sr33 21 1 (M2 := M3) (f2 := (if (p42_0 M3 (p30_0 M 24 ((iV M 33 1) + (p34_0 M x1)))) = 0 then 48 else 46, [some (.ref 33), some (.ref x1), some (.int (p30_0 M 24 ((iV M 33 1) + (p34_0 M x1))))], [])) rfl ⟨trivial, trivial⟩ ?_
      refine sm_w.ite (fun hc => ?_) (fun hc => ?_)
      · have h := h.1 hc
        obtain ⟨c6, h⟩ := h
        refine sm_w.run t33 sr33 24 4 (M2 := M3) (f2 := (54, [some (.ref 33), some (.ref x1), some (.int (p30_0 M 24 ((iV M 33 1) + (p34_0 M x1))))], [.ref x1, .int (iV M3 33 1), .ref 33])) rfl ⟨trivial, rfl, sm_K.g (k_33 hS5) (sm_sh.rf _), trivial, trivial⟩ ?_
        refine sm_w.cI t33 sr33 28 (i := 34) (as := [.ref x1]) (g := (54, [some (.ref 33), some (.ref x1), some (.int (p30_0 M 24 ((iV M 33 1) + (p34_0 M x1))))], [.int (iV M3 33 1), .ref 33])) rfl ⟨by decide, by decide, (Nat.le_of_ble_eq_true rfl), (kN hS5 hx1).1, (kN hS5 hx1).2, (Nat.le_of_ble_eq_true rfl)⟩ (Nat.le_of_ble_eq_true rfl) (by decide) (p34_c hS5 hx1 c6) (fun vz M2 hz => ?_)
        obtain ⟨hz1, hz2⟩ := hz
        subst hz1
        have hz2 := hz2.symm
        subst hz2
        refine sm_w.run t33 sr33 29 2 (M2 := sm_wI M3 33 1 ((iV M3 33 1) + (p34_0 M3 x1))) (f2 := (61, [some (.ref 33), some (.ref x1), some (.int (p30_0 M 24 ((iV M 33 1) + (p34_0 M x1))))], [])) rfl ⟨trivial, ⟨(sm_K.p (k_33 hS5) (sm_sh.rf _)).1, (sm_K.p (k_33 hS5) (sm_sh.rf _)).2.1, (sm_K.p (k_33 hS5) (sm_sh.rf _)).2.2, Or.inl rfl⟩, trivial⟩ ?_
        have hS8 : SH (sm_wI M3 33 1 ((iV M3 33 1) + (p34_0 M3 x1))) := SH.wI hS5 _ _ _
        have h := h _ hS8 rfl
        generalize sm_wI M3 33 1 ((iV M3 33 1) + (p34_0 M3 x1)) = M7 at h hS8 ⊢
        refine sm_w.run t33 sr33 31 1 (M2 := M7) (f2 := (62, [some (.ref 33), some (.ref x1), some (.int (p30_0 M 24 ((iV M 33 1) + (p34_0 M x1))))], [.int ((1 : Int32))])) rfl ⟨trivial, trivial⟩ ?_
        exact sm_w.end t33 sr33 32 (o := .returned (some (.int ((1 : Int32))))) (M2 := M7) rfl rfl (by decide) (⟨_, rfl, h⟩)
      · have h := h.2 hc
        refine sm_w.run t33 sr33 22 1 (M2 := M3) (f2 := (47, [some (.ref 33), some (.ref x1), some (.int (p30_0 M 24 ((iV M 33 1) + (p34_0 M x1))))], [.int ((0 : Int32))])) rfl ⟨trivial, trivial⟩ ?_
        exact sm_w.end t33 sr33 23 (o := .returned (some (.int ((0 : Int32))))) (M2 := M3) rfl rfl (by decide) (⟨_, rfl, h⟩)
    · have h := h.2 hc
      refine sm_w.run t33 sr33 22 1 (M2 := M3) (f2 := (47, [some (.ref 33), some (.ref x1), some (.int (p30_0 M 24 ((iV M 33 1) + (p34_0 M x1))))], [.int ((0 : Int32))])) rfl ⟨trivial, trivial⟩ ?_
      exact sm_w.end t33 sr33 23 (o := .returned (some (.int ((0 : Int32))))) (M2 := M3) rfl rfl (by decide) (⟨_, rfl, h⟩)
-- 45 LineSetter$FontReader.breakHere()Z
theorem t45 : sP 45 = (1, sp_45, sh_45) := rfl
theorem sr45 : sm_srt sp_45 = true := by decide +kernel
theorem g45_0 {M : sm_M}  {K : Int32 → sm_M → Prop} (hS : SH M)  (h : ∀ M1, SH M1 → M1 = sm_wI M 33 2 (iV M 33 1) → K (0 : Int32) M1) : sm_w 45 (sm_in sP 45 [.ref 33]) M (rI K) := by
  show sm_w 45 (0, [some (.ref 33)], []) M (rI K)
  refine sm_w.run t45 sr45 0 4 (M2 := sm_wI M 33 2 (iV M 33 1)) (f2 := (8, [some (.ref 33)], [])) rfl ⟨trivial, trivial, sm_K.g (k_33 hS) (sm_sh.rf _), ⟨(sm_K.p (k_33 hS) (sm_sh.rf _)).1, (sm_K.p (k_33 hS) (sm_sh.rf _)).2.1, (sm_K.p (k_33 hS) (sm_sh.rf _)).2.2, Or.inl rfl⟩, trivial⟩ ?_
  have hS2 : SH (sm_wI M 33 2 (iV M 33 1)) := SH.wI hS _ _ _
  have h := h _ hS2 rfl
  generalize sm_wI M 33 2 (iV M 33 1) = M1 at h hS2 ⊢
  refine sm_w.run t45 sr45 4 1 (M2 := M1) (f2 := (9, [some (.ref 33)], [.int ((0 : Int32))])) rfl ⟨trivial, trivial⟩ ?_
  exact sm_w.end t45 sr45 5 (o := .returned (some (.int ((0 : Int32))))) (M2 := M1) rfl rfl (by decide) (⟨_, rfl, h⟩)
-- 44 LineSetter$FontReader.takeByte()I
theorem t44 : sP 44 = (3, sp_44, sh_44) := rfl
theorem sr44 : sm_srt sp_44 = true := by decide +kernel
theorem g44_0 {M : sm_M}  {K : Int32 → sm_M → Prop} (hS : SH M)  (h : sm_cI 29 [.ref 24, .int (iV M 33 1)] M (fun v25 M24 => SH M24 → ∀ M27, SH M27 → M27 = sm_wI M24 33 1 v25 → (q30_0 M27 24 ((iV M27 33 1) + (1 : Int32))) ∧ (q30_0 M27 24 (iV M27 33 1)) ∧ (((p30_0 M27 24 (iV M27 33 1)) = (34 : Int32) → (q30_0 M27 24 ((iV M27 33 1) + (2 : Int32))) ∧ (((p30_0 M27 24 ((iV M27 33 1) + (2 : Int32))) = (34 : Int32) → (((p30_0 M27 24 ((iV M27 33 1) + (1 : Int32))) < (32 : Int32) → ∀ M10, SH M10 → M10 = sm_wI M27 33 2 (iV M27 33 1) → K (-1 : Int32) M10) ∧ (¬ (p30_0 M27 24 ((iV M27 33 1) + (1 : Int32))) < (32 : Int32) → (((126 : Int32) < (p30_0 M27 24 ((iV M27 33 1) + (1 : Int32))) → ∀ M15, SH M15 → M15 = sm_wI M27 33 2 (iV M27 33 1) → K (-1 : Int32) M15) ∧ (¬ (126 : Int32) < (p30_0 M27 24 ((iV M27 33 1) + (1 : Int32))) → (((p30_0 M27 24 ((iV M27 33 1) + (1 : Int32))) = (34 : Int32) → ∀ M20, SH M20 → M20 = sm_wI M27 33 2 (iV M27 33 1) → K (-1 : Int32) M20) ∧ (¬ (p30_0 M27 24 ((iV M27 33 1) + (1 : Int32))) = (34 : Int32) → ∀ M22, SH M22 → M22 = sm_wI M27 33 1 ((iV M27 33 1) + (3 : Int32)) → K (p30_0 M27 24 ((iV M27 33 1) + (1 : Int32))) M22))))))) ∧ (¬ (p30_0 M27 24 ((iV M27 33 1) + (2 : Int32))) = (34 : Int32) → sm_w 44 (56, [some (.ref 33), some (.int (p30_0 M27 24 ((iV M27 33 1) + (1 : Int32)))), none], []) M27 (rI K)))) ∧ (¬ (p30_0 M27 24 (iV M27 33 1)) = (34 : Int32) → sm_w 44 (56, [some (.ref 33), some (.int (p30_0 M27 24 ((iV M27 33 1) + (1 : Int32)))), none], []) M27 (rI K))))) : sm_w 44 (sm_in sP 44 [.ref 33]) M (rI K) := by
  show sm_w 44 (0, [some (.ref 33), none, none], []) M (rI K)
  refine sm_w.run t44 sr44 0 1 (M2 := M) (f2 := (1, [some (.ref 33), none, none], [.ref 33])) rfl ⟨trivial, trivial⟩ ?_
  refine sm_w.cV t44 sr44 1 (i := 28) (as := [.ref 33]) (g := (1, [some (.ref 33), none, none], [])) rfl ⟨by decide, by decide, (Nat.le_of_ble_eq_true rfl), (sm_K.g (k_33 hS) (sm_sh.rf _)).1, (sm_K.g (k_33 hS) (sm_sh.rf _)).2, (Nat.le_of_ble_eq_true rfl)⟩ (Nat.le_of_ble_eq_true rfl) (by decide) (sm_cV.s2 (by decide) hS (g28_0 (K := fun M1 => (q30_0 M1 24 ((iV M1 33 1) + (1 : Int32))) ∧ (q30_0 M1 24 (iV M1 33 1)) ∧ (((p30_0 M1 24 (iV M1 33 1)) = (34 : Int32) → (q30_0 M1 24 ((iV M1 33 1) + (2 : Int32))) ∧ (((p30_0 M1 24 ((iV M1 33 1) + (2 : Int32))) = (34 : Int32) → (((p30_0 M1 24 ((iV M1 33 1) + (1 : Int32))) < (32 : Int32) → ∀ M10, SH M10 → M10 = sm_wI M1 33 2 (iV M1 33 1) → K (-1 : Int32) M10) ∧ (¬ (p30_0 M1 24 ((iV M1 33 1) + (1 : Int32))) < (32 : Int32) → (((126 : Int32) < (p30_0 M1 24 ((iV M1 33 1) + (1 : Int32))) → ∀ M15, SH M15 → M15 = sm_wI M1 33 2 (iV M1 33 1) → K (-1 : Int32) M15) ∧ (¬ (126 : Int32) < (p30_0 M1 24 ((iV M1 33 1) + (1 : Int32))) → (((p30_0 M1 24 ((iV M1 33 1) + (1 : Int32))) = (34 : Int32) → ∀ M20, SH M20 → M20 = sm_wI M1 33 2 (iV M1 33 1) → K (-1 : Int32) M20) ∧ (¬ (p30_0 M1 24 ((iV M1 33 1) + (1 : Int32))) = (34 : Int32) → ∀ M22, SH M22 → M22 = sm_wI M1 33 1 ((iV M1 33 1) + (3 : Int32)) → K (p30_0 M1 24 ((iV M1 33 1) + (1 : Int32))) M22))))))) ∧ (¬ (p30_0 M1 24 ((iV M1 33 1) + (2 : Int32))) = (34 : Int32) → sm_w 44 (56, [some (.ref 33), some (.int (p30_0 M1 24 ((iV M1 33 1) + (1 : Int32)))), none], []) M1 (rI K)))) ∧ (¬ (p30_0 M1 24 (iV M1 33 1)) = (34 : Int32) → sm_w 44 (56, [some (.ref 33), some (.int (p30_0 M1 24 ((iV M1 33 1) + (1 : Int32)))), none], []) M1 (rI K)))) hS h)) (fun M1 h => ?_)
  obtain ⟨hS3, h⟩ := h
  refine sm_w.run t44 sr44 2 2 (M2 := M1) (f2 := (8, [some (.ref 33), none, none], [va_rf (sm_rv M1 33 0)])) rfl ⟨trivial, sm_K.g (k_33 hS3) (sm_sh.rf _), trivial⟩ ?_
  refine sm_w.fld (r_33_0 hS3) ?_
  obtain ⟨c4, h⟩ := h
  refine sm_w.run t44 sr44 4 4 (M2 := M1) (f2 := (14, [some (.ref 33), none, none], [.int ((iV M1 33 1) + (1 : Int32)), .ref 24])) rfl ⟨trivial, sm_K.g (k_33 hS3) (sm_sh.rf _), trivial, trivial, trivial⟩ ?_
  refine sm_w.cI t44 sr44 8 (i := 30) (as := [.ref 24, .int ((iV M1 33 1) + (1 : Int32))]) (g := (14, [some (.ref 33), none, none], [])) rfl ⟨by decide, by decide, (Nat.le_of_ble_eq_true rfl), (sm_K.g (kB_0 hS3 fB_24) (sm_sh.rf _)).1, (sm_K.g (kB_0 hS3 fB_24) (sm_sh.rf _)).2, (Nat.le_of_ble_eq_true rfl)⟩ (Nat.le_of_ble_eq_true rfl) (by decide) (p30_c hS3 fB_24 c4) (fun vz M2 hz => ?_)
  obtain ⟨hz1, hz2⟩ := hz
  subst hz1
  have hz2 := hz2.symm
  subst hz2
  refine sm_w.run t44 sr44 9 3 (M2 := M1) (f2 := (22, [some (.ref 33), some (.int (p30_0 M1 24 ((iV M1 33 1) + (1 : Int32)))), none], [va_rf (sm_rv M1 33 0)])) rfl ⟨(Nat.le_of_ble_eq_true rfl), trivial, sm_K.g (k_33 hS3) (sm_sh.rf _), trivial⟩ ?_
  refine sm_w.fld (r_33_0 hS3) ?_
  obtain ⟨c5, h⟩ := h
  refine sm_w.run t44 sr44 12 2 (M2 := M1) (f2 := (26, [some (.ref 33), some (.int (p30_0 M1 24 ((iV M1 33 1) + (1 : Int32)))), none], [.int (iV M1 33 1), .ref 24])) rfl ⟨trivial, sm_K.g (k_33 hS3) (sm_sh.rf _), trivial⟩ ?_
  refine sm_w.cI t44 sr44 14 (i := 30) (as := [.ref 24, .int (iV M1 33 1)]) (g := (26, [some (.ref 33), some (.int (p30_0 M1 24 ((iV M1 33 1) + (1 : Int32)))), none], [])) rfl ⟨by decide, by decide, (Nat.le_of_ble_eq_true rfl), (sm_K.g (kB_0 hS3 fB_24) (sm_sh.rf _)).1, (sm_K.g (kB_0 hS3 fB_24) (sm_sh.rf _)).2, (Nat.le_of_ble_eq_true rfl)⟩ (Nat.le_of_ble_eq_true rfl) (by decide) (p30_c hS3 fB_24 c5) (fun vz M2 hz => ?_)
  obtain ⟨hz1, hz2⟩ := hz
  subst hz1
  have hz2 := hz2.symm
  subst hz2
  refine sm_w.run t44 sr44 15 2 (M2 := M1) (f2 := (if (p30_0 M1 24 (iV M1 33 1)) = (34 : Int32) then 34 else 56, [some (.ref 33), some (.int (p30_0 M1 24 ((iV M1 33 1) + (1 : Int32)))), none], [])) rfl ⟨trivial, trivial, trivial⟩ ?_
  refine sm_w.ite (fun hc => ?_) (fun hc => ?_)
  · have h := h.1 hc
    refine sm_w.run t44 sr44 17 2 (M2 := M1) (f2 := (38, [some (.ref 33), some (.int (p30_0 M1 24 ((iV M1 33 1) + (1 : Int32)))), none], [va_rf (sm_rv M1 33 0)])) rfl ⟨trivial, sm_K.g (k_33 hS3) (sm_sh.rf _), trivial⟩ ?_
    refine sm_w.fld (r_33_0 hS3) ?_
    obtain ⟨c6, h⟩ := h
    refine sm_w.run t44 sr44 19 4 (M2 := M1) (f2 := (44, [some (.ref 33), some (.int (p30_0 M1 24 ((iV M1 33 1) + (1 : Int32)))), none], [.int ((iV M1 33 1) + (2 : Int32)), .ref 24])) rfl ⟨trivial, sm_K.g (k_33 hS3) (sm_sh.rf _), trivial, trivial, trivial⟩ ?_
    refine sm_w.cI t44 sr44 23 (i := 30) (as := [.ref 24, .int ((iV M1 33 1) + (2 : Int32))]) (g := (44, [some (.ref 33), some (.int (p30_0 M1 24 ((iV M1 33 1) + (1 : Int32)))), none], [])) rfl ⟨by decide, by decide, (Nat.le_of_ble_eq_true rfl), (sm_K.g (kB_0 hS3 fB_24) (sm_sh.rf _)).1, (sm_K.g (kB_0 hS3 fB_24) (sm_sh.rf _)).2, (Nat.le_of_ble_eq_true rfl)⟩ (Nat.le_of_ble_eq_true rfl) (by decide) (p30_c hS3 fB_24 c6) (fun vz M2 hz => ?_)
    obtain ⟨hz1, hz2⟩ := hz
    subst hz1
    have hz2 := hz2.symm
    subst hz2
    refine sm_w.run t44 sr44 24 2 (M2 := M1) (f2 := (if (p30_0 M1 24 ((iV M1 33 1) + (2 : Int32))) = (34 : Int32) then 52 else 56, [some (.ref 33), some (.int (p30_0 M1 24 ((iV M1 33 1) + (1 : Int32)))), none], [])) rfl ⟨trivial, trivial, trivial⟩ ?_
    refine sm_w.ite (fun hc => ?_) (fun hc => ?_)
    · have h := h.1 hc
      refine sm_w.run t44 sr44 26 2 (M2 := M1) (f2 := (57, [some (.ref 33), some (.int (p30_0 M1 24 ((iV M1 33 1) + (1 : Int32)))), none], [.int ((1 : Int32))])) rfl ⟨trivial, trivial, trivial⟩ ?_
      refine sm_w.run t44 sr44 29 3 (M2 := M1) (f2 := (if (1 : Int32) = 0 then 80 else 62, [some (.ref 33), some (.int (p30_0 M1 24 ((iV M1 33 1) + (1 : Int32)))), some (.int ((1 : Int32)))], [])) rfl ⟨(Nat.le_of_ble_eq_true rfl), trivial, trivial, trivial⟩ ?_
      rw [if_neg (by decide)]
      refine sm_w.run t44 sr44 32 3 (M2 := M1) (f2 := (if (p30_0 M1 24 ((iV M1 33 1) + (1 : Int32))) < (32 : Int32) then 80 else 68, [some (.ref 33), some (.int (p30_0 M1 24 ((iV M1 33 1) + (1 : Int32)))), some (.int ((1 : Int32)))], [])) rfl ⟨trivial, trivial, trivial, trivial⟩ ?_
      refine sm_w.ite (fun hc => ?_) (fun hc => ?_)
      · have h := h.1 hc
        refine sm_w.run t44 sr44 41 1 (M2 := M1) (f2 := (81, [some (.ref 33), some (.int (p30_0 M1 24 ((iV M1 33 1) + (1 : Int32)))), some (.int ((1 : Int32)))], [.ref 33])) rfl ⟨trivial, trivial⟩ ?_
        refine sm_w.cI t44 sr44 42 (i := 45) (as := [.ref 33]) (g := (81, [some (.ref 33), some (.int (p30_0 M1 24 ((iV M1 33 1) + (1 : Int32)))), some (.int ((1 : Int32)))], [])) rfl ⟨by decide, by decide, (Nat.le_of_ble_eq_true rfl), (sm_K.g (k_33 hS3) (sm_sh.rf _)).1, (sm_K.g (k_33 hS3) (sm_sh.rf _)).2, (Nat.le_of_ble_eq_true rfl)⟩ (Nat.le_of_ble_eq_true rfl) (by decide) (sm_cI.s2 (by decide) hS3 (g45_0 (K := fun v8 M7 => K (-1 : Int32) M7) hS3 h)) (fun v8 M7 h => ?_)
        obtain ⟨hS9, h⟩ := h
        refine sm_w.run t44 sr44 43 2 (M2 := M7) (f2 := (86, [some (.ref 33), some (.int (p30_0 M1 24 ((iV M1 33 1) + (1 : Int32)))), some (.int ((1 : Int32)))], [.int ((-1 : Int32))])) rfl ⟨rfl, trivial, trivial⟩ ?_
        exact sm_w.end t44 sr44 45 (o := .returned (some (.int ((-1 : Int32))))) (M2 := M7) rfl rfl (by decide) (⟨_, rfl, h⟩)
      · have h := h.2 hc
        refine sm_w.run t44 sr44 35 3 (M2 := M1) (f2 := (if (126 : Int32) < (p30_0 M1 24 ((iV M1 33 1) + (1 : Int32))) then 80 else 74, [some (.ref 33), some (.int (p30_0 M1 24 ((iV M1 33 1) + (1 : Int32)))), some (.int ((1 : Int32)))], [])) rfl ⟨trivial, trivial, trivial, trivial⟩ ?_
        refine sm_w.ite (fun hc => ?_) (fun hc => ?_)
        · have h := h.1 hc
          refine sm_w.run t44 sr44 41 1 (M2 := M1) (f2 := (81, [some (.ref 33), some (.int (p30_0 M1 24 ((iV M1 33 1) + (1 : Int32)))), some (.int ((1 : Int32)))], [.ref 33])) rfl ⟨trivial, trivial⟩ ?_
          refine sm_w.cI t44 sr44 42 (i := 45) (as := [.ref 33]) (g := (81, [some (.ref 33), some (.int (p30_0 M1 24 ((iV M1 33 1) + (1 : Int32)))), some (.int ((1 : Int32)))], [])) rfl ⟨by decide, by decide, (Nat.le_of_ble_eq_true rfl), (sm_K.g (k_33 hS3) (sm_sh.rf _)).1, (sm_K.g (k_33 hS3) (sm_sh.rf _)).2, (Nat.le_of_ble_eq_true rfl)⟩ (Nat.le_of_ble_eq_true rfl) (by decide) (sm_cI.s2 (by decide) hS3 (g45_0 (K := fun v13 M12 => K (-1 : Int32) M12) hS3 h)) (fun v13 M12 h => ?_)
          obtain ⟨hS14, h⟩ := h
          refine sm_w.run t44 sr44 43 2 (M2 := M12) (f2 := (86, [some (.ref 33), some (.int (p30_0 M1 24 ((iV M1 33 1) + (1 : Int32)))), some (.int ((1 : Int32)))], [.int ((-1 : Int32))])) rfl ⟨rfl, trivial, trivial⟩ ?_
          exact sm_w.end t44 sr44 45 (o := .returned (some (.int ((-1 : Int32))))) (M2 := M12) rfl rfl (by decide) (⟨_, rfl, h⟩)
        · have h := h.2 hc
          refine sm_w.run t44 sr44 38 3 (M2 := M1) (f2 := (if (p30_0 M1 24 ((iV M1 33 1) + (1 : Int32))) = (34 : Int32) then 80 else 87, [some (.ref 33), some (.int (p30_0 M1 24 ((iV M1 33 1) + (1 : Int32)))), some (.int ((1 : Int32)))], [])) rfl ⟨trivial, trivial, trivial, trivial⟩ ?_
          refine sm_w.ite (fun hc => ?_) (fun hc => ?_)
          · have h := h.1 hc
            refine sm_w.run t44 sr44 41 1 (M2 := M1) (f2 := (81, [some (.ref 33), some (.int (p30_0 M1 24 ((iV M1 33 1) + (1 : Int32)))), some (.int ((1 : Int32)))], [.ref 33])) rfl ⟨trivial, trivial⟩ ?_
            refine sm_w.cI t44 sr44 42 (i := 45) (as := [.ref 33]) (g := (81, [some (.ref 33), some (.int (p30_0 M1 24 ((iV M1 33 1) + (1 : Int32)))), some (.int ((1 : Int32)))], [])) rfl ⟨by decide, by decide, (Nat.le_of_ble_eq_true rfl), (sm_K.g (k_33 hS3) (sm_sh.rf _)).1, (sm_K.g (k_33 hS3) (sm_sh.rf _)).2, (Nat.le_of_ble_eq_true rfl)⟩ (Nat.le_of_ble_eq_true rfl) (by decide) (sm_cI.s2 (by decide) hS3 (g45_0 (K := fun v18 M17 => K (-1 : Int32) M17) hS3 h)) (fun v18 M17 h => ?_)
            obtain ⟨hS19, h⟩ := h
            refine sm_w.run t44 sr44 43 2 (M2 := M17) (f2 := (86, [some (.ref 33), some (.int (p30_0 M1 24 ((iV M1 33 1) + (1 : Int32)))), some (.int ((1 : Int32)))], [.int ((-1 : Int32))])) rfl ⟨rfl, trivial, trivial⟩ ?_
            exact sm_w.end t44 sr44 45 (o := .returned (some (.int ((-1 : Int32))))) (M2 := M17) rfl rfl (by decide) (⟨_, rfl, h⟩)
          · have h := h.2 hc
            refine sm_w.run t44 sr44 46 6 (M2 := sm_wI M1 33 1 ((iV M1 33 1) + (3 : Int32))) (f2 := (97, [some (.ref 33), some (.int (p30_0 M1 24 ((iV M1 33 1) + (1 : Int32)))), some (.int ((1 : Int32)))], [])) rfl ⟨trivial, rfl, sm_K.g (k_33 hS3) (sm_sh.rf _), trivial, trivial, ⟨(sm_K.p (k_33 hS3) (sm_sh.rf _)).1, (sm_K.p (k_33 hS3) (sm_sh.rf _)).2.1, (sm_K.p (k_33 hS3) (sm_sh.rf _)).2.2, Or.inl rfl⟩, trivial⟩ ?_
            have hS23 : SH (sm_wI M1 33 1 ((iV M1 33 1) + (3 : Int32))) := SH.wI hS3 _ _ _
            have h := h _ hS23 rfl
            generalize sm_wI M1 33 1 ((iV M1 33 1) + (3 : Int32)) = M22 at h hS23 ⊢
            refine sm_w.run t44 sr44 52 1 (M2 := M22) (f2 := (98, [some (.ref 33), some (.int (p30_0 M1 24 ((iV M1 33 1) + (1 : Int32)))), some (.int ((1 : Int32)))], [.int (p30_0 M1 24 ((iV M1 33 1) + (1 : Int32)))])) rfl ⟨trivial, trivial⟩ ?_
            exact sm_w.end t44 sr44 53 (o := .returned (some (.int (p30_0 M1 24 ((iV M1 33 1) + (1 : Int32)))))) (M2 := M22) rfl rfl (by decide) (⟨_, rfl, h⟩)
    · have h := h.2 hc
      exact h
  · have h := h.2 hc
    exact h
theorem g44_1 {M : sm_M} {x1 : Int32} {K : Int32 → sm_M → Prop} (hS : SH M)  (h : ∀ M4, SH M4 → M4 = sm_wI M 33 2 (iV M 33 1) → K (-1 : Int32) M4) : sm_w 44 (56, [some (.ref 33), some (.int (x1)), none], []) M (rI K) := by
  refine sm_w.run t44 sr44 28 4 (M2 := M) (f2 := (if (0 : Int32) = 0 then 80 else 62, [some (.ref 33), some (.int (x1)), some (.int ((0 : Int32)))], [])) rfl ⟨trivial, (Nat.le_of_ble_eq_true rfl), trivial, trivial, trivial⟩ ?_
  rw [if_pos (by decide)]
  refine sm_w.run t44 sr44 41 1 (M2 := M) (f2 := (81, [some (.ref 33), some (.int (x1)), some (.int ((0 : Int32)))], [.ref 33])) rfl ⟨trivial, trivial⟩ ?_
  refine sm_w.cI t44 sr44 42 (i := 45) (as := [.ref 33]) (g := (81, [some (.ref 33), some (.int (x1)), some (.int ((0 : Int32)))], [])) rfl ⟨by decide, by decide, (Nat.le_of_ble_eq_true rfl), (sm_K.g (k_33 hS) (sm_sh.rf _)).1, (sm_K.g (k_33 hS) (sm_sh.rf _)).2, (Nat.le_of_ble_eq_true rfl)⟩ (Nat.le_of_ble_eq_true rfl) (by decide) (sm_cI.s2 (by decide) hS (g45_0 (K := fun v2 M1 => K (-1 : Int32) M1) hS h)) (fun v2 M1 h => ?_)
  obtain ⟨hS3, h⟩ := h
  refine sm_w.run t44 sr44 43 2 (M2 := M1) (f2 := (86, [some (.ref 33), some (.int (x1)), some (.int ((0 : Int32)))], [.int ((-1 : Int32))])) rfl ⟨rfl, trivial, trivial⟩ ?_
  exact sm_w.end t44 sr44 45 (o := .returned (some (.int ((-1 : Int32))))) (M2 := M1) rfl rfl (by decide) (⟨_, rfl, h⟩)
