/-! METHODS by their segments. -/
-- 30 LineSetter$Bytes.byteAt(I)I
theorem t30 : sP 30 = (2, sp_30, sh_30) := rfl
theorem sr30 : sm_srt sp_30 = true := by decide +kernel
theorem g30_0 {M : sm_M} {x0 : Nat} {x1 : Int32} {K : Int32 → sm_M → Prop} (hS : SH M) (hx0 : fB x0) (h : ((x1 < 0 → K (-1 : Int32) M) ∧ (¬ x1 < 0 → (((iV M x0 1) ≤ x1 → K (-1 : Int32) M) ∧ (¬ (iV M x0 1) ≤ x1 → (((Int32.ofNat (cB x0)) ≤ x1 → K (-1 : Int32) M) ∧ (¬ (Int32.ofNat (cB x0)) ≤ x1 → (vp_in x1 (cB x0)) ∧ K ((iV M (x0 + 1) x1.toNatClampNeg) &&& (255 : Int32)) M))))))) : sm_w 30 (sm_in sP 30 [.ref x0, .int (x1)]) M (rI K) := by
  show sm_w 30 (0, [some (.ref x0), some (.int (x1))], []) M (rI K)
  refine sm_w.run t30 sr30 0 2 (M2 := M) (f2 := (if x1 < 0 then 34 else 4, [some (.ref x0), some (.int (x1))], [])) rfl ⟨trivial, trivial, trivial⟩ ?_
  refine sm_w.ite (fun hc => ?_) (fun hc => ?_)
  · have h := h.1 hc
    refine sm_w.run t30 sr30 18 1 (M2 := M) (f2 := (35, [some (.ref x0), some (.int (x1))], [.int ((-1 : Int32))])) rfl ⟨trivial, trivial⟩ ?_
    exact sm_w.end t30 sr30 19 (o := .returned (some (.int ((-1 : Int32))))) (M2 := M) rfl rfl (by decide) (⟨_, rfl, h⟩)
  · have h := h.2 hc
    refine sm_w.run t30 sr30 2 4 (M2 := M) (f2 := (if (iV M x0 1) ≤ x1 then 34 else 12, [some (.ref x0), some (.int (x1))], [])) rfl ⟨trivial, trivial, sm_K.g (kB_0 hS hx0) (sm_sh.rf _), trivial, trivial⟩ ?_
    refine sm_w.ite (fun hc => ?_) (fun hc => ?_)
    · have h := h.1 hc
      refine sm_w.run t30 sr30 18 1 (M2 := M) (f2 := (35, [some (.ref x0), some (.int (x1))], [.int ((-1 : Int32))])) rfl ⟨trivial, trivial⟩ ?_
      exact sm_w.end t30 sr30 19 (o := .returned (some (.int ((-1 : Int32))))) (M2 := M) rfl rfl (by decide) (⟨_, rfl, h⟩)
    · have h := h.2 hc
      refine sm_w.run t30 sr30 6 3 (M2 := M) (f2 := (17, [some (.ref x0), some (.int (x1))], [va_rf (sm_rv M x0 0), .int (x1)])) rfl ⟨trivial, trivial, sm_K.g (kB_0 hS hx0) (sm_sh.rf _), trivial⟩ ?_
      refine sm_w.fld (rB_0 hS hx0) ?_
      refine sm_w.run t30 sr30 9 1 (M2 := M) (f2 := (18, [some (.ref x0), some (.int (x1))], [.int (Int32.ofNat (sm_ln M (x0 + 1))), .int (x1)])) rfl ⟨sm_K.l (kB_1 hS hx0) (sm_sh.rf _) (by decide), trivial⟩ ?_
      refine sm_w.aln (lB_1 hS hx0) ?_
      refine sm_w.run t30 sr30 10 1 (M2 := M) (f2 := (if (Int32.ofNat (cB x0)) ≤ x1 then 34 else 21, [some (.ref x0), some (.int (x1))], [])) rfl ⟨trivial, trivial⟩ ?_
      refine sm_w.ite (fun hc => ?_) (fun hc => ?_)
      · have h := h.1 hc
        refine sm_w.run t30 sr30 18 1 (M2 := M) (f2 := (35, [some (.ref x0), some (.int (x1))], [.int ((-1 : Int32))])) rfl ⟨trivial, trivial⟩ ?_
        exact sm_w.end t30 sr30 19 (o := .returned (some (.int ((-1 : Int32))))) (M2 := M) rfl rfl (by decide) (⟨_, rfl, h⟩)
      · have h := h.2 hc
        refine sm_w.run t30 sr30 11 2 (M2 := M) (f2 := (25, [some (.ref x0), some (.int (x1))], [va_rf (sm_rv M x0 0)])) rfl ⟨trivial, sm_K.g (kB_0 hS hx0) (sm_sh.rf _), trivial⟩ ?_
        refine sm_w.fld (rB_0 hS hx0) ?_
        obtain ⟨c1, h⟩ := h
        refine sm_w.run t30 sr30 13 5 (M2 := M) (f2 := (35, [some (.ref x0), some (.int (x1))], [.int ((iV M (x0 + 1) x1.toNatClampNeg) &&& (255 : Int32))])) rfl ⟨trivial, sm_K.a2 (kB_1 hS hx0) (lB_1 hS hx0) c1, trivial, trivial, trivial, trivial⟩ ?_
        exact sm_w.end t30 sr30 19 (o := .returned (some (.int ((iV M (x0 + 1) x1.toNatClampNeg) &&& (255 : Int32))))) (M2 := M) rfl rfl (by decide) (⟨_, rfl, h⟩)
def p30_0 (M : sm_M) (x0 : Nat) (x1 : Int32) : Int32 := if x1 < 0 then (-1 : Int32) else (if (iV M x0 1) ≤ x1 then (-1 : Int32) else (if (Int32.ofNat (cB x0)) ≤ x1 then (-1 : Int32) else ((iV M (x0 + 1) x1.toNatClampNeg) &&& (255 : Int32))))
def q30_0 (M : sm_M) (x0 : Nat) (x1 : Int32) : Prop := ((x1 < 0 → True) ∧ (¬ x1 < 0 → (((iV M x0 1) ≤ x1 → True) ∧ (¬ (iV M x0 1) ≤ x1 → (((Int32.ofNat (cB x0)) ≤ x1 → True) ∧ (¬ (Int32.ofNat (cB x0)) ≤ x1 → (vp_in x1 (cB x0))))))))
theorem p30_c {M : sm_M} {x0 : Nat} {x1 : Int32} (hS : SH M) (hx0 : fB x0) (hq : q30_0 M x0 x1) : sm_cI 30 [.ref x0, .int (x1)] M (fun v M2 => v = p30_0 M x0 x1 ∧ M2 = M) := by
  refine g30_0 (K := (fun v M2 => v = p30_0 M x0 x1 ∧ M2 = M)) hS hx0 ?_
  unfold q30_0 at hq
  refine ⟨fun e1 => ?_, fun e1 => ?_⟩
  · refine ⟨?_, rfl⟩
    unfold p30_0
    rw [if_pos e1]
  · have hq := hq.2 e1
    refine ⟨fun e2 => ?_, fun e2 => ?_⟩
    · refine ⟨?_, rfl⟩
      unfold p30_0
      rw [if_neg e1, if_pos e2]
    · have hq := hq.2 e2
      refine ⟨fun e3 => ?_, fun e3 => ?_⟩
      · refine ⟨?_, rfl⟩
        unfold p30_0
        rw [if_neg e1, if_neg e2, if_pos e3]
      · have hq := hq.2 e3
        have d4 := hq
        refine ⟨d4, ?_⟩
        refine ⟨?_, rfl⟩
        unfold p30_0
        rw [if_neg e1, if_neg e2, if_neg e3]
-- 31 LineSetter.isBlank(I)Z
theorem t31 : sP 31 = (1, sp_31, sh_31) := rfl
theorem sr31 : sm_srt sp_31 = true := by decide +kernel
theorem g31_0 {M : sm_M} {x0 : Int32} {K : Int32 → sm_M → Prop} (hS : SH M)  (h : ((x0 = (10 : Int32) → K (1 : Int32) M) ∧ (¬ x0 = (10 : Int32) → ((x0 = (32 : Int32) → K (1 : Int32) M) ∧ (¬ x0 = (32 : Int32) → K (0 : Int32) M))))) : sm_w 31 (sm_in sP 31 [.int (x0)]) M (rI K) := by
  show sm_w 31 (0, [some (.int (x0))], []) M (rI K)
  refine sm_w.run t31 sr31 0 3 (M2 := M) (f2 := (if x0 = (10 : Int32) then 12 else 6, [some (.int (x0))], [])) rfl ⟨trivial, trivial, trivial, trivial⟩ ?_
  refine sm_w.ite (fun hc => ?_) (fun hc => ?_)
  · have h := h.1 hc
    refine sm_w.run t31 sr31 6 2 (M2 := M) (f2 := (17, [some (.int (x0))], [.int ((1 : Int32))])) rfl ⟨trivial, trivial, trivial⟩ ?_
    exact sm_w.end t31 sr31 9 (o := .returned (some (.int ((1 : Int32))))) (M2 := M) rfl rfl (by decide) (⟨_, rfl, h⟩)
  · have h := h.2 hc
    refine sm_w.run t31 sr31 3 3 (M2 := M) (f2 := (if x0 = (32 : Int32) then 12 else 16, [some (.int (x0))], [])) rfl ⟨trivial, trivial, trivial, trivial⟩ ?_
    refine sm_w.ite (fun hc => ?_) (fun hc => ?_)
    · have h := h.1 hc
      refine sm_w.run t31 sr31 6 2 (M2 := M) (f2 := (17, [some (.int (x0))], [.int ((1 : Int32))])) rfl ⟨trivial, trivial, trivial⟩ ?_
      exact sm_w.end t31 sr31 9 (o := .returned (some (.int ((1 : Int32))))) (M2 := M) rfl rfl (by decide) (⟨_, rfl, h⟩)
    · have h := h.2 hc
      refine sm_w.run t31 sr31 8 1 (M2 := M) (f2 := (17, [some (.int (x0))], [.int ((0 : Int32))])) rfl ⟨trivial, trivial⟩ ?_
      exact sm_w.end t31 sr31 9 (o := .returned (some (.int ((0 : Int32))))) (M2 := M) rfl rfl (by decide) (⟨_, rfl, h⟩)
def p31_0 (M : sm_M) (x0 : Int32) : Int32 := if x0 = (10 : Int32) then (1 : Int32) else (if x0 = (32 : Int32) then (1 : Int32) else (0 : Int32))
theorem p31_c {M : sm_M} {x0 : Int32} (hS : SH M)  : sm_cI 31 [.int (x0)] M (fun v M2 => v = p31_0 M x0 ∧ M2 = M) := by
  refine g31_0 (K := (fun v M2 => v = p31_0 M x0 ∧ M2 = M)) hS ?_
  refine ⟨fun e1 => ?_, fun e1 => ?_⟩
  · refine ⟨?_, rfl⟩
    unfold p31_0
    rw [if_pos e1]
  · refine ⟨fun e2 => ?_, fun e2 => ?_⟩
    · refine ⟨?_, rfl⟩
      unfold p31_0
      rw [if_neg e1, if_pos e2]
    · refine ⟨?_, rfl⟩
      unfold p31_0
      rw [if_neg e1, if_neg e2]
-- 29 LineSetter$Bytes.behindBlanks(I)I
theorem t29 : sP 29 = (3, sp_29, sh_29) := rfl
theorem sr29 : sm_srt sp_29 = true := by decide +kernel
theorem g29_0 {M : sm_M} {x0 : Nat} {x1 : Int32} {K : Int32 → sm_M → Prop} (hS : SH M) (hx0 : fB x0) (h : sm_w 29 (2, [some (.ref x0), none, some (.int (x1))], []) M (rI K)) : sm_w 29 (sm_in sP 29 [.ref x0, .int (x1)]) M (rI K) := by
  show sm_w 29 (0, [some (.ref x0), some (.int (x1)), none], []) M (rI K)
  refine sm_w.run t29 sr29 0 2 (M2 := M) (f2 := (2, [some (.ref x0), some (.int (x1)), some (.int (x1))], [])) rfl ⟨trivial, (Nat.le_of_ble_eq_true rfl), trivial⟩ ?_
  refine sm_w.weak (ls := [some (.ref x0), none, some (.int (x1))]) (sm_leI [true, false, true] rfl) ?_
  exact h
theorem g29_1 {M : sm_M} {x0 : Nat} {x2 : Int32} {K : Int32 → sm_M → Prop} (hS : SH M) (hx0 : fB x0) (h : (((iV M x0 1) ≤ x2 → K x2 M) ∧ (¬ (iV M x0 1) ≤ x2 → (q30_0 M x0 x2) ∧ (((p31_0 M (p30_0 M x0 x2)) = 0 → K x2 M) ∧ (¬ (p31_0 M (p30_0 M x0 x2)) = 0 → sm_w 29 (2, [some (.ref x0), none, some (.int (x2 + (1 : Int32)))], []) M (rI K)))))) : sm_w 29 (2, [some (.ref x0), none, some (.int (x2))], []) M (rI K) := by
  refine sm_w.run t29 sr29 2 4 (M2 := M) (f2 := (if (iV M x0 1) ≤ x2 then 27 else 10, [some (.ref x0), none, some (.int (x2))], [])) rfl ⟨trivial, trivial, sm_K.g (kB_0 hS hx0) (sm_sh.rf _), trivial, trivial⟩ ?_
  refine sm_w.ite (fun hc => ?_) (fun hc => ?_)
  · have h := h.1 hc
    refine sm_w.run t29 sr29 13 1 (M2 := M) (f2 := (28, [some (.ref x0), none, some (.int (x2))], [.int (x2)])) rfl ⟨trivial, trivial⟩ ?_
    exact sm_w.end t29 sr29 14 (o := .returned (some (.int (x2)))) (M2 := M) rfl rfl (by decide) (⟨_, rfl, h⟩)
  · have h := h.2 hc
    obtain ⟨c1, h⟩ := h
    refine sm_w.run t29 sr29 6 2 (M2 := M) (f2 := (12, [some (.ref x0), none, some (.int (x2))], [.int (x2), .ref x0])) rfl ⟨trivial, trivial, trivial⟩ ?_
    refine sm_w.cI t29 sr29 8 (i := 30) (as := [.ref x0, .int (x2)]) (g := (12, [some (.ref x0), none, some (.int (x2))], [])) rfl ⟨by decide, by decide, (Nat.le_of_ble_eq_true rfl), (sm_K.g (kB_0 hS hx0) (sm_sh.rf _)).1, (sm_K.g (kB_0 hS hx0) (sm_sh.rf _)).2, (Nat.le_of_ble_eq_true rfl)⟩ (Nat.le_of_ble_eq_true rfl) (by decide) (p30_c hS hx0 c1) (fun vz M2 hz => ?_)
    obtain ⟨hz1, hz2⟩ := hz
    subst hz1
    subst hz2
    refine sm_w.cI t29 sr29 9 (i := 31) (as := [.int (p30_0 M x0 x2)]) (g := (15, [some (.ref x0), none, some (.int (x2))], [])) rfl ⟨(Nat.le_of_ble_eq_true rfl), (Nat.le_of_ble_eq_true rfl)⟩ (Nat.le_of_ble_eq_true rfl) (by decide) (p31_c hS) (fun vz M2 hz => ?_)
    obtain ⟨hz1, hz2⟩ := hz
    subst hz1
    subst hz2
    refine sm_w.run t29 sr29 10 1 (M2 := M) (f2 := (if (p31_0 M (p30_0 M x0 x2)) = 0 then 27 else 21, [some (.ref x0), none, some (.int (x2))], [])) rfl ⟨trivial, trivial⟩ ?_
    refine sm_w.ite (fun hc => ?_) (fun hc => ?_)
    · have h := h.1 hc
      refine sm_w.run t29 sr29 13 1 (M2 := M) (f2 := (28, [some (.ref x0), none, some (.int (x2))], [.int (x2)])) rfl ⟨trivial, trivial⟩ ?_
      exact sm_w.end t29 sr29 14 (o := .returned (some (.int (x2)))) (M2 := M) rfl rfl (by decide) (⟨_, rfl, h⟩)
    · have h := h.2 hc
      refine sm_w.run t29 sr29 11 2 (M2 := M) (f2 := (2, [some (.ref x0), none, some (.int (x2 + (1 : Int32)))], [])) rfl ⟨(Nat.le_of_ble_eq_true rfl), trivial, trivial⟩ ?_
      exact h
-- 20 LineSetter$Bytes.add(I)V
theorem t20 : sP 20 = (2, sp_20, sh_20) := rfl
theorem sr20 : sm_srt sp_20 = true := by decide +kernel
theorem g20_0 {M : sm_M} {x0 : Nat} {x1 : Int32} {K : sm_M → Prop} (hS : SH M) (hx0 : fB x0) (h : (((iV M x0 1) < 0 → K M) ∧ (¬ (iV M x0 1) < 0 → (((Int32.ofNat (cB x0)) ≤ (iV M x0 1) → K M) ∧ (¬ (Int32.ofNat (cB x0)) ≤ (iV M x0 1) → (vp_in (iV M x0 1) (cB x0)) ∧ ∀ M2, SH M2 → M2 = sm_wI M (x0 + 1) (iV M x0 1).toNatClampNeg x1.toInt8.toInt32.toInt8.toInt32 → ∀ M4, SH M4 → M4 = sm_wI M2 x0 1 ((iV M2 x0 1) + (1 : Int32)) → K M4))))) : sm_w 20 (sm_in sP 20 [.ref x0, .int (x1)]) M (rV K) := by
  show sm_w 20 (0, [some (.ref x0), some (.int (x1))], []) M (rV K)
  refine sm_w.run t20 sr20 0 3 (M2 := M) (f2 := (if (iV M x0 1) < 0 then 40 else 7, [some (.ref x0), some (.int (x1))], [])) rfl ⟨trivial, sm_K.g (kB_0 hS hx0) (sm_sh.rf _), trivial, trivial⟩ ?_
  refine sm_w.ite (fun hc => ?_) (fun hc => ?_)
  · have h := h.1 hc
    exact sm_w.end t20 sr20 22 (o := .returned none) (M2 := M) rfl trivial (by decide) (⟨rfl, h⟩)
  · have h := h.2 hc
    refine sm_w.run t20 sr20 3 4 (M2 := M) (f2 := (15, [some (.ref x0), some (.int (x1))], [va_rf (sm_rv M x0 0), .int (iV M x0 1)])) rfl ⟨trivial, sm_K.g (kB_0 hS hx0) (sm_sh.rf _), trivial, sm_K.g (kB_0 hS hx0) (sm_sh.rf _), trivial⟩ ?_
    refine sm_w.fld (rB_0 hS hx0) ?_
    refine sm_w.run t20 sr20 7 1 (M2 := M) (f2 := (16, [some (.ref x0), some (.int (x1))], [.int (Int32.ofNat (sm_ln M (x0 + 1))), .int (iV M x0 1)])) rfl ⟨sm_K.l (kB_1 hS hx0) (sm_sh.rf _) (by decide), trivial⟩ ?_
    refine sm_w.aln (lB_1 hS hx0) ?_
    refine sm_w.run t20 sr20 8 1 (M2 := M) (f2 := (if (Int32.ofNat (cB x0)) ≤ (iV M x0 1) then 40 else 19, [some (.ref x0), some (.int (x1))], [])) rfl ⟨trivial, trivial⟩ ?_
    refine sm_w.ite (fun hc => ?_) (fun hc => ?_)
    · have h := h.1 hc
      exact sm_w.end t20 sr20 22 (o := .returned none) (M2 := M) rfl trivial (by decide) (⟨rfl, h⟩)
    · have h := h.2 hc
      refine sm_w.run t20 sr20 9 2 (M2 := M) (f2 := (23, [some (.ref x0), some (.int (x1))], [va_rf (sm_rv M x0 0)])) rfl ⟨trivial, sm_K.g (kB_0 hS hx0) (sm_sh.rf _), trivial⟩ ?_
      refine sm_w.fld (rB_0 hS hx0) ?_
      obtain ⟨c1, h⟩ := h
      refine sm_w.run t20 sr20 11 5 (M2 := sm_wI M (x0 + 1) (iV M x0 1).toNatClampNeg x1.toInt8.toInt32.toInt8.toInt32) (f2 := (30, [some (.ref x0), some (.int (x1))], [])) rfl ⟨trivial, sm_K.g (kB_0 hS hx0) (sm_sh.rf _), trivial, trivial, sm_K.s2 (kB_1 hS hx0) (lB_1 hS hx0) c1, trivial⟩ ?_
      have hS3 : SH (sm_wI M (x0 + 1) (iV M x0 1).toNatClampNeg x1.toInt8.toInt32.toInt8.toInt32) := SH.wI hS _ _ _
      have h := h _ hS3 rfl
      generalize sm_wI M (x0 + 1) (iV M x0 1).toNatClampNeg x1.toInt8.toInt32.toInt8.toInt32 = M2 at h hS3 ⊢
      refine sm_w.run t20 sr20 16 6 (M2 := sm_wI M2 x0 1 ((iV M2 x0 1) + (1 : Int32))) (f2 := (40, [some (.ref x0), some (.int (x1))], [])) rfl ⟨trivial, rfl, sm_K.g (kB_0 hS3 hx0) (sm_sh.rf _), trivial, trivial, ⟨(sm_K.p (kB_0 hS3 hx0) (sm_sh.rf _)).1, (sm_K.p (kB_0 hS3 hx0) (sm_sh.rf _)).2.1, (sm_K.p (kB_0 hS3 hx0) (sm_sh.rf _)).2.2, Or.inl rfl⟩, trivial⟩ ?_
      have hS5 : SH (sm_wI M2 x0 1 ((iV M2 x0 1) + (1 : Int32))) := SH.wI hS3 _ _ _
      have h := h _ hS5 rfl
      generalize sm_wI M2 x0 1 ((iV M2 x0 1) + (1 : Int32)) = M4 at h hS5 ⊢
      exact sm_w.end t20 sr20 22 (o := .returned none) (M2 := M4) rfl trivial (by decide) (⟨rfl, h⟩)
-- 19 LineSetter$Bytes.addInt(I)V
theorem t19 : sP 19 = (2, sp_19, sh_19) := rfl
theorem sr19 : sm_srt sp_19 = true := by decide +kernel
theorem g19_0 {M : sm_M} {x0 : Nat} {x1 : Int32} {K : sm_M → Prop} (hS : SH M) (hx0 : fB x0) (h : sm_cV 20 [.ref x0, .int (x1 >>> ((24 : Int32) &&& 31))] M (fun M1 => SH M1 → sm_cV 20 [.ref x0, .int (x1 >>> ((16 : Int32) &&& 31))] M1 (fun M4 => SH M4 → sm_cV 20 [.ref x0, .int (x1 >>> ((8 : Int32) &&& 31))] M4 (fun M7 => SH M7 → sm_cV 20 [.ref x0, .int (x1)] M7 (fun M10 => SH M10 → K M10))))) : sm_w 19 (sm_in sP 19 [.ref x0, .int (x1)]) M (rV K) := by
  show sm_w 19 (0, [some (.ref x0), some (.int (x1))], []) M (rV K)
  refine sm_w.run t19 sr19 0 4 (M2 := M) (f2 := (5, [some (.ref x0), some (.int (x1))], [.int (x1 >>> ((24 : Int32) &&& 31)), .ref x0])) rfl ⟨trivial, trivial, trivial, trivial, trivial⟩ ?_
  refine sm_w.cV t19 sr19 4 (i := 20) (as := [.ref x0, .int (x1 >>> ((24 : Int32) &&& 31))]) (g := (5, [some (.ref x0), some (.int (x1))], [])) rfl ⟨by decide, by decide, (Nat.le_of_ble_eq_true rfl), (sm_K.g (kB_0 hS hx0) (sm_sh.rf _)).1, (sm_K.g (kB_0 hS hx0) (sm_sh.rf _)).2, (Nat.le_of_ble_eq_true rfl)⟩ (Nat.le_of_ble_eq_true rfl) (by decide) (sm_cV.s (by decide) hS h) (fun M1 h => ?_)
  obtain ⟨hS3, h⟩ := h
  refine sm_w.run t19 sr19 5 4 (M2 := M1) (f2 := (13, [some (.ref x0), some (.int (x1))], [.int (x1 >>> ((16 : Int32) &&& 31)), .ref x0])) rfl ⟨trivial, trivial, trivial, trivial, trivial⟩ ?_
  refine sm_w.cV t19 sr19 9 (i := 20) (as := [.ref x0, .int (x1 >>> ((16 : Int32) &&& 31))]) (g := (13, [some (.ref x0), some (.int (x1))], [])) rfl ⟨by decide, by decide, (Nat.le_of_ble_eq_true rfl), (sm_K.g (kB_0 hS3 hx0) (sm_sh.rf _)).1, (sm_K.g (kB_0 hS3 hx0) (sm_sh.rf _)).2, (Nat.le_of_ble_eq_true rfl)⟩ (Nat.le_of_ble_eq_true rfl) (by decide) (sm_cV.s (by decide) hS3 h) (fun M4 h => ?_)
  obtain ⟨hS6, h⟩ := h
  refine sm_w.run t19 sr19 10 4 (M2 := M4) (f2 := (21, [some (.ref x0), some (.int (x1))], [.int (x1 >>> ((8 : Int32) &&& 31)), .ref x0])) rfl ⟨trivial, trivial, trivial, trivial, trivial⟩ ?_
  refine sm_w.cV t19 sr19 14 (i := 20) (as := [.ref x0, .int (x1 >>> ((8 : Int32) &&& 31))]) (g := (21, [some (.ref x0), some (.int (x1))], [])) rfl ⟨by decide, by decide, (Nat.le_of_ble_eq_true rfl), (sm_K.g (kB_0 hS6 hx0) (sm_sh.rf _)).1, (sm_K.g (kB_0 hS6 hx0) (sm_sh.rf _)).2, (Nat.le_of_ble_eq_true rfl)⟩ (Nat.le_of_ble_eq_true rfl) (by decide) (sm_cV.s (by decide) hS6 h) (fun M7 h => ?_)
  obtain ⟨hS9, h⟩ := h
  refine sm_w.run t19 sr19 15 2 (M2 := M7) (f2 := (26, [some (.ref x0), some (.int (x1))], [.int (x1), .ref x0])) rfl ⟨trivial, trivial, trivial⟩ ?_
  refine sm_w.cV t19 sr19 17 (i := 20) (as := [.ref x0, .int (x1)]) (g := (26, [some (.ref x0), some (.int (x1))], [])) rfl ⟨by decide, by decide, (Nat.le_of_ble_eq_true rfl), (sm_K.g (kB_0 hS9 hx0) (sm_sh.rf _)).1, (sm_K.g (kB_0 hS9 hx0) (sm_sh.rf _)).2, (Nat.le_of_ble_eq_true rfl)⟩ (Nat.le_of_ble_eq_true rfl) (by decide) (sm_cV.s (by decide) hS9 h) (fun M10 h => ?_)
  obtain ⟨hS12, h⟩ := h
  exact sm_w.end t19 sr19 18 (o := .returned none) (M2 := M10) rfl trivial (by decide) (⟨rfl, h⟩)
-- 18 LineSetter.feed(IIIII)I
theorem t18 : sP 18 = (6, sp_18, sh_18) := rfl
theorem sr18 : sm_srt sp_18 = true := by decide +kernel
theorem g18_0 {M : sm_M} {x1 : Int32} {x2 : Int32} {x3 : Int32} {x4 : Int32} {x5 : Int32} {K : Int32 → sm_M → Prop} {X : Nat → sm_M → Prop} (hS : SH M)  (h : ((((iV M 24 1) + (20 : Int32)) ≤ (8192 : Int32) → sm_cV 19 [.ref 24, .int (x1)] M (fun M1 => SH M1 → sm_cV 19 [.ref 24, .int (x2)] M1 (fun M4 => SH M4 → sm_cV 19 [.ref 24, .int (x3)] M4 (fun M7 => SH M7 → sm_cV 19 [.ref 24, .int (x4)] M7 (fun M10 => SH M10 → sm_cV 19 [.ref 24, .int (x5)] M10 (fun M13 => SH M13 → K (iV M13 24 1) M13)))))) ∧ (¬ ((iV M 24 1) + (20 : Int32)) ≤ (8192 : Int32) → X M.1 (sm_new M 51 6)))) : sm_w 18 (sm_in sP 18 [.ref 23, .int (x1), .int (x2), .int (x3), .int (x4), .int (x5)]) M (yI X K) := by
  show sm_w 18 (0, [some (.ref 23), some (.int (x1)), some (.int (x2)), some (.int (x3)), some (.int (x4)), some (.int (x5))], []) M (yI X K)
  refine sm_w.run t18 sr18 0 2 (M2 := M) (f2 := (4, [some (.ref 23), some (.int (x1)), some (.int (x2)), some (.int (x3)), some (.int (x4)), some (.int (x5))], [va_rf (sm_rv M 23 0)])) rfl ⟨trivial, sm_K.g (k_23 hS) (sm_sh.rf _), trivial⟩ ?_
  refine sm_w.fld (r_23_0 hS) ?_
  refine sm_w.run t18 sr18 2 5 (M2 := M) (f2 := (if ((iV M 24 1) + (20 : Int32)) ≤ (8192 : Int32) then 26 else 16, [some (.ref 23), some (.int (x1)), some (.int (x2)), some (.int (x3)), some (.int (x4)), some (.int (x5))], [])) rfl ⟨sm_K.g (kB_0 hS fB_24) (sm_sh.rf _), trivial, trivial, trivial, trivial, trivial⟩ ?_
  refine sm_w.ite (fun hc => ?_) (fun hc => ?_)
  · have h := h.1 hc
    refine sm_w.run t18 sr18 8 2 (M2 := M) (f2 := (30, [some (.ref 23), some (.int (x1)), some (.int (x2)), some (.int (x3)), some (.int (x4)), some (.int (x5))], [va_rf (sm_rv M 23 0)])) rfl ⟨trivial, sm_K.g (k_23 hS) (sm_sh.rf _), trivial⟩ ?_
    refine sm_w.fld (r_23_0 hS) ?_
    refine sm_w.run t18 sr18 10 1 (M2 := M) (f2 := (31, [some (.ref 23), some (.int (x1)), some (.int (x2)), some (.int (x3)), some (.int (x4)), some (.int (x5))], [.int (x1), .ref 24])) rfl ⟨trivial, trivial⟩ ?_
    refine sm_w.cV t18 sr18 11 (i := 19) (as := [.ref 24, .int (x1)]) (g := (31, [some (.ref 23), some (.int (x1)), some (.int (x2)), some (.int (x3)), some (.int (x4)), some (.int (x5))], [])) rfl ⟨by decide, by decide, (Nat.le_of_ble_eq_true rfl), (sm_K.g (kB_0 hS fB_24) (sm_sh.rf _)).1, (sm_K.g (kB_0 hS fB_24) (sm_sh.rf _)).2, (Nat.le_of_ble_eq_true rfl)⟩ (Nat.le_of_ble_eq_true rfl) (by decide) (sm_cV.s (by decide) hS h) (fun M1 h => ?_)
    obtain ⟨hS3, h⟩ := h
    refine sm_w.run t18 sr18 12 2 (M2 := M1) (f2 := (38, [some (.ref 23), some (.int (x1)), some (.int (x2)), some (.int (x3)), some (.int (x4)), some (.int (x5))], [va_rf (sm_rv M1 23 0)])) rfl ⟨trivial, sm_K.g (k_23 hS3) (sm_sh.rf _), trivial⟩ ?_
    refine sm_w.fld (r_23_0 hS3) ?_
    refine sm_w.run t18 sr18 14 1 (M2 := M1) (f2 := (39, [some (.ref 23), some (.int (x1)), some (.int (x2)), some (.int (x3)), some (.int (x4)), some (.int (x5))], [.int (x2), .ref 24])) rfl ⟨trivial, trivial⟩ ?_
    refine sm_w.cV t18 sr18 15 (i := 19) (as := [.ref 24, .int (x2)]) (g := (39, [some (.ref 23), some (.int (x1)), some (.int (x2)), some (.int (x3)), some (.int (x4)), some (.int (x5))], [])) rfl ⟨by decide, by decide, (Nat.le_of_ble_eq_true rfl), (sm_K.g (kB_0 hS3 fB_24) (sm_sh.rf _)).1, (sm_K.g (kB_0 hS3 fB_24) (sm_sh.rf _)).2, (Nat.le_of_ble_eq_true rfl)⟩ (Nat.le_of_ble_eq_true rfl) (by decide) (sm_cV.s (by decide) hS3 h) (fun M4 h => ?_)
    obtain ⟨hS6, h⟩ := h
    refine sm_w.run t18 sr18 16 2 (M2 := M4) (f2 := (46, [some (.ref 23), some (.int (x1)), some (.int (x2)), some (.int (x3)), some (.int (x4)), some (.int (x5))], [va_rf (sm_rv M4 23 0)])) rfl ⟨trivial, sm_K.g (k_23 hS6) (sm_sh.rf _), trivial⟩ ?_
    refine sm_w.fld (r_23_0 hS6) ?_
    refine sm_w.run t18 sr18 18 1 (M2 := M4) (f2 := (47, [some (.ref 23), some (.int (x1)), some (.int (x2)), some (.int (x3)), some (.int (x4)), some (.int (x5))], [.int (x3), .ref 24])) rfl ⟨trivial, trivial⟩ ?_
    refine sm_w.cV t18 sr18 19 (i := 19) (as := [.ref 24, .int (x3)]) (g := (47, [some (.ref 23), some (.int (x1)), some (.int (x2)), some (.int (x3)), some (.int (x4)), some (.int (x5))], [])) rfl ⟨by decide, by decide, (Nat.le_of_ble_eq_true rfl), (sm_K.g (kB_0 hS6 fB_24) (sm_sh.rf _)).1, (sm_K.g (kB_0 hS6 fB_24) (sm_sh.rf _)).2, (Nat.le_of_ble_eq_true rfl)⟩ (Nat.le_of_ble_eq_true rfl) (by decide) (sm_cV.s (by decide) hS6 h) (fun M7 h => ?_)
    obtain ⟨hS9, h⟩ := h
    refine sm_w.run t18 sr18 20 2 (M2 := M7) (f2 := (54, [some (.ref 23), some (.int (x1)), some (.int (x2)), some (.int (x3)), some (.int (x4)), some (.int (x5))], [va_rf (sm_rv M7 23 0)])) rfl ⟨trivial, sm_K.g (k_23 hS9) (sm_sh.rf _), trivial⟩ ?_
    refine sm_w.fld (r_23_0 hS9) ?_
    refine sm_w.run t18 sr18 22 1 (M2 := M7) (f2 := (56, [some (.ref 23), some (.int (x1)), some (.int (x2)), some (.int (x3)), some (.int (x4)), some (.int (x5))], [.int (x4), .ref 24])) rfl ⟨trivial, trivial⟩ ?_
    refine sm_w.cV t18 sr18 23 (i := 19) (as := [.ref 24, .int (x4)]) (g := (56, [some (.ref 23), some (.int (x1)), some (.int (x2)), some (.int (x3)), some (.int (x4)), some (.int (x5))], [])) rfl ⟨by decide, by decide, (Nat.le_of_ble_eq_true rfl), (sm_K.g (kB_0 hS9 fB_24) (sm_sh.rf _)).1, (sm_K.g (kB_0 hS9 fB_24) (sm_sh.rf _)).2, (Nat.le_of_ble_eq_true rfl)⟩ (Nat.le_of_ble_eq_true rfl) (by decide) (sm_cV.s (by decide) hS9 h) (fun M10 h => ?_)
    obtain ⟨hS12, h⟩ := h
    refine sm_w.run t18 sr18 24 2 (M2 := M10) (f2 := (63, [some (.ref 23), some (.int (x1)), some (.int (x2)), some (.int (x3)), some (.int (x4)), some (.int (x5))], [va_rf (sm_rv M10 23 0)])) rfl ⟨trivial, sm_K.g (k_23 hS12) (sm_sh.rf _), trivial⟩ ?_
    refine sm_w.fld (r_23_0 hS12) ?_
    refine sm_w.run t18 sr18 26 1 (M2 := M10) (f2 := (65, [some (.ref 23), some (.int (x1)), some (.int (x2)), some (.int (x3)), some (.int (x4)), some (.int (x5))], [.int (x5), .ref 24])) rfl ⟨trivial, trivial⟩ ?_
    refine sm_w.cV t18 sr18 27 (i := 19) (as := [.ref 24, .int (x5)]) (g := (65, [some (.ref 23), some (.int (x1)), some (.int (x2)), some (.int (x3)), some (.int (x4)), some (.int (x5))], [])) rfl ⟨by decide, by decide, (Nat.le_of_ble_eq_true rfl), (sm_K.g (kB_0 hS12 fB_24) (sm_sh.rf _)).1, (sm_K.g (kB_0 hS12 fB_24) (sm_sh.rf _)).2, (Nat.le_of_ble_eq_true rfl)⟩ (Nat.le_of_ble_eq_true rfl) (by decide) (sm_cV.s (by decide) hS12 h) (fun M13 h => ?_)
    obtain ⟨hS15, h⟩ := h
    refine sm_w.run t18 sr18 28 2 (M2 := M13) (f2 := (72, [some (.ref 23), some (.int (x1)), some (.int (x2)), some (.int (x3)), some (.int (x4)), some (.int (x5))], [va_rf (sm_rv M13 23 0)])) rfl ⟨trivial, sm_K.g (k_23 hS15) (sm_sh.rf _), trivial⟩ ?_
    refine sm_w.fld (r_23_0 hS15) ?_
    refine sm_w.run t18 sr18 30 1 (M2 := M13) (f2 := (75, [some (.ref 23), some (.int (x1)), some (.int (x2)), some (.int (x3)), some (.int (x4)), some (.int (x5))], [.int (iV M13 24 1)])) rfl ⟨sm_K.g (kB_0 hS15 fB_24) (sm_sh.rf _), trivial⟩ ?_
    exact sm_w.end t18 sr18 31 (o := .returned (some (.int (iV M13 24 1)))) (M2 := M13) rfl rfl (by decide) (Or.inr ⟨_, rfl, h⟩)
  · have h := h.2 hc
    exact sm_w.end t18 sr18 7 (o := .threw M.1) (M2 := sm_new M 51 6) rfl (Nat.le_of_ble_eq_true rfl) (by decide) (Or.inl ⟨_, rfl, h⟩)
-- 164 LineSetterModel.four(I)V
theorem t164 : sP 164 = (3, sp_164, sh_164) := rfl
theorem sr164 : sm_srt sp_164 = true := by decide +kernel
theorem g164_0 {M : sm_M} {x1 : Int32} {K : sm_M → Prop} (hS : SH M)  (h : sm_w 164 (3, [some (.ref 116), some (.int (x1)), some (.int ((24 : Int32)))], []) M (rV K)) : sm_w 164 (sm_in sP 164 [.ref 116, .int (x1)]) M (rV K) := by
  show sm_w 164 (0, [some (.ref 116), some (.int (x1)), none], []) M (rV K)
  refine sm_w.run t164 sr164 0 2 (M2 := M) (f2 := (3, [some (.ref 116), some (.int (x1)), some (.int ((24 : Int32)))], [])) rfl ⟨trivial, (Nat.le_of_ble_eq_true rfl), trivial⟩ ?_
  exact h
theorem g164_1 {M : sm_M} {x1 : Int32} {x2 : Int32} {K : sm_M → Prop} (hS : SH M)  (h : ((x2 < 0 → K M) ∧ (¬ x2 < 0 → (vp_in (iV M 116 3) 8192) ∧ ∀ M2, SH M2 → M2 = sm_wI M 117 (iV M 116 3).toNatClampNeg ((x1 >>> (x2 &&& 31)) &&& (255 : Int32)) → ∀ M4, SH M4 → M4 = sm_wI M2 116 3 ((iV M2 116 3) + (1 : Int32)) → sm_w 164 (3, [some (.ref 116), some (.int (x1)), some (.int (x2 + (-8 : Int32)))], []) M4 (rV K)))) : sm_w 164 (3, [some (.ref 116), some (.int (x1)), some (.int (x2))], []) M (rV K) := by
  refine sm_w.run t164 sr164 2 2 (M2 := M) (f2 := (if x2 < 0 then 39 else 7, [some (.ref 116), some (.int (x1)), some (.int (x2))], [])) rfl ⟨trivial, trivial, trivial⟩ ?_
  refine sm_w.ite (fun hc => ?_) (fun hc => ?_)
  · have h := h.1 hc
    exact sm_w.end t164 sr164 22 (o := .returned none) (M2 := M) rfl trivial (by decide) (⟨rfl, h⟩)
  · have h := h.2 hc
    refine sm_w.run t164 sr164 4 2 (M2 := M) (f2 := (11, [some (.ref 116), some (.int (x1)), some (.int (x2))], [va_rf (sm_rv M 116 1)])) rfl ⟨trivial, sm_K.g (k_116 hS) (sm_sh.rf _), trivial⟩ ?_
    refine sm_w.fld (r_116_1 hS) ?_
    obtain ⟨c1, h⟩ := h
    refine sm_w.run t164 sr164 6 8 (M2 := sm_wI M 117 (iV M 116 3).toNatClampNeg ((x1 >>> (x2 &&& 31)) &&& (255 : Int32))) (f2 := (23, [some (.ref 116), some (.int (x1)), some (.int (x2))], [])) rfl ⟨trivial, sm_K.g (k_116 hS) (sm_sh.rf _), trivial, trivial, trivial, trivial, trivial, sm_K.s2 (k_117 hS) (l_117 hS) c1, trivial⟩ ?_
    have hS3 : SH (sm_wI M 117 (iV M 116 3).toNatClampNeg ((x1 >>> (x2 &&& 31)) &&& (255 : Int32))) := SH.wI hS _ _ _
    have h := h _ hS3 rfl
    generalize sm_wI M 117 (iV M 116 3).toNatClampNeg ((x1 >>> (x2 &&& 31)) &&& (255 : Int32)) = M2 at h hS3 ⊢
    refine sm_w.run t164 sr164 14 6 (M2 := sm_wI M2 116 3 ((iV M2 116 3) + (1 : Int32))) (f2 := (33, [some (.ref 116), some (.int (x1)), some (.int (x2))], [])) rfl ⟨trivial, rfl, sm_K.g (k_116 hS3) (sm_sh.rf _), trivial, trivial, ⟨(sm_K.p (k_116 hS3) (sm_sh.rf _)).1, (sm_K.p (k_116 hS3) (sm_sh.rf _)).2.1, (sm_K.p (k_116 hS3) (sm_sh.rf _)).2.2, Or.inl rfl⟩, trivial⟩ ?_
    have hS5 : SH (sm_wI M2 116 3 ((iV M2 116 3) + (1 : Int32))) := SH.wI hS3 _ _ _
    have h := h _ hS5 rfl
    generalize sm_wI M2 116 3 ((iV M2 116 3) + (1 : Int32)) = M4 at h hS5 ⊢
    refine sm_w.run t164 sr164 20 2 (M2 := M4) (f2 := (3, [some (.ref 116), some (.int (x1)), some (.int (x2 + (-8 : Int32)))], [])) rfl ⟨(Nat.le_of_ble_eq_true rfl), trivial, trivial⟩ ?_
    exact h
-- 162 LineSetterModel.feed(IIIII)I
theorem t162 : sP 162 = (6, sp_162, sh_162) := rfl
theorem sr162 : sm_srt sp_162 = true := by decide +kernel
theorem g162_0 {M : sm_M} {x1 : Int32} {x2 : Int32} {x3 : Int32} {x4 : Int32} {x5 : Int32} {K : Int32 → sm_M → Prop} (hS : SH M)  (h : ((((iV M 116 3) + (20 : Int32)) ≤ (8192 : Int32) → ∀ M1, SH M1 → M1 = sm_wI M 116 0 (0 : Int32) → sm_cV 164 [.ref 116, .int (x1)] M1 (fun M3 => SH M3 → sm_cV 164 [.ref 116, .int (x2)] M3 (fun M6 => SH M6 → sm_cV 164 [.ref 116, .int (x3)] M6 (fun M9 => SH M9 → sm_cV 164 [.ref 116, .int (x4)] M9 (fun M12 => SH M12 → sm_cV 164 [.ref 116, .int (x5)] M12 (fun M15 => SH M15 → K (iV M15 116 3) M15)))))) ∧ (¬ ((iV M 116 3) + (20 : Int32)) ≤ (8192 : Int32) → ∀ M21, SH M21 → M21 = sm_wI M 116 0 (1 : Int32) → K (0 : Int32) M21))) : sm_w 162 (sm_in sP 162 [.ref 116, .int (x1), .int (x2), .int (x3), .int (x4), .int (x5)]) M (rI K) := by
  show sm_w 162 (0, [some (.ref 116), some (.int (x1)), some (.int (x2)), some (.int (x3)), some (.int (x4)), some (.int (x5))], []) M (rI K)
  refine sm_w.run t162 sr162 0 6 (M2 := M) (f2 := (if ((iV M 116 3) + (20 : Int32)) ≤ (8192 : Int32) then 19 else 13, [some (.ref 116), some (.int (x1)), some (.int (x2)), some (.int (x3)), some (.int (x4)), some (.int (x5))], [])) rfl ⟨trivial, sm_K.g (k_116 hS) (sm_sh.rf _), trivial, trivial, trivial, trivial, trivial⟩ ?_
  refine sm_w.ite (fun hc => ?_) (fun hc => ?_)
  · have h := h.1 hc
    refine sm_w.run t162 sr162 10 3 (M2 := sm_wI M 116 0 (0 : Int32)) (f2 := (24, [some (.ref 116), some (.int (x1)), some (.int (x2)), some (.int (x3)), some (.int (x4)), some (.int (x5))], [])) rfl ⟨trivial, trivial, ⟨(sm_K.p (k_116 hS) (sm_sh.rf _)).1, (sm_K.p (k_116 hS) (sm_sh.rf _)).2.1, (sm_K.p (k_116 hS) (sm_sh.rf _)).2.2, Or.inl rfl⟩, trivial⟩ ?_
    have hS2 : SH (sm_wI M 116 0 (0 : Int32)) := SH.wI hS _ _ _
    have h := h _ hS2 rfl
    generalize sm_wI M 116 0 (0 : Int32) = M1 at h hS2 ⊢
    refine sm_w.run t162 sr162 13 2 (M2 := M1) (f2 := (26, [some (.ref 116), some (.int (x1)), some (.int (x2)), some (.int (x3)), some (.int (x4)), some (.int (x5))], [.int (x1), .ref 116])) rfl ⟨trivial, trivial, trivial⟩ ?_
    refine sm_w.cV t162 sr162 15 (i := 164) (as := [.ref 116, .int (x1)]) (g := (26, [some (.ref 116), some (.int (x1)), some (.int (x2)), some (.int (x3)), some (.int (x4)), some (.int (x5))], [])) rfl ⟨by decide, by decide, (Nat.le_of_ble_eq_true rfl), (sm_K.g (k_116 hS2) (sm_sh.rf _)).1, (sm_K.g (k_116 hS2) (sm_sh.rf _)).2, (Nat.le_of_ble_eq_true rfl)⟩ (Nat.le_of_ble_eq_true rfl) (by decide) (sm_cV.s (by decide) hS2 h) (fun M3 h => ?_)
    obtain ⟨hS5, h⟩ := h
    refine sm_w.run t162 sr162 16 2 (M2 := M3) (f2 := (31, [some (.ref 116), some (.int (x1)), some (.int (x2)), some (.int (x3)), some (.int (x4)), some (.int (x5))], [.int (x2), .ref 116])) rfl ⟨trivial, trivial, trivial⟩ ?_
    refine sm_w.cV t162 sr162 18 (i := 164) (as := [.ref 116, .int (x2)]) (g := (31, [some (.ref 116), some (.int (x1)), some (.int (x2)), some (.int (x3)), some (.int (x4)), some (.int (x5))], [])) rfl ⟨by decide, by decide, (Nat.le_of_ble_eq_true rfl), (sm_K.g (k_116 hS5) (sm_sh.rf _)).1, (sm_K.g (k_116 hS5) (sm_sh.rf _)).2, (Nat.le_of_ble_eq_true rfl)⟩ (Nat.le_of_ble_eq_true rfl) (by decide) (sm_cV.s (by decide) hS5 h) (fun M6 h => ?_)
    obtain ⟨hS8, h⟩ := h
    refine sm_w.run t162 sr162 19 2 (M2 := M6) (f2 := (36, [some (.ref 116), some (.int (x1)), some (.int (x2)), some (.int (x3)), some (.int (x4)), some (.int (x5))], [.int (x3), .ref 116])) rfl ⟨trivial, trivial, trivial⟩ ?_
    refine sm_w.cV t162 sr162 21 (i := 164) (as := [.ref 116, .int (x3)]) (g := (36, [some (.ref 116), some (.int (x1)), some (.int (x2)), some (.int (x3)), some (.int (x4)), some (.int (x5))], [])) rfl ⟨by decide, by decide, (Nat.le_of_ble_eq_true rfl), (sm_K.g (k_116 hS8) (sm_sh.rf _)).1, (sm_K.g (k_116 hS8) (sm_sh.rf _)).2, (Nat.le_of_ble_eq_true rfl)⟩ (Nat.le_of_ble_eq_true rfl) (by decide) (sm_cV.s (by decide) hS8 h) (fun M9 h => ?_)
    obtain ⟨hS11, h⟩ := h
    refine sm_w.run t162 sr162 22 2 (M2 := M9) (f2 := (42, [some (.ref 116), some (.int (x1)), some (.int (x2)), some (.int (x3)), some (.int (x4)), some (.int (x5))], [.int (x4), .ref 116])) rfl ⟨trivial, trivial, trivial⟩ ?_
    refine sm_w.cV t162 sr162 24 (i := 164) (as := [.ref 116, .int (x4)]) (g := (42, [some (.ref 116), some (.int (x1)), some (.int (x2)), some (.int (x3)), some (.int (x4)), some (.int (x5))], [])) rfl ⟨by decide, by decide, (Nat.le_of_ble_eq_true rfl), (sm_K.g (k_116 hS11) (sm_sh.rf _)).1, (sm_K.g (k_116 hS11) (sm_sh.rf _)).2, (Nat.le_of_ble_eq_true rfl)⟩ (Nat.le_of_ble_eq_true rfl) (by decide) (sm_cV.s (by decide) hS11 h) (fun M12 h => ?_)
    obtain ⟨hS14, h⟩ := h
    refine sm_w.run t162 sr162 25 2 (M2 := M12) (f2 := (48, [some (.ref 116), some (.int (x1)), some (.int (x2)), some (.int (x3)), some (.int (x4)), some (.int (x5))], [.int (x5), .ref 116])) rfl ⟨trivial, trivial, trivial⟩ ?_
    refine sm_w.cV t162 sr162 27 (i := 164) (as := [.ref 116, .int (x5)]) (g := (48, [some (.ref 116), some (.int (x1)), some (.int (x2)), some (.int (x3)), some (.int (x4)), some (.int (x5))], [])) rfl ⟨by decide, by decide, (Nat.le_of_ble_eq_true rfl), (sm_K.g (k_116 hS14) (sm_sh.rf _)).1, (sm_K.g (k_116 hS14) (sm_sh.rf _)).2, (Nat.le_of_ble_eq_true rfl)⟩ (Nat.le_of_ble_eq_true rfl) (by decide) (sm_cV.s (by decide) hS14 h) (fun M15 h => ?_)
    obtain ⟨hS17, h⟩ := h
    refine sm_w.run t162 sr162 28 2 (M2 := M15) (f2 := (55, [some (.ref 116), some (.int (x1)), some (.int (x2)), some (.int (x3)), some (.int (x4)), some (.int (x5))], [.int (iV M15 116 3)])) rfl ⟨trivial, sm_K.g (k_116 hS17) (sm_sh.rf _), trivial⟩ ?_
    exact sm_w.end t162 sr162 30 (o := .returned (some (.int (iV M15 116 3)))) (M2 := M15) rfl rfl (by decide) (⟨_, rfl, h⟩)
  · have h := h.2 hc
    refine sm_w.run t162 sr162 6 2 (M2 := M) (f2 := (15, [some (.ref 116), some (.int (x1)), some (.int (x2)), some (.int (x3)), some (.int (x4)), some (.int (x5))], [.int ((1 : Int32)), .ref 116])) rfl ⟨trivial, trivial, trivial⟩ ?_
    refine sm_w.cI t162 sr162 8 (i := 163) (as := [.ref 116, .int ((1 : Int32))]) (g := (15, [some (.ref 116), some (.int (x1)), some (.int (x2)), some (.int (x3)), some (.int (x4)), some (.int (x5))], [])) rfl ⟨by decide, by decide, (Nat.le_of_ble_eq_true rfl), (sm_K.g (k_116 hS) (sm_sh.rf _)).1, (sm_K.g (k_116 hS) (sm_sh.rf _)).2, (Nat.le_of_ble_eq_true rfl)⟩ (Nat.le_of_ble_eq_true rfl) (by decide) (sm_cI.s2 (by decide) hS (g163_0 (K := fun v19 M18 => K v19 M18) hS h)) (fun v19 M18 h => ?_)
    obtain ⟨hS20, h⟩ := h
    exact sm_w.end t162 sr162 9 (o := .returned (some (.int (v19)))) (M2 := M18) rfl rfl (by decide) (⟨_, rfl, h⟩)
