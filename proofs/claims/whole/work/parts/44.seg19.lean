/-! METHODS by their segments. -/
-- 142 LineSetter$Setting.movedBehind(LLineSetter$Line;I)J
theorem t142 : sP 142 = (5, sp_142, sh_142) := rfl
theorem sr142 : sm_srt sp_142 = true := by decide +kernel
theorem g142_0 {M : sm_M} {x0 : Nat} {x1 : Nat} {x2 : Int32} {K : Int64 → sm_M → Prop} (hS : SH M) (hx0 : fS x0) (hx1 : fL x1) (h : (((iV M x0 3) = 0 → (((jV M x1 2) ≤ (jV M x1 5) → (((iV M x1 6) = 0 → (((0 : Int64) < (jV M x1 3) → (vp_in x2 601) ∧ (vp_in (iV M x1 0) 601) ∧ (¬ (jV M x1 3) = 0) ∧ K ((((jV M x1 5) - (jV M x1 2)) * ((jV M (x0 + 1 + 9) x2.toNatClampNeg) - (jV M (x0 + 1 + 9) (iV M x1 0).toNatClampNeg))) / (jV M x1 3)) M) ∧ (¬ (0 : Int64) < (jV M x1 3) → K (0 : Int64) M))) ∧ (¬ (iV M x1 6) = 0 → K (0 : Int64) M))) ∧ (¬ (jV M x1 2) ≤ (jV M x1 5) → (vp_in x2 601) ∧ (vp_in (iV M x1 0) 601) ∧ (((iV M x1 7) = 0 → (((0 : Int64) < (jV M x1 4) → (¬ (jV M x1 4) = 0) ∧ K (-((((jV M x1 2) - (jV M x1 5)) * ((jV M (x0 + 1 + 10) x2.toNatClampNeg) - (jV M (x0 + 1 + 10) (iV M x1 0).toNatClampNeg))) / (jV M x1 4))) M) ∧ (¬ (0 : Int64) < (jV M x1 4) → K (-((jV M (x0 + 1 + 10) x2.toNatClampNeg) - (jV M (x0 + 1 + 10) (iV M x1 0).toNatClampNeg))) M))) ∧ (¬ (iV M x1 7) = 0 → K (-((jV M (x0 + 1 + 10) x2.toNatClampNeg) - (jV M (x0 + 1 + 10) (iV M x1 0).toNatClampNeg))) M))))) ∧ (¬ (iV M x0 3) = 0 → K (0 : Int64) M))) : sm_w 142 (sm_in sP 142 [.ref x0, .ref x1, .int (x2)]) M (rJ K) := by
  show sm_w 142 (0, [some (.ref x0), some (.ref x1), some (.int (x2)), none, none], []) M (rJ K)
  refine sm_w.run t142 sr142 0 3 (M2 := M) (f2 := (if (iV M x0 3) = 0 then 9 else 7, [some (.ref x0), some (.ref x1), some (.int (x2)), none, none], [])) rfl ⟨trivial, sm_K.g (kS_0 hS hx0) (sm_sh.rf _), trivial, trivial⟩ ?_
  refine sm_w.ite (fun hc => ?_) (fun hc => ?_)
  · have h := h.1 hc
    refine sm_w.run t142 sr142 5 6 (M2 := M) (f2 := (if (lg_cmp (jV M x1 2) (jV M x1 5)) ≤ 0 then 81 else 21, [some (.ref x0), some (.ref x1), some (.int (x2)), none, none], [])) rfl ⟨trivial, sm_K.g (kL_0 hS hx1) (sm_sh.rf _), trivial, sm_K.g (kL_0 hS hx1) (sm_sh.rf _), trivial, trivial, trivial⟩ ?_
    refine sm_w.ite (fun hc => ?_) (fun hc => ?_)
    · have h := h.1 (lc_le.mp hc)
      refine sm_w.run t142 sr142 47 3 (M2 := M) (f2 := (if (iV M x1 6) = 0 then 88 else 97, [some (.ref x0), some (.ref x1), some (.int (x2)), none, none], [])) rfl ⟨trivial, sm_K.g (kL_0 hS hx1) (sm_sh.rf _), trivial, trivial⟩ ?_
      refine sm_w.ite (fun hc => ?_) (fun hc => ?_)
      · have h := h.1 hc
        refine sm_w.run t142 sr142 50 5 (M2 := M) (f2 := (if 0 < (lg_cmp (jV M x1 3) (0 : Int64)) then 99 else 97, [some (.ref x0), some (.ref x1), some (.int (x2)), none, none], [])) rfl ⟨trivial, sm_K.g (kL_0 hS hx1) (sm_sh.rf _), trivial, trivial, trivial, trivial⟩ ?_
        refine sm_w.ite (fun hc => ?_) (fun hc => ?_)
        · have h := h.1 (lc_g.mp hc)
          refine sm_w.run t142 sr142 57 2 (M2 := M) (f2 := (103, [some (.ref x0), some (.ref x1), some (.int (x2)), none, none], [va_rf (sm_rv M x0 0)])) rfl ⟨trivial, sm_K.g (kS_0 hS hx0) (sm_sh.rf _), trivial⟩ ?_
          refine sm_w.fld (rS_0 hS hx0) ?_
          refine sm_w.run t142 sr142 59 1 (M2 := M) (f2 := (106, [some (.ref x0), some (.ref x1), some (.int (x2)), none, none], [va_rf (sm_rv M (x0 + 1) 10)])) rfl ⟨sm_K.g (kK_0 hS (fS_1 hx0)) (sm_sh.rf _), trivial⟩ ?_
          refine sm_w.fld (rK_10 hS (fS_1 hx0)) ?_
          obtain ⟨c1, h⟩ := h
          refine sm_w.run t142 sr142 60 4 (M2 := M) (f2 := (112, [some (.ref x0), some (.ref x1), some (.int (x2)), none, none], [va_rf (sm_rv M x0 0), .long (jV M (x0 + 1 + 9) x2.toNatClampNeg)])) rfl ⟨trivial, sm_K.a2 (kK_9 hS (fS_1 hx0)) (lK_9 hS (fS_1 hx0)) c1, trivial, sm_K.g (kS_0 hS hx0) (sm_sh.rf _), trivial⟩ ?_
          refine sm_w.fld (rS_0 hS hx0) ?_
          refine sm_w.run t142 sr142 64 1 (M2 := M) (f2 := (115, [some (.ref x0), some (.ref x1), some (.int (x2)), none, none], [va_rf (sm_rv M (x0 + 1) 10), .long (jV M (x0 + 1 + 9) x2.toNatClampNeg)])) rfl ⟨sm_K.g (kK_0 hS (fS_1 hx0)) (sm_sh.rf _), trivial⟩ ?_
          refine sm_w.fld (rK_10 hS (fS_1 hx0)) ?_
          obtain ⟨c2, c3, h⟩ := h
          refine sm_w.run t142 sr142 65 15 (M2 := M) (f2 := (138, [some (.ref x0), some (.ref x1), some (.int (x2)), some (.long ((jV M (x0 + 1 + 9) x2.toNatClampNeg) - (jV M (x0 + 1 + 9) (iV M x1 0).toNatClampNeg))), none], [.long ((((jV M x1 5) - (jV M x1 2)) * ((jV M (x0 + 1 + 9) x2.toNatClampNeg) - (jV M (x0 + 1 + 9) (iV M x1 0).toNatClampNeg))) / (jV M x1 3))])) rfl ⟨trivial, sm_K.g (kL_0 hS hx1) (sm_sh.rf _), sm_K.a2 (kK_9 hS (fS_1 hx0)) (lK_9 hS (fS_1 hx0)) c2, trivial, (Nat.le_of_ble_eq_true rfl), trivial, sm_K.g (kL_0 hS hx1) (sm_sh.rf _), trivial, sm_K.g (kL_0 hS hx1) (sm_sh.rf _), trivial, trivial, trivial, trivial, sm_K.g (kL_0 hS hx1) (sm_sh.rf _), c3, trivial⟩ ?_
          exact sm_w.end t142 sr142 80 (o := .returned (some (.long ((((jV M x1 5) - (jV M x1 2)) * ((jV M (x0 + 1 + 9) x2.toNatClampNeg) - (jV M (x0 + 1 + 9) (iV M x1 0).toNatClampNeg))) / (jV M x1 3))))) (M2 := M) rfl trivial (by decide) (⟨_, rfl, h⟩)
        · have h := h.2 (fun z => hc (lc_g.mpr z))
          refine sm_w.run t142 sr142 55 1 (M2 := M) (f2 := (98, [some (.ref x0), some (.ref x1), some (.int (x2)), none, none], [.long ((0 : Int64))])) rfl ⟨trivial, trivial⟩ ?_
          exact sm_w.end t142 sr142 56 (o := .returned (some (.long ((0 : Int64))))) (M2 := M) rfl trivial (by decide) (⟨_, rfl, h⟩)
      · have h := h.2 hc
        refine sm_w.run t142 sr142 55 1 (M2 := M) (f2 := (98, [some (.ref x0), some (.ref x1), some (.int (x2)), none, none], [.long ((0 : Int64))])) rfl ⟨trivial, trivial⟩ ?_
        exact sm_w.end t142 sr142 56 (o := .returned (some (.long ((0 : Int64))))) (M2 := M) rfl trivial (by decide) (⟨_, rfl, h⟩)
    · have h := h.2 (fun z => hc (lc_le.mpr z))
      refine sm_w.run t142 sr142 11 2 (M2 := M) (f2 := (25, [some (.ref x0), some (.ref x1), some (.int (x2)), none, none], [va_rf (sm_rv M x0 0)])) rfl ⟨trivial, sm_K.g (kS_0 hS hx0) (sm_sh.rf _), trivial⟩ ?_
      refine sm_w.fld (rS_0 hS hx0) ?_
      refine sm_w.run t142 sr142 13 1 (M2 := M) (f2 := (28, [some (.ref x0), some (.ref x1), some (.int (x2)), none, none], [va_rf (sm_rv M (x0 + 1) 11)])) rfl ⟨sm_K.g (kK_0 hS (fS_1 hx0)) (sm_sh.rf _), trivial⟩ ?_
      refine sm_w.fld (rK_11 hS (fS_1 hx0)) ?_
      obtain ⟨c4, h⟩ := h
      refine sm_w.run t142 sr142 14 4 (M2 := M) (f2 := (34, [some (.ref x0), some (.ref x1), some (.int (x2)), none, none], [va_rf (sm_rv M x0 0), .long (jV M (x0 + 1 + 10) x2.toNatClampNeg)])) rfl ⟨trivial, sm_K.a2 (kK_10 hS (fS_1 hx0)) (lK_10 hS (fS_1 hx0)) c4, trivial, sm_K.g (kS_0 hS hx0) (sm_sh.rf _), trivial⟩ ?_
      refine sm_w.fld (rS_0 hS hx0) ?_
      refine sm_w.run t142 sr142 18 1 (M2 := M) (f2 := (37, [some (.ref x0), some (.ref x1), some (.int (x2)), none, none], [va_rf (sm_rv M (x0 + 1) 11), .long (jV M (x0 + 1 + 10) x2.toNatClampNeg)])) rfl ⟨sm_K.g (kK_0 hS (fS_1 hx0)) (sm_sh.rf _), trivial⟩ ?_
      refine sm_w.fld (rK_11 hS (fS_1 hx0)) ?_
      obtain ⟨c5, h⟩ := h
      refine sm_w.run t142 sr142 19 8 (M2 := M) (f2 := (if (iV M x1 7) = 0 then 51 else 60, [some (.ref x0), some (.ref x1), some (.int (x2)), some (.long ((jV M (x0 + 1 + 10) x2.toNatClampNeg) - (jV M (x0 + 1 + 10) (iV M x1 0).toNatClampNeg))), none], [])) rfl ⟨trivial, sm_K.g (kL_0 hS hx1) (sm_sh.rf _), sm_K.a2 (kK_10 hS (fS_1 hx0)) (lK_10 hS (fS_1 hx0)) c5, trivial, (Nat.le_of_ble_eq_true rfl), trivial, sm_K.g (kL_0 hS hx1) (sm_sh.rf _), trivial, trivial⟩ ?_
      refine sm_w.ite (fun hc => ?_) (fun hc => ?_)
      · have h := h.1 hc
        refine sm_w.run t142 sr142 27 5 (M2 := M) (f2 := (if 0 < (lg_cmp (jV M x1 4) (0 : Int64)) then 63 else 60, [some (.ref x0), some (.ref x1), some (.int (x2)), some (.long ((jV M (x0 + 1 + 10) x2.toNatClampNeg) - (jV M (x0 + 1 + 10) (iV M x1 0).toNatClampNeg))), none], [])) rfl ⟨trivial, sm_K.g (kL_0 hS hx1) (sm_sh.rf _), trivial, trivial, trivial, trivial⟩ ?_
        refine sm_w.ite (fun hc => ?_) (fun hc => ?_)
        · have h := h.1 (lc_g.mp hc)
          obtain ⟨c6, h⟩ := h
          refine sm_w.run t142 sr142 35 11 (M2 := M) (f2 := (80, [some (.ref x0), some (.ref x1), some (.int (x2)), some (.long ((jV M (x0 + 1 + 10) x2.toNatClampNeg) - (jV M (x0 + 1 + 10) (iV M x1 0).toNatClampNeg))), none], [.long (-((((jV M x1 2) - (jV M x1 5)) * ((jV M (x0 + 1 + 10) x2.toNatClampNeg) - (jV M (x0 + 1 + 10) (iV M x1 0).toNatClampNeg))) / (jV M x1 4)))])) rfl ⟨trivial, sm_K.g (kL_0 hS hx1) (sm_sh.rf _), trivial, sm_K.g (kL_0 hS hx1) (sm_sh.rf _), trivial, trivial, trivial, trivial, sm_K.g (kL_0 hS hx1) (sm_sh.rf _), c6, trivial, trivial⟩ ?_
          exact sm_w.end t142 sr142 46 (o := .returned (some (.long (-((((jV M x1 2) - (jV M x1 5)) * ((jV M (x0 + 1 + 10) x2.toNatClampNeg) - (jV M (x0 + 1 + 10) (iV M x1 0).toNatClampNeg))) / (jV M x1 4)))))) (M2 := M) rfl trivial (by decide) (⟨_, rfl, h⟩)
        · have h := h.2 (fun z => hc (lc_g.mpr z))
          refine sm_w.run t142 sr142 32 2 (M2 := M) (f2 := (62, [some (.ref x0), some (.ref x1), some (.int (x2)), some (.long ((jV M (x0 + 1 + 10) x2.toNatClampNeg) - (jV M (x0 + 1 + 10) (iV M x1 0).toNatClampNeg))), none], [.long (-((jV M (x0 + 1 + 10) x2.toNatClampNeg) - (jV M (x0 + 1 + 10) (iV M x1 0).toNatClampNeg)))])) rfl ⟨trivial, trivial, trivial⟩ ?_
          exact sm_w.end t142 sr142 34 (o := .returned (some (.long (-((jV M (x0 + 1 + 10) x2.toNatClampNeg) - (jV M (x0 + 1 + 10) (iV M x1 0).toNatClampNeg)))))) (M2 := M) rfl trivial (by decide) (⟨_, rfl, h⟩)
      · have h := h.2 hc
        refine sm_w.run t142 sr142 32 2 (M2 := M) (f2 := (62, [some (.ref x0), some (.ref x1), some (.int (x2)), some (.long ((jV M (x0 + 1 + 10) x2.toNatClampNeg) - (jV M (x0 + 1 + 10) (iV M x1 0).toNatClampNeg))), none], [.long (-((jV M (x0 + 1 + 10) x2.toNatClampNeg) - (jV M (x0 + 1 + 10) (iV M x1 0).toNatClampNeg)))])) rfl ⟨trivial, trivial, trivial⟩ ?_
        exact sm_w.end t142 sr142 34 (o := .returned (some (.long (-((jV M (x0 + 1 + 10) x2.toNatClampNeg) - (jV M (x0 + 1 + 10) (iV M x1 0).toNatClampNeg)))))) (M2 := M) rfl trivial (by decide) (⟨_, rfl, h⟩)
  · have h := h.2 hc
    refine sm_w.run t142 sr142 3 1 (M2 := M) (f2 := (8, [some (.ref x0), some (.ref x1), some (.int (x2)), none, none], [.long ((0 : Int64))])) rfl ⟨trivial, trivial⟩ ?_
    exact sm_w.end t142 sr142 4 (o := .returned (some (.long ((0 : Int64))))) (M2 := M) rfl trivial (by decide) (⟨_, rfl, h⟩)
def p142_0 (M : sm_M) (x0 : Nat) (x1 : Nat) (x2 : Int32) : Int64 := if (iV M x0 3) = 0 then (if (jV M x1 2) ≤ (jV M x1 5) then (if (iV M x1 6) = 0 then (if (0 : Int64) < (jV M x1 3) then ((((jV M x1 5) - (jV M x1 2)) * ((jV M (x0 + 1 + 9) x2.toNatClampNeg) - (jV M (x0 + 1 + 9) (iV M x1 0).toNatClampNeg))) / (jV M x1 3)) else (0 : Int64)) else (0 : Int64)) else (if (iV M x1 7) = 0 then (if (0 : Int64) < (jV M x1 4) then (-((((jV M x1 2) - (jV M x1 5)) * ((jV M (x0 + 1 + 10) x2.toNatClampNeg) - (jV M (x0 + 1 + 10) (iV M x1 0).toNatClampNeg))) / (jV M x1 4))) else (-((jV M (x0 + 1 + 10) x2.toNatClampNeg) - (jV M (x0 + 1 + 10) (iV M x1 0).toNatClampNeg)))) else (-((jV M (x0 + 1 + 10) x2.toNatClampNeg) - (jV M (x0 + 1 + 10) (iV M x1 0).toNatClampNeg))))) else (0 : Int64)
def q142_0 (M : sm_M) (x0 : Nat) (x1 : Nat) (x2 : Int32) : Prop := (((iV M x0 3) = 0 → (((jV M x1 2) ≤ (jV M x1 5) → (((iV M x1 6) = 0 → (((0 : Int64) < (jV M x1 3) → (vp_in x2 601) ∧ (vp_in (iV M x1 0) 601) ∧ (¬ (jV M x1 3) = 0)) ∧ (¬ (0 : Int64) < (jV M x1 3) → True))) ∧ (¬ (iV M x1 6) = 0 → True))) ∧ (¬ (jV M x1 2) ≤ (jV M x1 5) → (vp_in x2 601) ∧ (vp_in (iV M x1 0) 601) ∧ (((iV M x1 7) = 0 → (((0 : Int64) < (jV M x1 4) → (¬ (jV M x1 4) = 0)) ∧ (¬ (0 : Int64) < (jV M x1 4) → True))) ∧ (¬ (iV M x1 7) = 0 → True))))) ∧ (¬ (iV M x0 3) = 0 → True))
theorem p142_c {M : sm_M} {x0 : Nat} {x1 : Nat} {x2 : Int32} (hS : SH M) (hx0 : fS x0) (hx1 : fL x1) (hq : q142_0 M x0 x1 x2) : sm_cJ 142 [.ref x0, .ref x1, .int (x2)] M (fun v M2 => v = p142_0 M x0 x1 x2 ∧ M2 = M) := by
  refine g142_0 (K := (fun v M2 => v = p142_0 M x0 x1 x2 ∧ M2 = M)) hS hx0 hx1 ?_
  unfold q142_0 at hq
  refine ⟨fun e1 => ?_, fun e1 => ?_⟩
  · have hq := hq.1 e1
    refine ⟨fun e2 => ?_, fun e2 => ?_⟩
    · have hq := hq.1 e2
      refine ⟨fun e3 => ?_, fun e3 => ?_⟩
      · have hq := hq.1 e3
        refine ⟨fun e4 => ?_, fun e4 => ?_⟩
        · have hq := hq.1 e4
          obtain ⟨d5, hq⟩ := hq
          refine ⟨d5, ?_⟩
          obtain ⟨d6, d7⟩ := hq
          refine ⟨d6, d7, ?_⟩
          refine ⟨?_, rfl⟩
          unfold p142_0
          rw [if_pos e1, if_pos e2, if_pos e3, if_pos e4]
        · refine ⟨?_, rfl⟩
          unfold p142_0
          rw [if_pos e1, if_pos e2, if_pos e3, if_neg e4]
      · refine ⟨?_, rfl⟩
        unfold p142_0
        rw [if_pos e1, if_pos e2, if_neg e3]
    · have hq := hq.2 e2
      obtain ⟨d8, hq⟩ := hq
      refine ⟨d8, ?_⟩
      obtain ⟨d9, hq⟩ := hq
      refine ⟨d9, ?_⟩
      refine ⟨fun e10 => ?_, fun e10 => ?_⟩
      · have hq := hq.1 e10
        refine ⟨fun e11 => ?_, fun e11 => ?_⟩
        · have hq := hq.1 e11
          have d12 := hq
          refine ⟨d12, ?_⟩
          refine ⟨?_, rfl⟩
          unfold p142_0
          rw [if_pos e1, if_neg e2, if_pos e10, if_pos e11]
        · refine ⟨?_, rfl⟩
          unfold p142_0
          rw [if_pos e1, if_neg e2, if_pos e10, if_neg e11]
      · refine ⟨?_, rfl⟩
        unfold p142_0
        rw [if_pos e1, if_neg e2, if_neg e10]
  · refine ⟨?_, rfl⟩
    unfold p142_0
    rw [if_neg e1]
-- 140 LineSetter$Setting.wordBeginning(LLineSetter$Line;I)J
theorem t140 : sP 140 = (6, sp_140, sh_140) := rfl
theorem sr140 : sm_srt sp_140 = true := by decide +kernel
theorem g140_0 {M : sm_M} {x0 : Nat} {x1 : Nat} {x2 : Int32} {K : Int64 → sm_M → Prop} (hS : SH M) (hx0 : fS x0) (hx1 : fL x1) (h : ((0 < x2 → sm_cI 141 [.ref (x0 + 1), .int (iV M x1 0), .int (x2)] M (fun v2 M1 => SH M1 → (vp_in v2 601) ∧ (vp_in (iV M1 x1 0) 601) ∧ (vp_in v2 601) ∧ (vp_in (iV M1 x1 0) 601) ∧ (q142_0 M1 x0 x1 v2) ∧ K (((p136_0 M1 x0 x1) + ((((jV M1 (x0 + 1 + 7) v2.toNatClampNeg) - (jV M1 (x0 + 1 + 7) (iV M1 x1 0).toNatClampNeg)) + (jV M1 (x0 + 1 + 8) v2.toNatClampNeg)) - (jV M1 (x0 + 1 + 8) (iV M1 x1 0).toNatClampNeg))) + (p142_0 M1 x0 x1 v2)) M1)) ∧ (¬ 0 < x2 → K (p136_0 M x0 x1) M))) : sm_w 140 (sm_in sP 140 [.ref x0, .ref x1, .int (x2)]) M (rJ K) := by
  show sm_w 140 (0, [some (.ref x0), some (.ref x1), some (.int (x2)), none, none, none], []) M (rJ K)
  refine sm_w.run t140 sr140 0 2 (M2 := M) (f2 := (if 0 < x2 then 10 else 4, [some (.ref x0), some (.ref x1), some (.int (x2)), none, none, none], [])) rfl ⟨trivial, trivial, trivial⟩ ?_
  refine sm_w.ite (fun hc => ?_) (fun hc => ?_)
  · have h := h.1 hc
    refine sm_w.run t140 sr140 6 2 (M2 := M) (f2 := (14, [some (.ref x0), some (.ref x1), some (.int (x2)), none, none, none], [va_rf (sm_rv M x0 0)])) rfl ⟨trivial, sm_K.g (kS_0 hS hx0) (sm_sh.rf _), trivial⟩ ?_
    refine sm_w.fld (rS_0 hS hx0) ?_
    refine sm_w.run t140 sr140 8 3 (M2 := M) (f2 := (19, [some (.ref x0), some (.ref x1), some (.int (x2)), none, none, none], [.int (x2), .int (iV M x1 0), .ref (x0 + 1)])) rfl ⟨trivial, sm_K.g (kL_0 hS hx1) (sm_sh.rf _), trivial, trivial⟩ ?_
    refine sm_w.cI t140 sr140 11 (i := 141) (as := [.ref (x0 + 1), .int (iV M x1 0), .int (x2)]) (g := (19, [some (.ref x0), some (.ref x1), some (.int (x2)), none, none, none], [])) rfl ⟨by decide, by decide, (Nat.le_of_ble_eq_true rfl), (sm_K.g (kK_0 hS (fS_1 hx0)) (sm_sh.rf _)).1, (sm_K.g (kK_0 hS (fS_1 hx0)) (sm_sh.rf _)).2, (Nat.le_of_ble_eq_true rfl)⟩ (Nat.le_of_ble_eq_true rfl) (by decide) (sm_cI.s (by decide) hS h) (fun v2 M1 h => ?_)
    obtain ⟨hS3, h⟩ := h
    refine sm_w.run t140 sr140 12 3 (M2 := M1) (f2 := (27, [some (.ref x0), some (.ref x1), some (.int (x2)), some (.int (v2)), none, none], [va_rf (sm_rv M1 x0 0)])) rfl ⟨(Nat.le_of_ble_eq_true rfl), trivial, sm_K.g (kS_0 hS3 hx0) (sm_sh.rf _), trivial⟩ ?_
    refine sm_w.fld (rS_0 hS3 hx0) ?_
    refine sm_w.run t140 sr140 15 1 (M2 := M1) (f2 := (30, [some (.ref x0), some (.ref x1), some (.int (x2)), some (.int (v2)), none, none], [va_rf (sm_rv M1 (x0 + 1) 8)])) rfl ⟨sm_K.g (kK_0 hS3 (fS_1 hx0)) (sm_sh.rf _), trivial⟩ ?_
    refine sm_w.fld (rK_8 hS3 (fS_1 hx0)) ?_
    obtain ⟨c4, h⟩ := h
    refine sm_w.run t140 sr140 16 4 (M2 := M1) (f2 := (36, [some (.ref x0), some (.ref x1), some (.int (x2)), some (.int (v2)), none, none], [va_rf (sm_rv M1 x0 0), .long (jV M1 (x0 + 1 + 7) v2.toNatClampNeg)])) rfl ⟨trivial, sm_K.a2 (kK_7 hS3 (fS_1 hx0)) (lK_7 hS3 (fS_1 hx0)) c4, trivial, sm_K.g (kS_0 hS3 hx0) (sm_sh.rf _), trivial⟩ ?_
    refine sm_w.fld (rS_0 hS3 hx0) ?_
    refine sm_w.run t140 sr140 20 1 (M2 := M1) (f2 := (39, [some (.ref x0), some (.ref x1), some (.int (x2)), some (.int (v2)), none, none], [va_rf (sm_rv M1 (x0 + 1) 8), .long (jV M1 (x0 + 1 + 7) v2.toNatClampNeg)])) rfl ⟨sm_K.g (kK_0 hS3 (fS_1 hx0)) (sm_sh.rf _), trivial⟩ ?_
    refine sm_w.fld (rK_8 hS3 (fS_1 hx0)) ?_
    obtain ⟨c5, h⟩ := h
    refine sm_w.run t140 sr140 21 6 (M2 := M1) (f2 := (49, [some (.ref x0), some (.ref x1), some (.int (x2)), some (.int (v2)), none, none], [va_rf (sm_rv M1 x0 0), .long ((jV M1 (x0 + 1 + 7) v2.toNatClampNeg) - (jV M1 (x0 + 1 + 7) (iV M1 x1 0).toNatClampNeg))])) rfl ⟨trivial, sm_K.g (kL_0 hS3 hx1) (sm_sh.rf _), sm_K.a2 (kK_7 hS3 (fS_1 hx0)) (lK_7 hS3 (fS_1 hx0)) c5, trivial, trivial, sm_K.g (kS_0 hS3 hx0) (sm_sh.rf _), trivial⟩ ?_
    refine sm_w.fld (rS_0 hS3 hx0) ?_
    refine sm_w.run t140 sr140 27 1 (M2 := M1) (f2 := (52, [some (.ref x0), some (.ref x1), some (.int (x2)), some (.int (v2)), none, none], [va_rf (sm_rv M1 (x0 + 1) 9), .long ((jV M1 (x0 + 1 + 7) v2.toNatClampNeg) - (jV M1 (x0 + 1 + 7) (iV M1 x1 0).toNatClampNeg))])) rfl ⟨sm_K.g (kK_0 hS3 (fS_1 hx0)) (sm_sh.rf _), trivial⟩ ?_
    refine sm_w.fld (rK_9 hS3 (fS_1 hx0)) ?_
    obtain ⟨c6, h⟩ := h
    refine sm_w.run t140 sr140 28 5 (M2 := M1) (f2 := (59, [some (.ref x0), some (.ref x1), some (.int (x2)), some (.int (v2)), none, none], [va_rf (sm_rv M1 x0 0), .long (((jV M1 (x0 + 1 + 7) v2.toNatClampNeg) - (jV M1 (x0 + 1 + 7) (iV M1 x1 0).toNatClampNeg)) + (jV M1 (x0 + 1 + 8) v2.toNatClampNeg))])) rfl ⟨trivial, sm_K.a2 (kK_8 hS3 (fS_1 hx0)) (lK_8 hS3 (fS_1 hx0)) c6, trivial, trivial, sm_K.g (kS_0 hS3 hx0) (sm_sh.rf _), trivial⟩ ?_
    refine sm_w.fld (rS_0 hS3 hx0) ?_
    refine sm_w.run t140 sr140 33 1 (M2 := M1) (f2 := (62, [some (.ref x0), some (.ref x1), some (.int (x2)), some (.int (v2)), none, none], [va_rf (sm_rv M1 (x0 + 1) 9), .long (((jV M1 (x0 + 1 + 7) v2.toNatClampNeg) - (jV M1 (x0 + 1 + 7) (iV M1 x1 0).toNatClampNeg)) + (jV M1 (x0 + 1 + 8) v2.toNatClampNeg))])) rfl ⟨sm_K.g (kK_0 hS3 (fS_1 hx0)) (sm_sh.rf _), trivial⟩ ?_
    refine sm_w.fld (rK_9 hS3 (fS_1 hx0)) ?_
    obtain ⟨c7, h⟩ := h
    refine sm_w.run t140 sr140 34 7 (M2 := M1) (f2 := (72, [some (.ref x0), some (.ref x1), some (.int (x2)), some (.int (v2)), some (.long ((((jV M1 (x0 + 1 + 7) v2.toNatClampNeg) - (jV M1 (x0 + 1 + 7) (iV M1 x1 0).toNatClampNeg)) + (jV M1 (x0 + 1 + 8) v2.toNatClampNeg)) - (jV M1 (x0 + 1 + 8) (iV M1 x1 0).toNatClampNeg))), none], [.ref x1, .ref x0])) rfl ⟨trivial, sm_K.g (kL_0 hS3 hx1) (sm_sh.rf _), sm_K.a2 (kK_8 hS3 (fS_1 hx0)) (lK_8 hS3 (fS_1 hx0)) c7, trivial, (Nat.le_of_ble_eq_true rfl), trivial, trivial, trivial⟩ ?_
    refine sm_w.cJ t140 sr140 41 (i := 136) (as := [.ref x0, .ref x1]) (g := (72, [some (.ref x0), some (.ref x1), some (.int (x2)), some (.int (v2)), some (.long ((((jV M1 (x0 + 1 + 7) v2.toNatClampNeg) - (jV M1 (x0 + 1 + 7) (iV M1 x1 0).toNatClampNeg)) + (jV M1 (x0 + 1 + 8) v2.toNatClampNeg)) - (jV M1 (x0 + 1 + 8) (iV M1 x1 0).toNatClampNeg))), none], [])) rfl ⟨by decide, by decide, (Nat.le_of_ble_eq_true rfl), (sm_K.g (kS_0 hS3 hx0) (sm_sh.rf _)).1, (sm_K.g (kS_0 hS3 hx0) (sm_sh.rf _)).2, (Nat.le_of_ble_eq_true rfl)⟩ (Nat.le_of_ble_eq_true rfl) (by decide) (p136_c hS3 hx0 hx1) (fun vz M2 hz => ?_)
    obtain ⟨hz1, hz2⟩ := hz
    subst hz1
    have hz2 := hz2.symm
    subst hz2
    obtain ⟨c8, h⟩ := h
    refine sm_w.run t140 sr140 42 5 (M2 := M1) (f2 := (81, [some (.ref x0), some (.ref x1), some (.int (x2)), some (.int (v2)), some (.long ((((jV M1 (x0 + 1 + 7) v2.toNatClampNeg) - (jV M1 (x0 + 1 + 7) (iV M1 x1 0).toNatClampNeg)) + (jV M1 (x0 + 1 + 8) v2.toNatClampNeg)) - (jV M1 (x0 + 1 + 8) (iV M1 x1 0).toNatClampNeg))), none], [.int (v2), .ref x1, .ref x0, .long ((p136_0 M1 x0 x1) + ((((jV M1 (x0 + 1 + 7) v2.toNatClampNeg) - (jV M1 (x0 + 1 + 7) (iV M1 x1 0).toNatClampNeg)) + (jV M1 (x0 + 1 + 8) v2.toNatClampNeg)) - (jV M1 (x0 + 1 + 8) (iV M1 x1 0).toNatClampNeg)))])) rfl ⟨trivial, trivial, trivial, trivial, trivial, trivial⟩ ?_
    refine sm_w.cJ t140 sr140 47 (i := 142) (as := [.ref x0, .ref x1, .int (v2)]) (g := (81, [some (.ref x0), some (.ref x1), some (.int (x2)), some (.int (v2)), some (.long ((((jV M1 (x0 + 1 + 7) v2.toNatClampNeg) - (jV M1 (x0 + 1 + 7) (iV M1 x1 0).toNatClampNeg)) + (jV M1 (x0 + 1 + 8) v2.toNatClampNeg)) - (jV M1 (x0 + 1 + 8) (iV M1 x1 0).toNatClampNeg))), none], [.long ((p136_0 M1 x0 x1) + ((((jV M1 (x0 + 1 + 7) v2.toNatClampNeg) - (jV M1 (x0 + 1 + 7) (iV M1 x1 0).toNatClampNeg)) + (jV M1 (x0 + 1 + 8) v2.toNatClampNeg)) - (jV M1 (x0 + 1 + 8) (iV M1 x1 0).toNatClampNeg)))])) rfl ⟨by decide, by decide, (Nat.le_of_ble_eq_true rfl), (sm_K.g (kS_0 hS3 hx0) (sm_sh.rf _)).1, (sm_K.g (kS_0 hS3 hx0) (sm_sh.rf _)).2, (Nat.le_of_ble_eq_true rfl)⟩ (Nat.le_of_ble_eq_true rfl) (by decide) (p142_c hS3 hx0 hx1 c8) (fun vz M2 hz => ?_)
    obtain ⟨hz1, hz2⟩ := hz
    subst hz1
    have hz2 := hz2.symm
    subst hz2
    refine sm_w.run t140 sr140 48 1 (M2 := M1) (f2 := (85, [some (.ref x0), some (.ref x1), some (.int (x2)), some (.int (v2)), some (.long ((((jV M1 (x0 + 1 + 7) v2.toNatClampNeg) - (jV M1 (x0 + 1 + 7) (iV M1 x1 0).toNatClampNeg)) + (jV M1 (x0 + 1 + 8) v2.toNatClampNeg)) - (jV M1 (x0 + 1 + 8) (iV M1 x1 0).toNatClampNeg))), none], [.long (((p136_0 M1 x0 x1) + ((((jV M1 (x0 + 1 + 7) v2.toNatClampNeg) - (jV M1 (x0 + 1 + 7) (iV M1 x1 0).toNatClampNeg)) + (jV M1 (x0 + 1 + 8) v2.toNatClampNeg)) - (jV M1 (x0 + 1 + 8) (iV M1 x1 0).toNatClampNeg))) + (p142_0 M1 x0 x1 v2))])) rfl ⟨trivial, trivial⟩ ?_
    exact sm_w.end t140 sr140 49 (o := .returned (some (.long (((p136_0 M1 x0 x1) + ((((jV M1 (x0 + 1 + 7) v2.toNatClampNeg) - (jV M1 (x0 + 1 + 7) (iV M1 x1 0).toNatClampNeg)) + (jV M1 (x0 + 1 + 8) v2.toNatClampNeg)) - (jV M1 (x0 + 1 + 8) (iV M1 x1 0).toNatClampNeg))) + (p142_0 M1 x0 x1 v2))))) (M2 := M1) rfl trivial (by decide) (⟨_, rfl, h⟩)
  · have h := h.2 hc
    refine sm_w.run t140 sr140 2 2 (M2 := M) (f2 := (6, [some (.ref x0), some (.ref x1), some (.int (x2)), none, none, none], [.ref x1, .ref x0])) rfl ⟨trivial, trivial, trivial⟩ ?_
    refine sm_w.cJ t140 sr140 4 (i := 136) (as := [.ref x0, .ref x1]) (g := (6, [some (.ref x0), some (.ref x1), some (.int (x2)), none, none, none], [])) rfl ⟨by decide, by decide, (Nat.le_of_ble_eq_true rfl), (sm_K.g (kS_0 hS hx0) (sm_sh.rf _)).1, (sm_K.g (kS_0 hS hx0) (sm_sh.rf _)).2, (Nat.le_of_ble_eq_true rfl)⟩ (Nat.le_of_ble_eq_true rfl) (by decide) (p136_c hS hx0 hx1) (fun vz M2 hz => ?_)
    obtain ⟨hz1, hz2⟩ := hz
    subst hz1
    have hz2 := hz2.symm
    subst hz2
    exact sm_w.end t140 sr140 5 (o := .returned (some (.long (p136_0 M x0 x1)))) (M2 := M) rfl trivial (by decide) (⟨_, rfl, h⟩)
-- 139 LineSetter.spot(II)J
theorem t139 : sP 139 = (3, sp_139, sh_139) := rfl
theorem sr139 : sm_srt sp_139 = true := by decide +kernel
theorem g139_0 {M : sm_M} {x1 : Int32} {x2 : Int32} {K : Int64 → sm_M → Prop} {X : Nat → sm_M → Prop} (hS : SH M)  (h : sm_xV 135 [.ref 23, .int (x1)] M X (fun M1 => SH M1 → ((x2 < 0 → X M1.1 (sm_new M1 51 6)) ∧ (¬ x2 < 0 → ∃ r4, sm_rv M1 23 13 = some r4 ∧ fS r4 ∧ (q137_0 M1 (r4 + 1) (iV M1 41 0) (iV M1 41 1)) ∧ ((x2 < (p137_0 M1 (r4 + 1) (iV M1 41 0) (iV M1 41 1)) → ∃ r8, sm_rv M1 23 13 = some r8 ∧ fS r8 ∧ sm_cJ 140 [.ref r8, .ref 41, .int (x2)] M1 (fun v12 M11 => SH M11 → K v12 M11)) ∧ (¬ x2 < (p137_0 M1 (r4 + 1) (iV M1 41 0) (iV M1 41 1)) → X M1.1 (sm_new M1 51 6))))))) : sm_w 139 (sm_in sP 139 [.ref 23, .int (x1), .int (x2)]) M (yJ X K) := by
  show sm_w 139 (0, [some (.ref 23), some (.int (x1)), some (.int (x2))], []) M (yJ X K)
  refine sm_w.run t139 sr139 0 2 (M2 := M) (f2 := (2, [some (.ref 23), some (.int (x1)), some (.int (x2))], [.int (x1), .ref 23])) rfl ⟨trivial, trivial, trivial⟩ ?_
  refine sm_w.zV t139 sr139 2 (i := 135) (as := [.ref 23, .int (x1)]) (g := (2, [some (.ref 23), some (.int (x1)), some (.int (x2))], [])) rfl ⟨by decide, by decide, (Nat.le_of_ble_eq_true rfl), (sm_K.g (k_23 hS) (sm_sh.rf _)).1, (sm_K.g (k_23 hS) (sm_sh.rf _)).2, (Nat.le_of_ble_eq_true rfl)⟩ (Nat.le_of_ble_eq_true rfl) (by decide) rfl (fun r M2 h => Or.inl ⟨r, rfl, h⟩) (sm_xV.s (by decide) hS h) (fun M1 h => ?_)
  obtain ⟨hS3, h⟩ := h
  refine sm_w.run t139 sr139 3 2 (M2 := M1) (f2 := (if x2 < 0 then 37 else 9, [some (.ref 23), some (.int (x1)), some (.int (x2))], [])) rfl ⟨trivial, trivial, trivial⟩ ?_
  refine sm_w.ite (fun hc => ?_) (fun hc => ?_)
  · have h := h.1 hc
    exact sm_w.end t139 sr139 17 (o := .threw M1.1) (M2 := sm_new M1 51 6) rfl (Nat.le_of_ble_eq_true rfl) (by decide) (Or.inl ⟨_, rfl, h⟩)
  · have h := h.2 hc
    refine sm_w.run t139 sr139 5 3 (M2 := M1) (f2 := (14, [some (.ref 23), some (.int (x1)), some (.int (x2))], [va_rf (sm_rv M1 23 13), .int (x2)])) rfl ⟨trivial, trivial, sm_K.g (k_23 hS3) (sm_sh.rf _), trivial⟩ ?_
    obtain ⟨r4, e5, h6, h⟩ := h
    refine sm_w.fld e5 ?_
    refine sm_w.run t139 sr139 8 1 (M2 := M1) (f2 := (17, [some (.ref 23), some (.int (x1)), some (.int (x2))], [va_rf (sm_rv M1 r4 0), .int (x2)])) rfl ⟨sm_K.g (kS_0 hS3 h6) (sm_sh.rf _), trivial⟩ ?_
    refine sm_w.fld (rS_0 hS3 h6) ?_
    refine sm_w.run t139 sr139 9 2 (M2 := M1) (f2 := (21, [some (.ref 23), some (.int (x1)), some (.int (x2))], [va_rf (sm_rv M1 23 8), .ref (r4 + 1), .int (x2)])) rfl ⟨trivial, sm_K.g (k_23 hS3) (sm_sh.rf _), trivial⟩ ?_
    refine sm_w.fld (r_23_8 hS3) ?_
    refine sm_w.run t139 sr139 11 3 (M2 := M1) (f2 := (28, [some (.ref 23), some (.int (x1)), some (.int (x2))], [va_rf (sm_rv M1 23 8), .int (iV M1 41 0), .ref (r4 + 1), .int (x2)])) rfl ⟨sm_K.g (kL_0 hS3 fL_41) (sm_sh.rf _), trivial, sm_K.g (k_23 hS3) (sm_sh.rf _), trivial⟩ ?_
    refine sm_w.fld (r_23_8 hS3) ?_
    obtain ⟨c7, h⟩ := h
    refine sm_w.run t139 sr139 14 1 (M2 := M1) (f2 := (31, [some (.ref 23), some (.int (x1)), some (.int (x2))], [.int (iV M1 41 1), .int (iV M1 41 0), .ref (r4 + 1), .int (x2)])) rfl ⟨sm_K.g (kL_0 hS3 fL_41) (sm_sh.rf _), trivial⟩ ?_
    refine sm_w.cI t139 sr139 15 (i := 137) (as := [.ref (r4 + 1), .int (iV M1 41 0), .int (iV M1 41 1)]) (g := (31, [some (.ref 23), some (.int (x1)), some (.int (x2))], [.int (x2)])) rfl ⟨by decide, by decide, (Nat.le_of_ble_eq_true rfl), (sm_K.g (kK_0 hS3 (fS_1 h6)) (sm_sh.rf _)).1, (sm_K.g (kK_0 hS3 (fS_1 h6)) (sm_sh.rf _)).2, (Nat.le_of_ble_eq_true rfl)⟩ (Nat.le_of_ble_eq_true rfl) (by decide) (p137_c hS3 (fS_1 h6) c7) (fun vz M2 hz => ?_)
    obtain ⟨hz1, hz2⟩ := hz
    subst hz1
    have hz2 := hz2.symm
    subst hz2
    refine sm_w.run t139 sr139 16 1 (M2 := M1) (f2 := (if x2 < (p137_0 M1 (r4 + 1) (iV M1 41 0) (iV M1 41 1)) then 48 else 37, [some (.ref 23), some (.int (x1)), some (.int (x2))], [])) rfl ⟨trivial, trivial⟩ ?_
    refine sm_w.ite (fun hc => ?_) (fun hc => ?_)
    · have h := h.1 hc
      refine sm_w.run t139 sr139 18 2 (M2 := M1) (f2 := (52, [some (.ref 23), some (.int (x1)), some (.int (x2))], [va_rf (sm_rv M1 23 13)])) rfl ⟨trivial, sm_K.g (k_23 hS3) (sm_sh.rf _), trivial⟩ ?_
      obtain ⟨r8, e9, h10, h⟩ := h
      refine sm_w.fld e9 ?_
      refine sm_w.run t139 sr139 20 2 (M2 := M1) (f2 := (56, [some (.ref 23), some (.int (x1)), some (.int (x2))], [va_rf (sm_rv M1 23 8), .ref r8])) rfl ⟨trivial, sm_K.g (k_23 hS3) (sm_sh.rf _), trivial⟩ ?_
      refine sm_w.fld (r_23_8 hS3) ?_
      refine sm_w.run t139 sr139 22 1 (M2 := M1) (f2 := (57, [some (.ref 23), some (.int (x1)), some (.int (x2))], [.int (x2), .ref 41, .ref r8])) rfl ⟨trivial, trivial⟩ ?_
      refine sm_w.cJ t139 sr139 23 (i := 140) (as := [.ref r8, .ref 41, .int (x2)]) (g := (57, [some (.ref 23), some (.int (x1)), some (.int (x2))], [])) rfl ⟨by decide, by decide, (Nat.le_of_ble_eq_true rfl), (sm_K.g (kS_0 hS3 h10) (sm_sh.rf _)).1, (sm_K.g (kS_0 hS3 h10) (sm_sh.rf _)).2, (Nat.le_of_ble_eq_true rfl)⟩ (Nat.le_of_ble_eq_true rfl) (by decide) (sm_cJ.s (by decide) hS3 h) (fun v12 M11 h => ?_)
      obtain ⟨hS13, h⟩ := h
      exact sm_w.end t139 sr139 24 (o := .returned (some (.long (v12)))) (M2 := M11) rfl trivial (by decide) (Or.inr ⟨_, rfl, h⟩)
    · have h := h.2 hc
      exact sm_w.end t139 sr139 17 (o := .threw M1.1) (M2 := sm_new M1 51 6) rfl (Nat.le_of_ble_eq_true rfl) (by decide) (Or.inl ⟨_, rfl, h⟩)
-- 138 LineSetterLaw.spot(LLineSetter;II[J)I
theorem t138 : sP 138 = (5, sp_138, sh_138) := rfl
theorem sr138 : sm_srt sp_138 = true := by decide +kernel
theorem g138_0 {M : sm_M} {x1 : Int32} {x2 : Int32} {K : Int32 → sm_M → Prop} (hS : SH M)  (h : sm_xJ 139 [.ref 23, .int (x1), .int (x2)] M (fun r0 M0 => (sm_kd M0 r0 = 48 ∧ SH M0 ∧ K (1 : Int32) M0) ∨ (sm_kd M0 r0 = 49 ∧ SH M0 ∧ K (2 : Int32) M0) ∨ (sm_kd M0 r0 = 51 ∧ SH M0 ∧ K (3 : Int32) M0)) (fun v2 M1 => SH M1 → (vp_in (0 : Int32) 1) ∧ ∀ M5, SH M5 → M5 = sm_wJ M1 164 (0 : Int32).toNatClampNeg v2 → K (0 : Int32) M5)) : sm_w 138 (sm_in sP 138 [.ref 23, .int (x1), .int (x2), .ref 164]) M (rI K) := by
  show sm_w 138 (0, [some (.ref 23), some (.int (x1)), some (.int (x2)), some (.ref 164), none], []) M (rI K)
  refine sm_w.run t138 sr138 0 5 (M2 := M) (f2 := (5, [some (.ref 23), some (.int (x1)), some (.int (x2)), some (.ref 164), none], [.int (x2), .int (x1), .ref 23, .int ((0 : Int32)), .ref 164])) rfl ⟨trivial, trivial, trivial, trivial, trivial, trivial⟩ ?_
  refine sm_w.yJ t138 sr138 5 (i := 139) (as := [.ref 23, .int (x1), .int (x2)]) (g := (5, [some (.ref 23), some (.int (x1)), some (.int (x2)), some (.ref 164), none], [.int ((0 : Int32)), .ref 164])) rfl ⟨by decide, by decide, (Nat.le_of_ble_eq_true rfl), (sm_K.g (k_23 hS) (sm_sh.rf _)).1, (sm_K.g (k_23 hS) (sm_sh.rf _)).2, (Nat.le_of_ble_eq_true rfl)⟩ (Nat.le_of_ble_eq_true rfl) (by decide) (sm_xJ.s (by decide) hS h) (fun r0 M0 h => ?_) (fun v2 M1 h => ?_)
  · rcases h with ⟨hk, hS0, h⟩ | ⟨hk, hS0, h⟩ | ⟨hk, hS0, h⟩
    · refine ⟨12, by rw [hk]; rfl, ?_⟩
      refine sm_w.run t138 sr138 8 2 (M2 := M0) (f2 := (15, [some (.ref 23), some (.int (x1)), some (.int (x2)), some (.ref 164), some (.ref r0)], [.int ((1 : Int32))])) rfl ⟨(Nat.le_of_ble_eq_true rfl), trivial, trivial⟩ ?_
      exact sm_w.end t138 sr138 10 (o := .returned (some (.int ((1 : Int32))))) (M2 := M0) rfl rfl (by decide) (⟨_, rfl, h⟩)
    · refine ⟨16, by rw [hk]; rfl, ?_⟩
      refine sm_w.run t138 sr138 11 2 (M2 := M0) (f2 := (19, [some (.ref 23), some (.int (x1)), some (.int (x2)), some (.ref 164), some (.ref r0)], [.int ((2 : Int32))])) rfl ⟨(Nat.le_of_ble_eq_true rfl), trivial, trivial⟩ ?_
      exact sm_w.end t138 sr138 13 (o := .returned (some (.int ((2 : Int32))))) (M2 := M0) rfl rfl (by decide) (⟨_, rfl, h⟩)
    · refine ⟨20, by rw [hk]; rfl, ?_⟩
      refine sm_w.run t138 sr138 14 2 (M2 := M0) (f2 := (23, [some (.ref 23), some (.int (x1)), some (.int (x2)), some (.ref 164), some (.ref r0)], [.int ((3 : Int32))])) rfl ⟨(Nat.le_of_ble_eq_true rfl), trivial, trivial⟩ ?_
      exact sm_w.end t138 sr138 16 (o := .returned (some (.int ((3 : Int32))))) (M2 := M0) rfl rfl (by decide) (⟨_, rfl, h⟩)
  · obtain ⟨hS3, h⟩ := h
    obtain ⟨c4, h⟩ := h
    refine sm_w.run t138 sr138 6 1 (M2 := sm_wJ M1 164 (0 : Int32).toNatClampNeg v2) (f2 := (9, [some (.ref 23), some (.int (x1)), some (.int (x2)), some (.ref 164), none], [])) rfl ⟨sm_K.s2 (k_164 hS3) (l_164 hS3) c4, trivial⟩ ?_
    have hS6 : SH (sm_wJ M1 164 (0 : Int32).toNatClampNeg v2) := SH.wJ hS3 _ _ _
    have h := h _ hS6 rfl
    generalize sm_wJ M1 164 (0 : Int32).toNatClampNeg v2 = M5 at h hS6 ⊢
    refine sm_w.run t138 sr138 7 1 (M2 := M5) (f2 := (24, [some (.ref 23), some (.int (x1)), some (.int (x2)), some (.ref 164), none], [])) rfl ⟨trivial, trivial⟩ ?_
    refine sm_w.run t138 sr138 17 1 (M2 := M5) (f2 := (25, [some (.ref 23), some (.int (x1)), some (.int (x2)), some (.ref 164), none], [.int ((0 : Int32))])) rfl ⟨trivial, trivial⟩ ?_
    exact sm_w.end t138 sr138 18 (o := .returned (some (.int ((0 : Int32))))) (M2 := M5) rfl rfl (by decide) (⟨_, rfl, h⟩)
-- 145 LineSetter$Breaks.textFrom(I)I
theorem t145 : sP 145 = (2, sp_145, sh_145) := rfl
theorem sr145 : sm_srt sp_145 = true := by decide +kernel
theorem g145_0 {M : sm_M} {x0 : Nat} {x1 : Int32} {K : Int32 → sm_M → Prop} (hS : SH M) (hx0 : fK x0) (h : ((x1 ≤ 0 → (vp_in x1 601) ∧ K (iV M (x0 + 4) x1.toNatClampNeg) M) ∧ (¬ x1 ≤ 0 → (vp_in x1 601) ∧ (((iV M (x0 + 3) x1.toNatClampNeg) = 0 → (vp_in x1 601) ∧ K ((iV M (x0 + 4) x1.toNatClampNeg) + (1 : Int32)) M) ∧ (¬ (iV M (x0 + 3) x1.toNatClampNeg) = 0 → (vp_in x1 601) ∧ K (iV M (x0 + 4) x1.toNatClampNeg) M))))) : sm_w 145 (sm_in sP 145 [.ref x0, .int (x1)]) M (rI K) := by
  show sm_w 145 (0, [some (.ref x0), some (.int (x1))], []) M (rI K)
  refine sm_w.run t145 sr145 0 2 (M2 := M) (f2 := (if x1 ≤ 0 then 24 else 4, [some (.ref x0), some (.int (x1))], [])) rfl ⟨trivial, trivial, trivial⟩ ?_
  refine sm_w.ite (fun hc => ?_) (fun hc => ?_)
  · have h := h.1 hc
    refine sm_w.run t145 sr145 14 2 (M2 := M) (f2 := (28, [some (.ref x0), some (.int (x1))], [va_rf (sm_rv M x0 5)])) rfl ⟨trivial, sm_K.g (kK_0 hS hx0) (sm_sh.rf _), trivial⟩ ?_
    refine sm_w.fld (rK_5 hS hx0) ?_
    obtain ⟨c1, h⟩ := h
    refine sm_w.run t145 sr145 16 2 (M2 := M) (f2 := (30, [some (.ref x0), some (.int (x1))], [.int (iV M (x0 + 4) x1.toNatClampNeg)])) rfl ⟨trivial, sm_K.a2 (kK_4 hS hx0) (lK_4 hS hx0) c1, trivial⟩ ?_
    exact sm_w.end t145 sr145 18 (o := .returned (some (.int (iV M (x0 + 4) x1.toNatClampNeg)))) (M2 := M) rfl rfl (by decide) (⟨_, rfl, h⟩)
  · have h := h.2 hc
    refine sm_w.run t145 sr145 2 2 (M2 := M) (f2 := (8, [some (.ref x0), some (.int (x1))], [va_rf (sm_rv M x0 4)])) rfl ⟨trivial, sm_K.g (kK_0 hS hx0) (sm_sh.rf _), trivial⟩ ?_
    refine sm_w.fld (rK_4 hS hx0) ?_
    obtain ⟨c2, h⟩ := h
    refine sm_w.run t145 sr145 4 3 (M2 := M) (f2 := (if (iV M (x0 + 3) x1.toNatClampNeg) = 0 then 13 else 24, [some (.ref x0), some (.int (x1))], [])) rfl ⟨trivial, sm_K.a2 (kK_3 hS hx0) (lK_3 hS hx0) c2, trivial, trivial⟩ ?_
    refine sm_w.ite (fun hc => ?_) (fun hc => ?_)
    · have h := h.1 hc
      refine sm_w.run t145 sr145 7 2 (M2 := M) (f2 := (17, [some (.ref x0), some (.int (x1))], [va_rf (sm_rv M x0 5)])) rfl ⟨trivial, sm_K.g (kK_0 hS hx0) (sm_sh.rf _), trivial⟩ ?_
      refine sm_w.fld (rK_5 hS hx0) ?_
      obtain ⟨c3, h⟩ := h
      refine sm_w.run t145 sr145 9 5 (M2 := M) (f2 := (30, [some (.ref x0), some (.int (x1))], [.int ((iV M (x0 + 4) x1.toNatClampNeg) + (1 : Int32))])) rfl ⟨trivial, sm_K.a2 (kK_4 hS hx0) (lK_4 hS hx0) c3, trivial, trivial, trivial, trivial⟩ ?_
      exact sm_w.end t145 sr145 18 (o := .returned (some (.int ((iV M (x0 + 4) x1.toNatClampNeg) + (1 : Int32))))) (M2 := M) rfl rfl (by decide) (⟨_, rfl, h⟩)
    · have h := h.2 hc
      refine sm_w.run t145 sr145 14 2 (M2 := M) (f2 := (28, [some (.ref x0), some (.int (x1))], [va_rf (sm_rv M x0 5)])) rfl ⟨trivial, sm_K.g (kK_0 hS hx0) (sm_sh.rf _), trivial⟩ ?_
      refine sm_w.fld (rK_5 hS hx0) ?_
      obtain ⟨c4, h⟩ := h
      refine sm_w.run t145 sr145 16 2 (M2 := M) (f2 := (30, [some (.ref x0), some (.int (x1))], [.int (iV M (x0 + 4) x1.toNatClampNeg)])) rfl ⟨trivial, sm_K.a2 (kK_4 hS hx0) (lK_4 hS hx0) c4, trivial⟩ ?_
      exact sm_w.end t145 sr145 18 (o := .returned (some (.int (iV M (x0 + 4) x1.toNatClampNeg)))) (M2 := M) rfl rfl (by decide) (⟨_, rfl, h⟩)
def p145_0 (M : sm_M) (x0 : Nat) (x1 : Int32) : Int32 := if x1 ≤ 0 then (iV M (x0 + 4) x1.toNatClampNeg) else (if (iV M (x0 + 3) x1.toNatClampNeg) = 0 then ((iV M (x0 + 4) x1.toNatClampNeg) + (1 : Int32)) else (iV M (x0 + 4) x1.toNatClampNeg))
def q145_0 (M : sm_M) (x0 : Nat) (x1 : Int32) : Prop := ((x1 ≤ 0 → (vp_in x1 601)) ∧ (¬ x1 ≤ 0 → (vp_in x1 601) ∧ (((iV M (x0 + 3) x1.toNatClampNeg) = 0 → (vp_in x1 601)) ∧ (¬ (iV M (x0 + 3) x1.toNatClampNeg) = 0 → (vp_in x1 601)))))
theorem p145_c {M : sm_M} {x0 : Nat} {x1 : Int32} (hS : SH M) (hx0 : fK x0) (hq : q145_0 M x0 x1) : sm_cI 145 [.ref x0, .int (x1)] M (fun v M2 => v = p145_0 M x0 x1 ∧ M2 = M) := by
  refine g145_0 (K := (fun v M2 => v = p145_0 M x0 x1 ∧ M2 = M)) hS hx0 ?_
  unfold q145_0 at hq
  refine ⟨fun e1 => ?_, fun e1 => ?_⟩
  · have hq := hq.1 e1
    have d2 := hq
    refine ⟨d2, ?_⟩
    refine ⟨?_, rfl⟩
    unfold p145_0
    rw [if_pos e1]
  · have hq := hq.2 e1
    obtain ⟨d3, hq⟩ := hq
    refine ⟨d3, ?_⟩
    refine ⟨fun e4 => ?_, fun e4 => ?_⟩
    · have hq := hq.1 e4
      have d5 := hq
      refine ⟨d5, ?_⟩
      refine ⟨?_, rfl⟩
      unfold p145_0
      rw [if_neg e1, if_pos e4]
    · have hq := hq.2 e4
      have d6 := hq
      refine ⟨d6, ?_⟩
      refine ⟨?_, rfl⟩
      unfold p145_0
      rw [if_neg e1, if_neg e4]
-- 144 LineSetter.text(I)I
theorem t144 : sP 144 = (5, sp_144, sh_144) := rfl
theorem sr144 : sm_srt sp_144 = true := by decide +kernel
theorem g144_0 {M : sm_M} {x1 : Int32} {K : Int32 → sm_M → Prop} {X : Nat → sm_M → Prop} (hS : SH M)  (h : sm_xV 135 [.ref 23, .int (x1)] M X (fun M1 => SH M1 → ∃ r4, sm_rv M1 23 13 = some r4 ∧ fS r4 ∧ (vp_in (iV M1 41 1) 601) ∧ ∀ M8, SH M8 → M8 = sm_wI M1 26 1 (0 : Int32) → (q145_0 M8 (r4 + 1) (iV M8 41 0)) ∧ sm_w 144 (47, [some (.ref 23), none, some (.ref (r4 + 1)), some (.int (iV M1 (r4 + 1 + 4) (iV M1 41 1).toNatClampNeg)), some (.int (p145_0 M8 (r4 + 1) (iV M8 41 0)))], []) M8 (yI X K))) : sm_w 144 (sm_in sP 144 [.ref 23, .int (x1)]) M (yI X K) := by
  show sm_w 144 (0, [some (.ref 23), some (.int (x1)), none, none, none], []) M (yI X K)
  refine sm_w.run t144 sr144 0 2 (M2 := M) (f2 := (2, [some (.ref 23), some (.int (x1)), none, none, none], [.int (x1), .ref 23])) rfl ⟨trivial, trivial, trivial⟩ ?_
  refine sm_w.zV t144 sr144 2 (i := 135) (as := [.ref 23, .int (x1)]) (g := (2, [some (.ref 23), some (.int (x1)), none, none, none], [])) rfl ⟨by decide, by decide, (Nat.le_of_ble_eq_true rfl), (sm_K.g (k_23 hS) (sm_sh.rf _)).1, (sm_K.g (k_23 hS) (sm_sh.rf _)).2, (Nat.le_of_ble_eq_true rfl)⟩ (Nat.le_of_ble_eq_true rfl) (by decide) rfl (fun r M2 h => Or.inl ⟨r, rfl, h⟩) (sm_xV.s (by decide) hS h) (fun M1 h => ?_)
  obtain ⟨hS3, h⟩ := h
  refine sm_w.run t144 sr144 3 2 (M2 := M1) (f2 := (9, [some (.ref 23), some (.int (x1)), none, none, none], [va_rf (sm_rv M1 23 13)])) rfl ⟨trivial, sm_K.g (k_23 hS3) (sm_sh.rf _), trivial⟩ ?_
  obtain ⟨r4, e5, h6, h⟩ := h
  refine sm_w.fld e5 ?_
  refine sm_w.run t144 sr144 5 1 (M2 := M1) (f2 := (12, [some (.ref 23), some (.int (x1)), none, none, none], [va_rf (sm_rv M1 r4 0)])) rfl ⟨sm_K.g (kS_0 hS3 h6) (sm_sh.rf _), trivial⟩ ?_
  refine sm_w.fld (rS_0 hS3 h6) ?_
  refine sm_w.run t144 sr144 6 3 (M2 := M1) (f2 := (17, [some (.ref 23), some (.int (x1)), some (.ref (r4 + 1)), none, none], [va_rf (sm_rv M1 (r4 + 1) 5)])) rfl ⟨(Nat.le_of_ble_eq_true rfl), trivial, sm_K.g (kK_0 hS3 (fS_1 h6)) (sm_sh.rf _), trivial⟩ ?_
  refine sm_w.fld (rK_5 hS3 (fS_1 h6)) ?_
  refine sm_w.run t144 sr144 9 2 (M2 := M1) (f2 := (21, [some (.ref 23), some (.int (x1)), some (.ref (r4 + 1)), none, none], [va_rf (sm_rv M1 23 8), .ref (r4 + 1 + 4)])) rfl ⟨trivial, sm_K.g (k_23 hS3) (sm_sh.rf _), trivial⟩ ?_
  refine sm_w.fld (r_23_8 hS3) ?_
  obtain ⟨c7, h⟩ := h
  refine sm_w.run t144 sr144 11 5 (M2 := M1) (f2 := (30, [some (.ref 23), some (.int (x1)), some (.ref (r4 + 1)), some (.int (iV M1 (r4 + 1 + 4) (iV M1 41 1).toNatClampNeg)), none], [va_rf (sm_rv M1 23 1)])) rfl ⟨sm_K.g (kL_0 hS3 fL_41) (sm_sh.rf _), sm_K.a2 (kK_4 hS3 (fS_1 h6)) (lK_4 hS3 (fS_1 h6)) c7, (Nat.le_of_ble_eq_true rfl), trivial, sm_K.g (k_23 hS3) (sm_sh.rf _), trivial⟩ ?_
  refine sm_w.fld (r_23_1 hS3) ?_
  refine sm_w.run t144 sr144 16 2 (M2 := sm_wI M1 26 1 (0 : Int32)) (f2 := (34, [some (.ref 23), some (.int (x1)), some (.ref (r4 + 1)), some (.int (iV M1 (r4 + 1 + 4) (iV M1 41 1).toNatClampNeg)), none], [])) rfl ⟨trivial, ⟨(sm_K.p (kB_0 hS3 fB_26) (sm_sh.rf _)).1, (sm_K.p (kB_0 hS3 fB_26) (sm_sh.rf _)).2.1, (sm_K.p (kB_0 hS3 fB_26) (sm_sh.rf _)).2.2, Or.inl rfl⟩, trivial⟩ ?_
  have hS9 : SH (sm_wI M1 26 1 (0 : Int32)) := SH.wI hS3 _ _ _
  have h := h _ hS9 rfl
  generalize sm_wI M1 26 1 (0 : Int32) = M8 at h hS9 ⊢
  refine sm_w.run t144 sr144 18 3 (M2 := M8) (f2 := (39, [some (.ref 23), some (.int (x1)), some (.ref (r4 + 1)), some (.int (iV M1 (r4 + 1 + 4) (iV M1 41 1).toNatClampNeg)), none], [va_rf (sm_rv M8 23 8), .ref (r4 + 1)])) rfl ⟨trivial, trivial, sm_K.g (k_23 hS9) (sm_sh.rf _), trivial⟩ ?_
  refine sm_w.fld (r_23_8 hS9) ?_
  obtain ⟨c10, h⟩ := h
  refine sm_w.run t144 sr144 21 1 (M2 := M8) (f2 := (42, [some (.ref 23), some (.int (x1)), some (.ref (r4 + 1)), some (.int (iV M1 (r4 + 1 + 4) (iV M1 41 1).toNatClampNeg)), none], [.int (iV M8 41 0), .ref (r4 + 1)])) rfl ⟨sm_K.g (kL_0 hS9 fL_41) (sm_sh.rf _), trivial⟩ ?_
  refine sm_w.cI t144 sr144 22 (i := 145) (as := [.ref (r4 + 1), .int (iV M8 41 0)]) (g := (42, [some (.ref 23), some (.int (x1)), some (.ref (r4 + 1)), some (.int (iV M1 (r4 + 1 + 4) (iV M1 41 1).toNatClampNeg)), none], [])) rfl ⟨by decide, by decide, (Nat.le_of_ble_eq_true rfl), (sm_K.g (kK_0 hS9 (fS_1 h6)) (sm_sh.rf _)).1, (sm_K.g (kK_0 hS9 (fS_1 h6)) (sm_sh.rf _)).2, (Nat.le_of_ble_eq_true rfl)⟩ (Nat.le_of_ble_eq_true rfl) (by decide) (p145_c hS9 (fS_1 h6) c10) (fun vz M2 hz => ?_)
  obtain ⟨hz1, hz2⟩ := hz
  subst hz1
  have hz2 := hz2.symm
  subst hz2
  refine sm_w.run t144 sr144 23 1 (M2 := M8) (f2 := (47, [some (.ref 23), some (.int (x1)), some (.ref (r4 + 1)), some (.int (iV M1 (r4 + 1 + 4) (iV M1 41 1).toNatClampNeg)), some (.int (p145_0 M8 (r4 + 1) (iV M8 41 0)))], [])) rfl ⟨(Nat.le_of_ble_eq_true rfl), trivial⟩ ?_
  refine sm_w.weak (ls := [some (.ref 23), none, some (.ref (r4 + 1)), some (.int (iV M1 (r4 + 1 + 4) (iV M1 41 1).toNatClampNeg)), some (.int (p145_0 M8 (r4 + 1) (iV M8 41 0)))]) (sm_leI [true, false, true, true, true] rfl) ?_
  exact h
theorem g144_1 {M : sm_M} {x2 : Nat} {x3 : Int32} {x4 : Int32} {K : Int32 → sm_M → Prop} {X : Nat → sm_M → Prop} (hS : SH M) (hx2 : fK x2) (h : ((x3 ≤ x4 → (vp_in (iV M 41 1) 601) ∧ (((iV M (x2 + 3) (iV M 41 1).toNatClampNeg) = (1 : Int32) → sm_cV 20 [.ref 26, .int ((45 : Int32))] M (fun M2 => SH M2 → K (iV M2 26 1) M2)) ∧ (¬ (iV M (x2 + 3) (iV M 41 1).toNatClampNeg) = (1 : Int32) → K (iV M 26 1) M))) ∧ (¬ x3 ≤ x4 → (vp_in x4 4000) ∧ sm_cV 20 [.ref 26, .int (iV M (x2 + 1) x4.toNatClampNeg)] M (fun M6 => SH M6 → sm_w 144 (47, [some (.ref 23), none, some (.ref x2), some (.int (x3)), some (.int (x4 + (1 : Int32)))], []) M6 (yI X K))))) : sm_w 144 (47, [some (.ref 23), none, some (.ref x2), some (.int (x3)), some (.int (x4))], []) M (yI X K) := by
  refine sm_w.run t144 sr144 24 3 (M2 := M) (f2 := (if x3 ≤ x4 then 73 else 53, [some (.ref 23), none, some (.ref x2), some (.int (x3)), some (.int (x4))], [])) rfl ⟨trivial, trivial, trivial, trivial⟩ ?_
  refine sm_w.ite (fun hc => ?_) (fun hc => ?_)
  · have h := h.1 hc
    refine sm_w.run t144 sr144 36 2 (M2 := M) (f2 := (77, [some (.ref 23), none, some (.ref x2), some (.int (x3)), some (.int (x4))], [va_rf (sm_rv M x2 4)])) rfl ⟨trivial, sm_K.g (kK_0 hS hx2) (sm_sh.rf _), trivial⟩ ?_
    refine sm_w.fld (rK_4 hS hx2) ?_
    refine sm_w.run t144 sr144 38 2 (M2 := M) (f2 := (81, [some (.ref 23), none, some (.ref x2), some (.int (x3)), some (.int (x4))], [va_rf (sm_rv M 23 8), .ref (x2 + 3)])) rfl ⟨trivial, sm_K.g (k_23 hS) (sm_sh.rf _), trivial⟩ ?_
    refine sm_w.fld (r_23_8 hS) ?_
    obtain ⟨c1, h⟩ := h
    refine sm_w.run t144 sr144 40 4 (M2 := M) (f2 := (if (iV M (x2 + 3) (iV M 41 1).toNatClampNeg) = (1 : Int32) then 89 else 98, [some (.ref 23), none, some (.ref x2), some (.int (x3)), some (.int (x4))], [])) rfl ⟨sm_K.g (kL_0 hS fL_41) (sm_sh.rf _), sm_K.a2 (kK_3 hS hx2) (lK_3 hS hx2) c1, trivial, trivial, trivial⟩ ?_
    refine sm_w.ite (fun hc => ?_) (fun hc => ?_)
    · have h := h.1 hc
      refine sm_w.run t144 sr144 44 2 (M2 := M) (f2 := (93, [some (.ref 23), none, some (.ref x2), some (.int (x3)), some (.int (x4))], [va_rf (sm_rv M 23 1)])) rfl ⟨trivial, sm_K.g (k_23 hS) (sm_sh.rf _), trivial⟩ ?_
      refine sm_w.fld (r_23_1 hS) ?_
      refine sm_w.run t144 sr144 46 1 (M2 := M) (f2 := (95, [some (.ref 23), none, some (.ref x2), some (.int (x3)), some (.int (x4))], [.int ((45 : Int32)), .ref 26])) rfl ⟨trivial, trivial⟩ ?_
      refine sm_w.cV t144 sr144 47 (i := 20) (as := [.ref 26, .int ((45 : Int32))]) (g := (95, [some (.ref 23), none, some (.ref x2), some (.int (x3)), some (.int (x4))], [])) rfl ⟨by decide, by decide, (Nat.le_of_ble_eq_true rfl), (sm_K.g (kB_0 hS fB_26) (sm_sh.rf _)).1, (sm_K.g (kB_0 hS fB_26) (sm_sh.rf _)).2, (Nat.le_of_ble_eq_true rfl)⟩ (Nat.le_of_ble_eq_true rfl) (by decide) (sm_cV.s (by decide) hS h) (fun M2 h => ?_)
      obtain ⟨hS4, h⟩ := h
      refine sm_w.run t144 sr144 48 2 (M2 := M2) (f2 := (102, [some (.ref 23), none, some (.ref x2), some (.int (x3)), some (.int (x4))], [va_rf (sm_rv M2 23 1)])) rfl ⟨trivial, sm_K.g (k_23 hS4) (sm_sh.rf _), trivial⟩ ?_
      refine sm_w.fld (r_23_1 hS4) ?_
      refine sm_w.run t144 sr144 50 1 (M2 := M2) (f2 := (105, [some (.ref 23), none, some (.ref x2), some (.int (x3)), some (.int (x4))], [.int (iV M2 26 1)])) rfl ⟨sm_K.g (kB_0 hS4 fB_26) (sm_sh.rf _), trivial⟩ ?_
      exact sm_w.end t144 sr144 51 (o := .returned (some (.int (iV M2 26 1)))) (M2 := M2) rfl rfl (by decide) (Or.inr ⟨_, rfl, h⟩)
    · have h := h.2 hc
      refine sm_w.run t144 sr144 48 2 (M2 := M) (f2 := (102, [some (.ref 23), none, some (.ref x2), some (.int (x3)), some (.int (x4))], [va_rf (sm_rv M 23 1)])) rfl ⟨trivial, sm_K.g (k_23 hS) (sm_sh.rf _), trivial⟩ ?_
      refine sm_w.fld (r_23_1 hS) ?_
      refine sm_w.run t144 sr144 50 1 (M2 := M) (f2 := (105, [some (.ref 23), none, some (.ref x2), some (.int (x3)), some (.int (x4))], [.int (iV M 26 1)])) rfl ⟨sm_K.g (kB_0 hS fB_26) (sm_sh.rf _), trivial⟩ ?_
      exact sm_w.end t144 sr144 51 (o := .returned (some (.int (iV M 26 1)))) (M2 := M) rfl rfl (by decide) (Or.inr ⟨_, rfl, h⟩)
  · have h := h.2 hc
    refine sm_w.run t144 sr144 27 2 (M2 := M) (f2 := (57, [some (.ref 23), none, some (.ref x2), some (.int (x3)), some (.int (x4))], [va_rf (sm_rv M 23 1)])) rfl ⟨trivial, sm_K.g (k_23 hS) (sm_sh.rf _), trivial⟩ ?_
    refine sm_w.fld (r_23_1 hS) ?_
    refine sm_w.run t144 sr144 29 2 (M2 := M) (f2 := (61, [some (.ref 23), none, some (.ref x2), some (.int (x3)), some (.int (x4))], [va_rf (sm_rv M x2 0), .ref 26])) rfl ⟨trivial, sm_K.g (kK_0 hS hx2) (sm_sh.rf _), trivial⟩ ?_
    refine sm_w.fld (rK_0 hS hx2) ?_
    obtain ⟨c5, h⟩ := h
    refine sm_w.run t144 sr144 31 2 (M2 := M) (f2 := (64, [some (.ref 23), none, some (.ref x2), some (.int (x3)), some (.int (x4))], [.int (iV M (x2 + 1) x4.toNatClampNeg), .ref 26])) rfl ⟨trivial, sm_K.a2 (kK_1 hS hx2) (lK_1 hS hx2) c5, trivial⟩ ?_
    refine sm_w.cV t144 sr144 33 (i := 20) (as := [.ref 26, .int (iV M (x2 + 1) x4.toNatClampNeg)]) (g := (64, [some (.ref 23), none, some (.ref x2), some (.int (x3)), some (.int (x4))], [])) rfl ⟨by decide, by decide, (Nat.le_of_ble_eq_true rfl), (sm_K.g (kB_0 hS fB_26) (sm_sh.rf _)).1, (sm_K.g (kB_0 hS fB_26) (sm_sh.rf _)).2, (Nat.le_of_ble_eq_true rfl)⟩ (Nat.le_of_ble_eq_true rfl) (by decide) (sm_cV.s (by decide) hS h) (fun M6 h => ?_)
    obtain ⟨hS8, h⟩ := h
    refine sm_w.run t144 sr144 34 2 (M2 := M6) (f2 := (47, [some (.ref 23), none, some (.ref x2), some (.int (x3)), some (.int (x4 + (1 : Int32)))], [])) rfl ⟨(Nat.le_of_ble_eq_true rfl), trivial, trivial⟩ ?_
    exact h
