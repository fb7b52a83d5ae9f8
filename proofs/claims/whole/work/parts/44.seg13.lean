/-! METHODS by their segments. -/
-- 114 LineSetter$Setting.partsAndGlues(II)J
theorem t114 : sP 114 = (3, sp_114, sh_114) := rfl
theorem sr114 : sm_srt sp_114 = true := by decide +kernel
theorem g114_0 {M : sm_M} {x0 : Nat} {x1 : Int32} {x2 : Int32} {K : Int64 → sm_M → Prop} (hS : SH M) (hx0 : fS x0) (h : (vp_in x2 601) ∧ (vp_in x1 601) ∧ (vp_in (x2 - (1 : Int32)) 601) ∧ (vp_in x1 601) ∧ K ((((jV M (x0 + 1 + 7) x2.toNatClampNeg) - (jV M (x0 + 1 + 7) x1.toNatClampNeg)) + (jV M (x0 + 1 + 8) (x2 - (1 : Int32)).toNatClampNeg)) - (jV M (x0 + 1 + 8) x1.toNatClampNeg)) M) : sm_w 114 (sm_in sP 114 [.ref x0, .int (x1), .int (x2)]) M (rJ K) := by
  show sm_w 114 (0, [some (.ref x0), some (.int (x1)), some (.int (x2))], []) M (rJ K)
  refine sm_w.run t114 sr114 0 2 (M2 := M) (f2 := (4, [some (.ref x0), some (.int (x1)), some (.int (x2))], [va_rf (sm_rv M x0 0)])) rfl ⟨trivial, sm_K.g (kS_0 hS hx0) (sm_sh.rf _), trivial⟩ ?_
  refine sm_w.fld (rS_0 hS hx0) ?_
  refine sm_w.run t114 sr114 2 1 (M2 := M) (f2 := (7, [some (.ref x0), some (.int (x1)), some (.int (x2))], [va_rf (sm_rv M (x0 + 1) 8)])) rfl ⟨sm_K.g (kK_0 hS (fS_1 hx0)) (sm_sh.rf _), trivial⟩ ?_
  refine sm_w.fld (rK_8 hS (fS_1 hx0)) ?_
  obtain ⟨c1, h⟩ := h
  refine sm_w.run t114 sr114 3 4 (M2 := M) (f2 := (13, [some (.ref x0), some (.int (x1)), some (.int (x2))], [va_rf (sm_rv M x0 0), .long (jV M (x0 + 1 + 7) x2.toNatClampNeg)])) rfl ⟨trivial, sm_K.a2 (kK_7 hS (fS_1 hx0)) (lK_7 hS (fS_1 hx0)) c1, trivial, sm_K.g (kS_0 hS hx0) (sm_sh.rf _), trivial⟩ ?_
  refine sm_w.fld (rS_0 hS hx0) ?_
  refine sm_w.run t114 sr114 7 1 (M2 := M) (f2 := (16, [some (.ref x0), some (.int (x1)), some (.int (x2))], [va_rf (sm_rv M (x0 + 1) 8), .long (jV M (x0 + 1 + 7) x2.toNatClampNeg)])) rfl ⟨sm_K.g (kK_0 hS (fS_1 hx0)) (sm_sh.rf _), trivial⟩ ?_
  refine sm_w.fld (rK_8 hS (fS_1 hx0)) ?_
  obtain ⟨c2, h⟩ := h
  refine sm_w.run t114 sr114 8 5 (M2 := M) (f2 := (23, [some (.ref x0), some (.int (x1)), some (.int (x2))], [va_rf (sm_rv M x0 0), .long ((jV M (x0 + 1 + 7) x2.toNatClampNeg) - (jV M (x0 + 1 + 7) x1.toNatClampNeg))])) rfl ⟨trivial, sm_K.a2 (kK_7 hS (fS_1 hx0)) (lK_7 hS (fS_1 hx0)) c2, trivial, trivial, sm_K.g (kS_0 hS hx0) (sm_sh.rf _), trivial⟩ ?_
  refine sm_w.fld (rS_0 hS hx0) ?_
  refine sm_w.run t114 sr114 13 1 (M2 := M) (f2 := (26, [some (.ref x0), some (.int (x1)), some (.int (x2))], [va_rf (sm_rv M (x0 + 1) 9), .long ((jV M (x0 + 1 + 7) x2.toNatClampNeg) - (jV M (x0 + 1 + 7) x1.toNatClampNeg))])) rfl ⟨sm_K.g (kK_0 hS (fS_1 hx0)) (sm_sh.rf _), trivial⟩ ?_
  refine sm_w.fld (rK_9 hS (fS_1 hx0)) ?_
  obtain ⟨c3, h⟩ := h
  refine sm_w.run t114 sr114 14 7 (M2 := M) (f2 := (35, [some (.ref x0), some (.int (x1)), some (.int (x2))], [va_rf (sm_rv M x0 0), .long (((jV M (x0 + 1 + 7) x2.toNatClampNeg) - (jV M (x0 + 1 + 7) x1.toNatClampNeg)) + (jV M (x0 + 1 + 8) (x2 - (1 : Int32)).toNatClampNeg))])) rfl ⟨trivial, trivial, trivial, sm_K.a2 (kK_8 hS (fS_1 hx0)) (lK_8 hS (fS_1 hx0)) c3, trivial, trivial, sm_K.g (kS_0 hS hx0) (sm_sh.rf _), trivial⟩ ?_
  refine sm_w.fld (rS_0 hS hx0) ?_
  refine sm_w.run t114 sr114 21 1 (M2 := M) (f2 := (38, [some (.ref x0), some (.int (x1)), some (.int (x2))], [va_rf (sm_rv M (x0 + 1) 9), .long (((jV M (x0 + 1 + 7) x2.toNatClampNeg) - (jV M (x0 + 1 + 7) x1.toNatClampNeg)) + (jV M (x0 + 1 + 8) (x2 - (1 : Int32)).toNatClampNeg))])) rfl ⟨sm_K.g (kK_0 hS (fS_1 hx0)) (sm_sh.rf _), trivial⟩ ?_
  refine sm_w.fld (rK_9 hS (fS_1 hx0)) ?_
  obtain ⟨c4, h⟩ := h
  refine sm_w.run t114 sr114 22 3 (M2 := M) (f2 := (41, [some (.ref x0), some (.int (x1)), some (.int (x2))], [.long ((((jV M (x0 + 1 + 7) x2.toNatClampNeg) - (jV M (x0 + 1 + 7) x1.toNatClampNeg)) + (jV M (x0 + 1 + 8) (x2 - (1 : Int32)).toNatClampNeg)) - (jV M (x0 + 1 + 8) x1.toNatClampNeg))])) rfl ⟨trivial, sm_K.a2 (kK_8 hS (fS_1 hx0)) (lK_8 hS (fS_1 hx0)) c4, trivial, trivial⟩ ?_
  exact sm_w.end t114 sr114 25 (o := .returned (some (.long ((((jV M (x0 + 1 + 7) x2.toNatClampNeg) - (jV M (x0 + 1 + 7) x1.toNatClampNeg)) + (jV M (x0 + 1 + 8) (x2 - (1 : Int32)).toNatClampNeg)) - (jV M (x0 + 1 + 8) x1.toNatClampNeg))))) (M2 := M) rfl trivial (by decide) (⟨_, rfl, h⟩)
def p114_0 (M : sm_M) (x0 : Nat) (x1 : Int32) (x2 : Int32) : Int64 := (((jV M (x0 + 1 + 7) x2.toNatClampNeg) - (jV M (x0 + 1 + 7) x1.toNatClampNeg)) + (jV M (x0 + 1 + 8) (x2 - (1 : Int32)).toNatClampNeg)) - (jV M (x0 + 1 + 8) x1.toNatClampNeg)
def q114_0 (M : sm_M) (x0 : Nat) (x1 : Int32) (x2 : Int32) : Prop := (vp_in x2 601) ∧ (vp_in x1 601) ∧ (vp_in (x2 - (1 : Int32)) 601) ∧ (vp_in x1 601)
theorem p114_c {M : sm_M} {x0 : Nat} {x1 : Int32} {x2 : Int32} (hS : SH M) (hx0 : fS x0) (hq : q114_0 M x0 x1 x2) : sm_cJ 114 [.ref x0, .int (x1), .int (x2)] M (fun v M2 => v = p114_0 M x0 x1 x2 ∧ M2 = M) := by
  refine g114_0 (K := (fun v M2 => v = p114_0 M x0 x1 x2 ∧ M2 = M)) hS hx0 ?_
  unfold q114_0 at hq
  obtain ⟨d1, hq⟩ := hq
  refine ⟨d1, ?_⟩
  obtain ⟨d2, hq⟩ := hq
  refine ⟨d2, ?_⟩
  obtain ⟨d3, hq⟩ := hq
  refine ⟨d3, ?_⟩
  have d4 := hq
  refine ⟨d4, ?_⟩
  exact ⟨rfl, rfl⟩
-- 116 LineSetter$Line.ratioOfWidths()I
theorem t116 : sP 116 = (1, sp_116, sh_116) := rfl
theorem sr116 : sm_srt sp_116 = true := by decide +kernel
theorem g116_0 {M : sm_M} {x0 : Nat} {K : Int32 → sm_M → Prop} (hS : SH M) (hx0 : fL x0) (h : (((iV M x0 7) = 0 → (((jV M x0 2) ≤ (jV M x0 5) → (((jV M x0 2) = (jV M x0 5) → K (0 : Int32) M) ∧ (¬ (jV M x0 2) = (jV M x0 5) → (((iV M x0 6) = 0 → (((jV M x0 3) ≤ (0 : Int64) → K (100000 : Int32) M) ∧ (¬ (jV M x0 3) ≤ (0 : Int64) → (¬ (jV M x0 3) = 0) ∧ K ((if (100000 : Int64) < ((((jV M x0 5) - (jV M x0 2)) * (1000 : Int64)) / (jV M x0 3)) then (100000 : Int64) else ((((jV M x0 5) - (jV M x0 2)) * (1000 : Int64)) / (jV M x0 3))).toInt32) M))) ∧ (¬ (iV M x0 6) = 0 → K (0 : Int32) M))))) ∧ (¬ (jV M x0 2) ≤ (jV M x0 5) → (((jV M x0 4) ≤ (0 : Int64) → K (-1000 : Int32) M) ∧ (¬ (jV M x0 4) ≤ (0 : Int64) → (¬ (jV M x0 4) = 0) ∧ K ((-((((((jV M x0 2) - (jV M x0 5)) * (1000 : Int64)) + (jV M x0 4)) - (1 : Int64)) / (jV M x0 4))).toInt32) M))))) ∧ (¬ (iV M x0 7) = 0 → K (-1000 : Int32) M))) : sm_w 116 (sm_in sP 116 [.ref x0]) M (rI K) := by
  show sm_w 116 (0, [some (.ref x0)], []) M (rI K)
  refine sm_w.run t116 sr116 0 3 (M2 := M) (f2 := (if (iV M x0 7) = 0 then 11 else 7, [some (.ref x0)], [])) rfl ⟨trivial, sm_K.g (kL_0 hS hx0) (sm_sh.rf _), trivial, trivial⟩ ?_
  refine sm_w.ite (fun hc => ?_) (fun hc => ?_)
  · have h := h.1 hc
    refine sm_w.run t116 sr116 5 6 (M2 := M) (f2 := (if (lg_cmp (jV M x0 2) (jV M x0 5)) ≤ 0 then 66 else 23, [some (.ref x0)], [])) rfl ⟨trivial, sm_K.g (kL_0 hS hx0) (sm_sh.rf _), trivial, sm_K.g (kL_0 hS hx0) (sm_sh.rf _), trivial, trivial, trivial⟩ ?_
    refine sm_w.ite (fun hc => ?_) (fun hc => ?_)
    · have h := h.1 (lc_le.mp hc)
      refine sm_w.run t116 sr116 36 6 (M2 := M) (f2 := (if (lg_cmp (jV M x0 2) (jV M x0 5)) = 0 then 85 else 78, [some (.ref x0)], [])) rfl ⟨trivial, sm_K.g (kL_0 hS hx0) (sm_sh.rf _), trivial, sm_K.g (kL_0 hS hx0) (sm_sh.rf _), trivial, trivial, trivial⟩ ?_
      refine sm_w.ite (fun hc => ?_) (fun hc => ?_)
      · have h := h.1 (lc_e.mp hc)
        refine sm_w.run t116 sr116 45 1 (M2 := M) (f2 := (86, [some (.ref x0)], [.int ((0 : Int32))])) rfl ⟨trivial, trivial⟩ ?_
        exact sm_w.end t116 sr116 46 (o := .returned (some (.int ((0 : Int32))))) (M2 := M) rfl rfl (by decide) (⟨_, rfl, h⟩)
      · have h := h.2 (fun z => hc (lc_e.mpr z))
        refine sm_w.run t116 sr116 42 3 (M2 := M) (f2 := (if (iV M x0 6) = 0 then 87 else 85, [some (.ref x0)], [])) rfl ⟨trivial, sm_K.g (kL_0 hS hx0) (sm_sh.rf _), trivial, trivial⟩ ?_
        refine sm_w.ite (fun hc => ?_) (fun hc => ?_)
        · have h := h.1 hc
          refine sm_w.run t116 sr116 47 5 (M2 := M) (f2 := (if (lg_cmp (jV M x0 3) (0 : Int64)) ≤ 0 then 124 else 96, [some (.ref x0)], [])) rfl ⟨trivial, sm_K.g (kL_0 hS hx0) (sm_sh.rf _), trivial, trivial, trivial, trivial⟩ ?_
          refine sm_w.ite (fun hc => ?_) (fun hc => ?_)
          · have h := h.1 (lc_le.mp hc)
            refine sm_w.run t116 sr116 66 1 (M2 := M) (f2 := (126, [some (.ref x0)], [.int ((100000 : Int32))])) rfl ⟨trivial, trivial⟩ ?_
            exact sm_w.end t116 sr116 67 (o := .returned (some (.int ((100000 : Int32))))) (M2 := M) rfl rfl (by decide) (⟨_, rfl, h⟩)
          · have h := h.2 (fun z => hc (lc_le.mpr z))
            obtain ⟨c1, h⟩ := h
            refine sm_w.run t116 sr116 52 14 (M2 := M) (f2 := (126, [some (.ref x0)], [.int ((if (100000 : Int64) < ((((jV M x0 5) - (jV M x0 2)) * (1000 : Int64)) / (jV M x0 3)) then (100000 : Int64) else ((((jV M x0 5) - (jV M x0 2)) * (1000 : Int64)) / (jV M x0 3))).toInt32)])) rfl ⟨trivial, sm_K.g (kL_0 hS hx0) (sm_sh.rf _), trivial, sm_K.g (kL_0 hS hx0) (sm_sh.rf _), trivial, trivial, trivial, trivial, sm_K.g (kL_0 hS hx0) (sm_sh.rf _), c1, trivial, (Nat.le_of_ble_eq_true rfl), trivial, trivial, trivial⟩ ?_
            exact sm_w.end t116 sr116 67 (o := .returned (some (.int ((if (100000 : Int64) < ((((jV M x0 5) - (jV M x0 2)) * (1000 : Int64)) / (jV M x0 3)) then (100000 : Int64) else ((((jV M x0 5) - (jV M x0 2)) * (1000 : Int64)) / (jV M x0 3))).toInt32)))) (M2 := M) rfl rfl (by decide) (⟨_, rfl, h⟩)
        · have h := h.2 hc
          refine sm_w.run t116 sr116 45 1 (M2 := M) (f2 := (86, [some (.ref x0)], [.int ((0 : Int32))])) rfl ⟨trivial, trivial⟩ ?_
          exact sm_w.end t116 sr116 46 (o := .returned (some (.int ((0 : Int32))))) (M2 := M) rfl rfl (by decide) (⟨_, rfl, h⟩)
    · have h := h.2 (fun z => hc (lc_le.mpr z))
      refine sm_w.run t116 sr116 11 5 (M2 := M) (f2 := (if (lg_cmp (jV M x0 4) (0 : Int64)) ≤ 0 then 62 else 32, [some (.ref x0)], [])) rfl ⟨trivial, sm_K.g (kL_0 hS hx0) (sm_sh.rf _), trivial, trivial, trivial, trivial⟩ ?_
      refine sm_w.ite (fun hc => ?_) (fun hc => ?_)
      · have h := h.1 (lc_le.mp hc)
        refine sm_w.run t116 sr116 34 1 (M2 := M) (f2 := (65, [some (.ref x0)], [.int ((-1000 : Int32))])) rfl ⟨trivial, trivial⟩ ?_
        exact sm_w.end t116 sr116 35 (o := .returned (some (.int ((-1000 : Int32))))) (M2 := M) rfl rfl (by decide) (⟨_, rfl, h⟩)
      · have h := h.2 (fun z => hc (lc_le.mpr z))
        obtain ⟨c2, h⟩ := h
        refine sm_w.run t116 sr116 16 18 (M2 := M) (f2 := (65, [some (.ref x0)], [.int ((-((((((jV M x0 2) - (jV M x0 5)) * (1000 : Int64)) + (jV M x0 4)) - (1 : Int64)) / (jV M x0 4))).toInt32)])) rfl ⟨trivial, sm_K.g (kL_0 hS hx0) (sm_sh.rf _), trivial, sm_K.g (kL_0 hS hx0) (sm_sh.rf _), trivial, trivial, trivial, trivial, sm_K.g (kL_0 hS hx0) (sm_sh.rf _), trivial, trivial, trivial, trivial, sm_K.g (kL_0 hS hx0) (sm_sh.rf _), c2, trivial, trivial, trivial, trivial⟩ ?_
        exact sm_w.end t116 sr116 35 (o := .returned (some (.int ((-((((((jV M x0 2) - (jV M x0 5)) * (1000 : Int64)) + (jV M x0 4)) - (1 : Int64)) / (jV M x0 4))).toInt32)))) (M2 := M) rfl rfl (by decide) (⟨_, rfl, h⟩)
  · have h := h.2 hc
    refine sm_w.run t116 sr116 3 1 (M2 := M) (f2 := (10, [some (.ref x0)], [.int ((-1000 : Int32))])) rfl ⟨trivial, trivial⟩ ?_
    exact sm_w.end t116 sr116 4 (o := .returned (some (.int ((-1000 : Int32))))) (M2 := M) rfl rfl (by decide) (⟨_, rfl, h⟩)
def p116_0 (M : sm_M) (x0 : Nat) : Int32 := if (iV M x0 7) = 0 then (if (jV M x0 2) ≤ (jV M x0 5) then (if (jV M x0 2) = (jV M x0 5) then (0 : Int32) else (if (iV M x0 6) = 0 then (if (jV M x0 3) ≤ (0 : Int64) then (100000 : Int32) else ((if (100000 : Int64) < ((((jV M x0 5) - (jV M x0 2)) * (1000 : Int64)) / (jV M x0 3)) then (100000 : Int64) else ((((jV M x0 5) - (jV M x0 2)) * (1000 : Int64)) / (jV M x0 3))).toInt32)) else (0 : Int32))) else (if (jV M x0 4) ≤ (0 : Int64) then (-1000 : Int32) else ((-((((((jV M x0 2) - (jV M x0 5)) * (1000 : Int64)) + (jV M x0 4)) - (1 : Int64)) / (jV M x0 4))).toInt32))) else (-1000 : Int32)
def q116_0 (M : sm_M) (x0 : Nat) : Prop := (((iV M x0 7) = 0 → (((jV M x0 2) ≤ (jV M x0 5) → (((jV M x0 2) = (jV M x0 5) → True) ∧ (¬ (jV M x0 2) = (jV M x0 5) → (((iV M x0 6) = 0 → (((jV M x0 3) ≤ (0 : Int64) → True) ∧ (¬ (jV M x0 3) ≤ (0 : Int64) → (¬ (jV M x0 3) = 0)))) ∧ (¬ (iV M x0 6) = 0 → True))))) ∧ (¬ (jV M x0 2) ≤ (jV M x0 5) → (((jV M x0 4) ≤ (0 : Int64) → True) ∧ (¬ (jV M x0 4) ≤ (0 : Int64) → (¬ (jV M x0 4) = 0)))))) ∧ (¬ (iV M x0 7) = 0 → True))
theorem p116_c {M : sm_M} {x0 : Nat} (hS : SH M) (hx0 : fL x0) (hq : q116_0 M x0) : sm_cI 116 [.ref x0] M (fun v M2 => v = p116_0 M x0 ∧ M2 = M) := by
  refine g116_0 (K := (fun v M2 => v = p116_0 M x0 ∧ M2 = M)) hS hx0 ?_
  unfold q116_0 at hq
  refine ⟨fun e1 => ?_, fun e1 => ?_⟩
  · have hq := hq.1 e1
    refine ⟨fun e2 => ?_, fun e2 => ?_⟩
    · have hq := hq.1 e2
      refine ⟨fun e3 => ?_, fun e3 => ?_⟩
      · refine ⟨?_, rfl⟩
        unfold p116_0
        rw [if_pos e1, if_pos e2, if_pos e3]
      · have hq := hq.2 e3
        refine ⟨fun e4 => ?_, fun e4 => ?_⟩
        · have hq := hq.1 e4
          refine ⟨fun e5 => ?_, fun e5 => ?_⟩
          · refine ⟨?_, rfl⟩
            unfold p116_0
            rw [if_pos e1, if_pos e2, if_neg e3, if_pos e4, if_pos e5]
          · have hq := hq.2 e5
            have d6 := hq
            refine ⟨d6, ?_⟩
            refine ⟨?_, rfl⟩
            unfold p116_0
            rw [if_pos e1, if_pos e2, if_neg e3, if_pos e4, if_neg e5]
        · refine ⟨?_, rfl⟩
          unfold p116_0
          rw [if_pos e1, if_pos e2, if_neg e3, if_neg e4]
    · have hq := hq.2 e2
      refine ⟨fun e7 => ?_, fun e7 => ?_⟩
      · refine ⟨?_, rfl⟩
        unfold p116_0
        rw [if_pos e1, if_neg e2, if_pos e7]
      · have hq := hq.2 e7
        have d8 := hq
        refine ⟨d8, ?_⟩
        refine ⟨?_, rfl⟩
        unfold p116_0
        rw [if_pos e1, if_neg e2, if_neg e7]
  · refine ⟨?_, rfl⟩
    unfold p116_0
    rw [if_neg e1]
-- 117 LineSetter$Line.badnessOfRatio()I
theorem t117 : sP 117 = (3, sp_117, sh_117) := rfl
theorem sr117 : sm_srt sp_117 = true := by decide +kernel
theorem g117_0 {M : sm_M} {x0 : Nat} {K : Int32 → sm_M → Prop} (hS : SH M) (hx0 : fL x0) (h : ((0 ≤ (iV M x0 8) → K ((if (10000 : Int64) < (((((100 : Int64) * ((iV M x0 8).toInt64)) * ((iV M x0 8).toInt64)) * ((iV M x0 8).toInt64)) / (1000000000 : Int64)) then (10000 : Int64) else (((((100 : Int64) * ((iV M x0 8).toInt64)) * ((iV M x0 8).toInt64)) * ((iV M x0 8).toInt64)) / (1000000000 : Int64))).toInt32) M) ∧ (¬ 0 ≤ (iV M x0 8) → K ((if (10000 : Int64) < (((((100 : Int64) * ((-(iV M x0 8)).toInt64)) * ((-(iV M x0 8)).toInt64)) * ((-(iV M x0 8)).toInt64)) / (1000000000 : Int64)) then (10000 : Int64) else (((((100 : Int64) * ((-(iV M x0 8)).toInt64)) * ((-(iV M x0 8)).toInt64)) * ((-(iV M x0 8)).toInt64)) / (1000000000 : Int64))).toInt32) M))) : sm_w 117 (sm_in sP 117 [.ref x0]) M (rI K) := by
  show sm_w 117 (0, [some (.ref x0), none, none], []) M (rI K)
  refine sm_w.run t117 sr117 0 3 (M2 := M) (f2 := (if 0 ≤ (iV M x0 8) then 16 else 7, [some (.ref x0), none, none], [])) rfl ⟨trivial, sm_K.g (kL_0 hS hx0) (sm_sh.rf _), trivial, trivial⟩ ?_
  refine sm_w.ite (fun hc => ?_) (fun hc => ?_)
  · have h := h.1 hc
    refine sm_w.run t117 sr117 8 16 (M2 := M) (f2 := (42, [some (.ref x0), some (.long ((iV M x0 8).toInt64)), none], [.int ((if (10000 : Int64) < (((((100 : Int64) * ((iV M x0 8).toInt64)) * ((iV M x0 8).toInt64)) * ((iV M x0 8).toInt64)) / (1000000000 : Int64)) then (10000 : Int64) else (((((100 : Int64) * ((iV M x0 8).toInt64)) * ((iV M x0 8).toInt64)) * ((iV M x0 8).toInt64)) / (1000000000 : Int64))).toInt32)])) rfl ⟨trivial, sm_K.g (kL_0 hS hx0) (sm_sh.rf _), trivial, (Nat.le_of_ble_eq_true rfl), trivial, trivial, trivial, trivial, trivial, trivial, trivial, trivial, by decide, trivial, (Nat.le_of_ble_eq_true rfl), trivial, trivial⟩ ?_
    exact sm_w.end t117 sr117 24 (o := .returned (some (.int ((if (10000 : Int64) < (((((100 : Int64) * ((iV M x0 8).toInt64)) * ((iV M x0 8).toInt64)) * ((iV M x0 8).toInt64)) / (1000000000 : Int64)) then (10000 : Int64) else (((((100 : Int64) * ((iV M x0 8).toInt64)) * ((iV M x0 8).toInt64)) * ((iV M x0 8).toInt64)) / (1000000000 : Int64))).toInt32)))) (M2 := M) rfl rfl (by decide) (⟨_, rfl, h⟩)
  · have h := h.2 hc
    refine sm_w.run t117 sr117 3 5 (M2 := M) (f2 := (21, [some (.ref x0), none, none], [.long ((-(iV M x0 8)).toInt64)])) rfl ⟨trivial, sm_K.g (kL_0 hS hx0) (sm_sh.rf _), trivial, trivial, trivial, trivial⟩ ?_
    refine sm_w.run t117 sr117 11 13 (M2 := M) (f2 := (42, [some (.ref x0), some (.long ((-(iV M x0 8)).toInt64)), none], [.int ((if (10000 : Int64) < (((((100 : Int64) * ((-(iV M x0 8)).toInt64)) * ((-(iV M x0 8)).toInt64)) * ((-(iV M x0 8)).toInt64)) / (1000000000 : Int64)) then (10000 : Int64) else (((((100 : Int64) * ((-(iV M x0 8)).toInt64)) * ((-(iV M x0 8)).toInt64)) * ((-(iV M x0 8)).toInt64)) / (1000000000 : Int64))).toInt32)])) rfl ⟨(Nat.le_of_ble_eq_true rfl), trivial, trivial, trivial, trivial, trivial, trivial, trivial, trivial, by decide, trivial, (Nat.le_of_ble_eq_true rfl), trivial, trivial⟩ ?_
    exact sm_w.end t117 sr117 24 (o := .returned (some (.int ((if (10000 : Int64) < (((((100 : Int64) * ((-(iV M x0 8)).toInt64)) * ((-(iV M x0 8)).toInt64)) * ((-(iV M x0 8)).toInt64)) / (1000000000 : Int64)) then (10000 : Int64) else (((((100 : Int64) * ((-(iV M x0 8)).toInt64)) * ((-(iV M x0 8)).toInt64)) * ((-(iV M x0 8)).toInt64)) / (1000000000 : Int64))).toInt32)))) (M2 := M) rfl rfl (by decide) (⟨_, rfl, h⟩)
def p117_0 (M : sm_M) (x0 : Nat) : Int32 := if 0 ≤ (iV M x0 8) then ((if (10000 : Int64) < (((((100 : Int64) * ((iV M x0 8).toInt64)) * ((iV M x0 8).toInt64)) * ((iV M x0 8).toInt64)) / (1000000000 : Int64)) then (10000 : Int64) else (((((100 : Int64) * ((iV M x0 8).toInt64)) * ((iV M x0 8).toInt64)) * ((iV M x0 8).toInt64)) / (1000000000 : Int64))).toInt32) else ((if (10000 : Int64) < (((((100 : Int64) * ((-(iV M x0 8)).toInt64)) * ((-(iV M x0 8)).toInt64)) * ((-(iV M x0 8)).toInt64)) / (1000000000 : Int64)) then (10000 : Int64) else (((((100 : Int64) * ((-(iV M x0 8)).toInt64)) * ((-(iV M x0 8)).toInt64)) * ((-(iV M x0 8)).toInt64)) / (1000000000 : Int64))).toInt32)
theorem p117_c {M : sm_M} {x0 : Nat} (hS : SH M) (hx0 : fL x0) : sm_cI 117 [.ref x0] M (fun v M2 => v = p117_0 M x0 ∧ M2 = M) := by
  refine g117_0 (K := (fun v M2 => v = p117_0 M x0 ∧ M2 = M)) hS hx0 ?_
  refine ⟨fun e1 => ?_, fun e1 => ?_⟩
  · refine ⟨?_, rfl⟩
    unfold p117_0
    rw [if_pos e1]
  · refine ⟨?_, rfl⟩
    unfold p117_0
    rw [if_neg e1]
-- 118 LineSetter$Line.gradeOfRatio()I
theorem t118 : sP 118 = (1, sp_118, sh_118) := rfl
theorem sr118 : sm_srt sp_118 = true := by decide +kernel
theorem g118_0 {M : sm_M} {x0 : Nat} {K : Int32 → sm_M → Prop} (hS : SH M) (hx0 : fL x0) (h : (((-500 : Int32) ≤ (iV M x0 8) → (((500 : Int32) < (iV M x0 8) → (((1000 : Int32) < (iV M x0 8) → K (3 : Int32) M) ∧ (¬ (1000 : Int32) < (iV M x0 8) → K (2 : Int32) M))) ∧ (¬ (500 : Int32) < (iV M x0 8) → K (1 : Int32) M))) ∧ (¬ (-500 : Int32) ≤ (iV M x0 8) → K (0 : Int32) M))) : sm_w 118 (sm_in sP 118 [.ref x0]) M (rI K) := by
  show sm_w 118 (0, [some (.ref x0)], []) M (rI K)
  refine sm_w.run t118 sr118 0 4 (M2 := M) (f2 := (if (-500 : Int32) ≤ (iV M x0 8) then 12 else 10, [some (.ref x0)], [])) rfl ⟨trivial, sm_K.g (kL_0 hS hx0) (sm_sh.rf _), trivial, trivial, trivial⟩ ?_
  refine sm_w.ite (fun hc => ?_) (fun hc => ?_)
  · have h := h.1 hc
    refine sm_w.run t118 sr118 6 4 (M2 := M) (f2 := (if (500 : Int32) < (iV M x0 8) then 24 else 22, [some (.ref x0)], [])) rfl ⟨trivial, sm_K.g (kL_0 hS hx0) (sm_sh.rf _), trivial, trivial, trivial⟩ ?_
    refine sm_w.ite (fun hc => ?_) (fun hc => ?_)
    · have h := h.1 hc
      refine sm_w.run t118 sr118 12 4 (M2 := M) (f2 := (if (1000 : Int32) < (iV M x0 8) then 38 else 34, [some (.ref x0)], [])) rfl ⟨trivial, sm_K.g (kL_0 hS hx0) (sm_sh.rf _), trivial, trivial, trivial⟩ ?_
      refine sm_w.ite (fun hc => ?_) (fun hc => ?_)
      · have h := h.1 hc
        refine sm_w.run t118 sr118 18 1 (M2 := M) (f2 := (39, [some (.ref x0)], [.int ((3 : Int32))])) rfl ⟨trivial, trivial⟩ ?_
        exact sm_w.end t118 sr118 19 (o := .returned (some (.int ((3 : Int32))))) (M2 := M) rfl rfl (by decide) (⟨_, rfl, h⟩)
      · have h := h.2 hc
        refine sm_w.run t118 sr118 16 2 (M2 := M) (f2 := (39, [some (.ref x0)], [.int ((2 : Int32))])) rfl ⟨trivial, trivial, trivial⟩ ?_
        exact sm_w.end t118 sr118 19 (o := .returned (some (.int ((2 : Int32))))) (M2 := M) rfl rfl (by decide) (⟨_, rfl, h⟩)
    · have h := h.2 hc
      refine sm_w.run t118 sr118 10 1 (M2 := M) (f2 := (23, [some (.ref x0)], [.int ((1 : Int32))])) rfl ⟨trivial, trivial⟩ ?_
      exact sm_w.end t118 sr118 11 (o := .returned (some (.int ((1 : Int32))))) (M2 := M) rfl rfl (by decide) (⟨_, rfl, h⟩)
  · have h := h.2 hc
    refine sm_w.run t118 sr118 4 1 (M2 := M) (f2 := (11, [some (.ref x0)], [.int ((0 : Int32))])) rfl ⟨trivial, trivial⟩ ?_
    exact sm_w.end t118 sr118 5 (o := .returned (some (.int ((0 : Int32))))) (M2 := M) rfl rfl (by decide) (⟨_, rfl, h⟩)
def p118_0 (M : sm_M) (x0 : Nat) : Int32 := if (-500 : Int32) ≤ (iV M x0 8) then (if (500 : Int32) < (iV M x0 8) then (if (1000 : Int32) < (iV M x0 8) then (3 : Int32) else (2 : Int32)) else (1 : Int32)) else (0 : Int32)
theorem p118_c {M : sm_M} {x0 : Nat} (hS : SH M) (hx0 : fL x0) : sm_cI 118 [.ref x0] M (fun v M2 => v = p118_0 M x0 ∧ M2 = M) := by
  refine g118_0 (K := (fun v M2 => v = p118_0 M x0 ∧ M2 = M)) hS hx0 ?_
  refine ⟨fun e1 => ?_, fun e1 => ?_⟩
  · refine ⟨fun e2 => ?_, fun e2 => ?_⟩
    · refine ⟨fun e3 => ?_, fun e3 => ?_⟩
      · refine ⟨?_, rfl⟩
        unfold p118_0
        rw [if_pos e1, if_pos e2, if_pos e3]
      · refine ⟨?_, rfl⟩
        unfold p118_0
        rw [if_pos e1, if_pos e2, if_neg e3]
    · refine ⟨?_, rfl⟩
      unfold p118_0
      rw [if_pos e1, if_neg e2]
  · refine ⟨?_, rfl⟩
    unfold p118_0
    rw [if_neg e1]
-- 115 LineSetter$Line.rate()V
theorem t115 : sP 115 = (1, sp_115, sh_115) := rfl
theorem sr115 : sm_srt sp_115 = true := by decide +kernel
theorem g115_0 {M : sm_M} {x0 : Nat} {K : sm_M → Prop} (hS : SH M) (hx0 : fL x0) (h : ((((jV M x0 2) - (jV M x0 5)) ≤ (jV M x0 4) → ∀ M1, SH M1 → M1 = sm_wI M x0 7 (0 : Int32) → (q116_0 M1 x0) ∧ ∀ M4, SH M4 → M4 = sm_wI M1 x0 8 (p116_0 M1 x0) → (((iV M4 x0 7) = 0 → ∀ M6, SH M6 → M6 = sm_wI M4 x0 9 (p117_0 M4 x0) → ∀ M8, SH M8 → M8 = sm_wI M6 x0 10 (p118_0 M6 x0) → K M8) ∧ (¬ (iV M4 x0 7) = 0 → ∀ M10, SH M10 → M10 = sm_wI M4 x0 9 (10000 : Int32) → ∀ M12, SH M12 → M12 = sm_wI M10 x0 10 (p118_0 M10 x0) → K M12))) ∧ (¬ ((jV M x0 2) - (jV M x0 5)) ≤ (jV M x0 4) → ∀ M14, SH M14 → M14 = sm_wI M x0 7 (1 : Int32) → (q116_0 M14 x0) ∧ ∀ M17, SH M17 → M17 = sm_wI M14 x0 8 (p116_0 M14 x0) → (((iV M17 x0 7) = 0 → ∀ M19, SH M19 → M19 = sm_wI M17 x0 9 (p117_0 M17 x0) → ∀ M21, SH M21 → M21 = sm_wI M19 x0 10 (p118_0 M19 x0) → K M21) ∧ (¬ (iV M17 x0 7) = 0 → ∀ M23, SH M23 → M23 = sm_wI M17 x0 9 (10000 : Int32) → ∀ M25, SH M25 → M25 = sm_wI M23 x0 10 (p118_0 M23 x0) → K M25))))) : sm_w 115 (sm_in sP 115 [.ref x0]) M (rV K) := by
  show sm_w 115 (0, [some (.ref x0)], []) M (rV K)
  refine sm_w.run t115 sr115 0 10 (M2 := M) (f2 := (if (lg_cmp ((jV M x0 2) - (jV M x0 5)) (jV M x0 4)) ≤ 0 then 22 else 18, [some (.ref x0)], [.ref x0])) rfl ⟨trivial, trivial, sm_K.g (kL_0 hS hx0) (sm_sh.rf _), trivial, sm_K.g (kL_0 hS hx0) (sm_sh.rf _), trivial, trivial, sm_K.g (kL_0 hS hx0) (sm_sh.rf _), trivial, trivial, trivial⟩ ?_
  refine sm_w.ite (fun hc => ?_) (fun hc => ?_)
  · have h := h.1 (lc_le.mp hc)
    refine sm_w.run t115 sr115 12 2 (M2 := sm_wI M x0 7 (0 : Int32)) (f2 := (26, [some (.ref x0)], [])) rfl ⟨trivial, ⟨(sm_K.p (kL_0 hS hx0) (sm_sh.rf _)).1, (sm_K.p (kL_0 hS hx0) (sm_sh.rf _)).2.1, (sm_K.p (kL_0 hS hx0) (sm_sh.rf _)).2.2, Or.inr ⟨rfl, Or.inl rfl⟩⟩, trivial⟩ ?_
    have hS2 : SH (sm_wI M x0 7 (0 : Int32)) := SH.wI hS _ _ _
    have h := h _ hS2 rfl
    generalize sm_wI M x0 7 (0 : Int32) = M1 at h hS2 ⊢
    obtain ⟨c3, h⟩ := h
    refine sm_w.run t115 sr115 14 2 (M2 := M1) (f2 := (28, [some (.ref x0)], [.ref x0, .ref x0])) rfl ⟨trivial, trivial, trivial⟩ ?_
    refine sm_w.cI t115 sr115 16 (i := 116) (as := [.ref x0]) (g := (28, [some (.ref x0)], [.ref x0])) rfl ⟨by decide, by decide, (Nat.le_of_ble_eq_true rfl), (sm_K.g (kL_0 hS2 hx0) (sm_sh.rf _)).1, (sm_K.g (kL_0 hS2 hx0) (sm_sh.rf _)).2, (Nat.le_of_ble_eq_true rfl)⟩ (Nat.le_of_ble_eq_true rfl) (by decide) (p116_c hS2 hx0 c3) (fun vz M2 hz => ?_)
    obtain ⟨hz1, hz2⟩ := hz
    subst hz1
    have hz2 := hz2.symm
    subst hz2
    refine sm_w.run t115 sr115 17 1 (M2 := sm_wI M1 x0 8 (p116_0 M1 x0)) (f2 := (34, [some (.ref x0)], [])) rfl ⟨⟨(sm_K.p (kL_0 hS2 hx0) (sm_sh.rf _)).1, (sm_K.p (kL_0 hS2 hx0) (sm_sh.rf _)).2.1, (sm_K.p (kL_0 hS2 hx0) (sm_sh.rf _)).2.2, Or.inl rfl⟩, trivial⟩ ?_
    have hS5 : SH (sm_wI M1 x0 8 (p116_0 M1 x0)) := SH.wI hS2 _ _ _
    have h := h _ hS5 rfl
    generalize sm_wI M1 x0 8 (p116_0 M1 x0) = M4 at h hS5 ⊢
    refine sm_w.run t115 sr115 18 4 (M2 := M4) (f2 := (if (iV M4 x0 7) = 0 then 48 else 42, [some (.ref x0)], [.ref x0])) rfl ⟨trivial, trivial, sm_K.g (kL_0 hS5 hx0) (sm_sh.rf _), trivial, trivial⟩ ?_
    refine sm_w.ite (fun hc => ?_) (fun hc => ?_)
    · have h := h.1 hc
      refine sm_w.run t115 sr115 24 1 (M2 := M4) (f2 := (49, [some (.ref x0)], [.ref x0, .ref x0])) rfl ⟨trivial, trivial⟩ ?_
      refine sm_w.cI t115 sr115 25 (i := 117) (as := [.ref x0]) (g := (49, [some (.ref x0)], [.ref x0])) rfl ⟨by decide, by decide, (Nat.le_of_ble_eq_true rfl), (sm_K.g (kL_0 hS5 hx0) (sm_sh.rf _)).1, (sm_K.g (kL_0 hS5 hx0) (sm_sh.rf _)).2, (Nat.le_of_ble_eq_true rfl)⟩ (Nat.le_of_ble_eq_true rfl) (by decide) (p117_c hS5 hx0) (fun vz M2 hz => ?_)
      obtain ⟨hz1, hz2⟩ := hz
      subst hz1
      have hz2 := hz2.symm
      subst hz2
      refine sm_w.run t115 sr115 26 1 (M2 := sm_wI M4 x0 9 (p117_0 M4 x0)) (f2 := (55, [some (.ref x0)], [])) rfl ⟨⟨(sm_K.p (kL_0 hS5 hx0) (sm_sh.rf _)).1, (sm_K.p (kL_0 hS5 hx0) (sm_sh.rf _)).2.1, (sm_K.p (kL_0 hS5 hx0) (sm_sh.rf _)).2.2, Or.inl rfl⟩, trivial⟩ ?_
      have hS7 : SH (sm_wI M4 x0 9 (p117_0 M4 x0)) := SH.wI hS5 _ _ _
      have h := h _ hS7 rfl
      generalize sm_wI M4 x0 9 (p117_0 M4 x0) = M6 at h hS7 ⊢
      refine sm_w.run t115 sr115 27 2 (M2 := M6) (f2 := (57, [some (.ref x0)], [.ref x0, .ref x0])) rfl ⟨trivial, trivial, trivial⟩ ?_
      refine sm_w.cI t115 sr115 29 (i := 118) (as := [.ref x0]) (g := (57, [some (.ref x0)], [.ref x0])) rfl ⟨by decide, by decide, (Nat.le_of_ble_eq_true rfl), (sm_K.g (kL_0 hS7 hx0) (sm_sh.rf _)).1, (sm_K.g (kL_0 hS7 hx0) (sm_sh.rf _)).2, (Nat.le_of_ble_eq_true rfl)⟩ (Nat.le_of_ble_eq_true rfl) (by decide) (p118_c hS7 hx0) (fun vz M2 hz => ?_)
      obtain ⟨hz1, hz2⟩ := hz
      subst hz1
      have hz2 := hz2.symm
      subst hz2
      refine sm_w.run t115 sr115 30 1 (M2 := sm_wI M6 x0 10 (p118_0 M6 x0)) (f2 := (63, [some (.ref x0)], [])) rfl ⟨⟨(sm_K.p (kL_0 hS7 hx0) (sm_sh.rf _)).1, (sm_K.p (kL_0 hS7 hx0) (sm_sh.rf _)).2.1, (sm_K.p (kL_0 hS7 hx0) (sm_sh.rf _)).2.2, Or.inl rfl⟩, trivial⟩ ?_
      have hS9 : SH (sm_wI M6 x0 10 (p118_0 M6 x0)) := SH.wI hS7 _ _ _
      have h := h _ hS9 rfl
      generalize sm_wI M6 x0 10 (p118_0 M6 x0) = M8 at h hS9 ⊢
      exact sm_w.end t115 sr115 31 (o := .returned none) (M2 := M8) rfl trivial (by decide) (⟨rfl, h⟩)
    · have h := h.2 hc
      refine sm_w.run t115 sr115 22 2 (M2 := M4) (f2 := (52, [some (.ref x0)], [.int ((10000 : Int32)), .ref x0])) rfl ⟨trivial, trivial, trivial⟩ ?_
      refine sm_w.run t115 sr115 26 1 (M2 := sm_wI M4 x0 9 (10000 : Int32)) (f2 := (55, [some (.ref x0)], [])) rfl ⟨⟨(sm_K.p (kL_0 hS5 hx0) (sm_sh.rf _)).1, (sm_K.p (kL_0 hS5 hx0) (sm_sh.rf _)).2.1, (sm_K.p (kL_0 hS5 hx0) (sm_sh.rf _)).2.2, Or.inl rfl⟩, trivial⟩ ?_
      have hS11 : SH (sm_wI M4 x0 9 (10000 : Int32)) := SH.wI hS5 _ _ _
      have h := h _ hS11 rfl
      generalize sm_wI M4 x0 9 (10000 : Int32) = M10 at h hS11 ⊢
      refine sm_w.run t115 sr115 27 2 (M2 := M10) (f2 := (57, [some (.ref x0)], [.ref x0, .ref x0])) rfl ⟨trivial, trivial, trivial⟩ ?_
      refine sm_w.cI t115 sr115 29 (i := 118) (as := [.ref x0]) (g := (57, [some (.ref x0)], [.ref x0])) rfl ⟨by decide, by decide, (Nat.le_of_ble_eq_true rfl), (sm_K.g (kL_0 hS11 hx0) (sm_sh.rf _)).1, (sm_K.g (kL_0 hS11 hx0) (sm_sh.rf _)).2, (Nat.le_of_ble_eq_true rfl)⟩ (Nat.le_of_ble_eq_true rfl) (by decide) (p118_c hS11 hx0) (fun vz M2 hz => ?_)
      obtain ⟨hz1, hz2⟩ := hz
      subst hz1
      have hz2 := hz2.symm
      subst hz2
      refine sm_w.run t115 sr115 30 1 (M2 := sm_wI M10 x0 10 (p118_0 M10 x0)) (f2 := (63, [some (.ref x0)], [])) rfl ⟨⟨(sm_K.p (kL_0 hS11 hx0) (sm_sh.rf _)).1, (sm_K.p (kL_0 hS11 hx0) (sm_sh.rf _)).2.1, (sm_K.p (kL_0 hS11 hx0) (sm_sh.rf _)).2.2, Or.inl rfl⟩, trivial⟩ ?_
      have hS13 : SH (sm_wI M10 x0 10 (p118_0 M10 x0)) := SH.wI hS11 _ _ _
      have h := h _ hS13 rfl
      generalize sm_wI M10 x0 10 (p118_0 M10 x0) = M12 at h hS13 ⊢
      exact sm_w.end t115 sr115 31 (o := .returned none) (M2 := M12) rfl trivial (by decide) (⟨rfl, h⟩)
  · have h := h.2 (fun z => hc (lc_le.mpr z))
    refine sm_w.run t115 sr115 10 2 (M2 := M) (f2 := (23, [some (.ref x0)], [.int ((1 : Int32)), .ref x0])) rfl ⟨trivial, trivial, trivial⟩ ?_
    refine sm_w.run t115 sr115 13 1 (M2 := sm_wI M x0 7 (1 : Int32)) (f2 := (26, [some (.ref x0)], [])) rfl ⟨⟨(sm_K.p (kL_0 hS hx0) (sm_sh.rf _)).1, (sm_K.p (kL_0 hS hx0) (sm_sh.rf _)).2.1, (sm_K.p (kL_0 hS hx0) (sm_sh.rf _)).2.2, Or.inr ⟨rfl, Or.inr rfl⟩⟩, trivial⟩ ?_
    have hS15 : SH (sm_wI M x0 7 (1 : Int32)) := SH.wI hS _ _ _
    have h := h _ hS15 rfl
    generalize sm_wI M x0 7 (1 : Int32) = M14 at h hS15 ⊢
    obtain ⟨c16, h⟩ := h
    refine sm_w.run t115 sr115 14 2 (M2 := M14) (f2 := (28, [some (.ref x0)], [.ref x0, .ref x0])) rfl ⟨trivial, trivial, trivial⟩ ?_
    refine sm_w.cI t115 sr115 16 (i := 116) (as := [.ref x0]) (g := (28, [some (.ref x0)], [.ref x0])) rfl ⟨by decide, by decide, (Nat.le_of_ble_eq_true rfl), (sm_K.g (kL_0 hS15 hx0) (sm_sh.rf _)).1, (sm_K.g (kL_0 hS15 hx0) (sm_sh.rf _)).2, (Nat.le_of_ble_eq_true rfl)⟩ (Nat.le_of_ble_eq_true rfl) (by decide) (p116_c hS15 hx0 c16) (fun vz M2 hz => ?_)
    obtain ⟨hz1, hz2⟩ := hz
    subst hz1
    have hz2 := hz2.symm
    subst hz2
    refine sm_w.run t115 sr115 17 1 (M2 := sm_wI M14 x0 8 (p116_0 M14 x0)) (f2 := (34, [some (.ref x0)], [])) rfl ⟨⟨(sm_K.p (kL_0 hS15 hx0) (sm_sh.rf _)).1, (sm_K.p (kL_0 hS15 hx0) (sm_sh.rf _)).2.1, (sm_K.p (kL_0 hS15 hx0) (sm_sh.rf _)).2.2, Or.inl rfl⟩, trivial⟩ ?_
    have hS18 : SH (sm_wI M14 x0 8 (p116_0 M14 x0)) := SH.wI hS15 _ _ _
    have h := h _ hS18 rfl
    generalize sm_wI M14 x0 8 (p116_0 M14 x0) = M17 at h hS18 ⊢
    refine sm_w.run t115 sr115 18 4 (M2 := M17) (f2 := (if (iV M17 x0 7) = 0 then 48 else 42, [some (.ref x0)], [.ref x0])) rfl ⟨trivial, trivial, sm_K.g (kL_0 hS18 hx0) (sm_sh.rf _), trivial, trivial⟩ ?_
    refine sm_w.ite (fun hc => ?_) (fun hc => ?_)
    · have h := h.1 hc
      refine sm_w.run t115 sr115 24 1 (M2 := M17) (f2 := (49, [some (.ref x0)], [.ref x0, .ref x0])) rfl ⟨trivial, trivial⟩ ?_
      refine sm_w.cI t115 sr115 25 (i := 117) (as := [.ref x0]) (g := (49, [some (.ref x0)], [.ref x0])) rfl ⟨by decide, by decide, (Nat.le_of_ble_eq_true rfl), (sm_K.g (kL_0 hS18 hx0) (sm_sh.rf _)).1, (sm_K.g (kL_0 hS18 hx0) (sm_sh.rf _)).2, (Nat.le_of_ble_eq_true rfl)⟩ (Nat.le_of_ble_eq_true rfl) (by decide) (p117_c hS18 hx0) (fun vz M2 hz => ?_)
      obtain ⟨hz1, hz2⟩ := hz
      subst hz1
      have hz2 := hz2.symm
      subst hz2
      refine sm_w.run t115 sr115 26 1 (M2 := sm_wI M17 x0 9 (p117_0 M17 x0)) (f2 := (55, [some (.ref x0)], [])) rfl ⟨⟨(sm_K.p (kL_0 hS18 hx0) (sm_sh.rf _)).1, (sm_K.p (kL_0 hS18 hx0) (sm_sh.rf _)).2.1, (sm_K.p (kL_0 hS18 hx0) (sm_sh.rf _)).2.2, Or.inl rfl⟩, trivial⟩ ?_
      have hS20 : SH (sm_wI M17 x0 9 (p117_0 M17 x0)) := SH.wI hS18 _ _ _
      have h := h _ hS20 rfl
      generalize sm_wI M17 x0 9 (p117_0 M17 x0) = M19 at h hS20 ⊢
      refine sm_w.run t115 sr115 27 2 (M2 := M19) (f2 := (57, [some (.ref x0)], [.ref x0, .ref x0])) rfl ⟨trivial, trivial, trivial⟩ ?_
      refine sm_w.cI t115 sr115 29 (i := 118) (as := [.ref x0]) (g := (57, [some (.ref x0)], [.ref x0])) rfl ⟨by decide, by decide, (Nat.le_of_ble_eq_true rfl), (sm_K.g (kL_0 hS20 hx0) (sm_sh.rf _)).1, (sm_K.g (kL_0 hS20 hx0) (sm_sh.rf _)).2, (Nat.le_of_ble_eq_true rfl)⟩ (Nat.le_of_ble_eq_true rfl) (by decide) (p118_c hS20 hx0) (fun vz M2 hz => ?_)
      obtain ⟨hz1, hz2⟩ := hz
      subst hz1
      have hz2 := hz2.symm
      subst hz2
      refine sm_w.run t115 sr115 30 1 (M2 := sm_wI M19 x0 10 (p118_0 M19 x0)) (f2 := (63, [some (.ref x0)], [])) rfl ⟨⟨(sm_K.p (kL_0 hS20 hx0) (sm_sh.rf _)).1, (sm_K.p (kL_0 hS20 hx0) (sm_sh.rf _)).2.1, (sm_K.p (kL_0 hS20 hx0) (sm_sh.rf _)).2.2, Or.inl rfl⟩, trivial⟩ ?_
      have hS22 : SH (sm_wI M19 x0 10 (p118_0 M19 x0)) := SH.wI hS20 _ _ _
      have h := h _ hS22 rfl
      generalize sm_wI M19 x0 10 (p118_0 M19 x0) = M21 at h hS22 ⊢
      exact sm_w.end t115 sr115 31 (o := .returned none) (M2 := M21) rfl trivial (by decide) (⟨rfl, h⟩)
    · have h := h.2 hc
      refine sm_w.run t115 sr115 22 2 (M2 := M17) (f2 := (52, [some (.ref x0)], [.int ((10000 : Int32)), .ref x0])) rfl ⟨trivial, trivial, trivial⟩ ?_
      refine sm_w.run t115 sr115 26 1 (M2 := sm_wI M17 x0 9 (10000 : Int32)) (f2 := (55, [some (.ref x0)], [])) rfl ⟨⟨(sm_K.p (kL_0 hS18 hx0) (sm_sh.rf _)).1, (sm_K.p (kL_0 hS18 hx0) (sm_sh.rf _)).2.1, (sm_K.p (kL_0 hS18 hx0) (sm_sh.rf _)).2.2, Or.inl rfl⟩, trivial⟩ ?_
      have hS24 : SH (sm_wI M17 x0 9 (10000 : Int32)) := SH.wI hS18 _ _ _
      have h := h _ hS24 rfl
      generalize sm_wI M17 x0 9 (10000 : Int32) = M23 at h hS24 ⊢
      refine sm_w.run t115 sr115 27 2 (M2 := M23) (f2 := (57, [some (.ref x0)], [.ref x0, .ref x0])) rfl ⟨trivial, trivial, trivial⟩ ?_
      refine sm_w.cI t115 sr115 29 (i := 118) (as := [.ref x0]) (g := (57, [some (.ref x0)], [.ref x0])) rfl ⟨by decide, by decide, (Nat.le_of_ble_eq_true rfl), (sm_K.g (kL_0 hS24 hx0) (sm_sh.rf _)).1, (sm_K.g (kL_0 hS24 hx0) (sm_sh.rf _)).2, (Nat.le_of_ble_eq_true rfl)⟩ (Nat.le_of_ble_eq_true rfl) (by decide) (p118_c hS24 hx0) (fun vz M2 hz => ?_)
      obtain ⟨hz1, hz2⟩ := hz
      subst hz1
      have hz2 := hz2.symm
      subst hz2
      refine sm_w.run t115 sr115 30 1 (M2 := sm_wI M23 x0 10 (p118_0 M23 x0)) (f2 := (63, [some (.ref x0)], [])) rfl ⟨⟨(sm_K.p (kL_0 hS24 hx0) (sm_sh.rf _)).1, (sm_K.p (kL_0 hS24 hx0) (sm_sh.rf _)).2.1, (sm_K.p (kL_0 hS24 hx0) (sm_sh.rf _)).2.2, Or.inl rfl⟩, trivial⟩ ?_
      have hS26 : SH (sm_wI M23 x0 10 (p118_0 M23 x0)) := SH.wI hS24 _ _ _
      have h := h _ hS26 rfl
      generalize sm_wI M23 x0 10 (p118_0 M23 x0) = M25 at h hS26 ⊢
      exact sm_w.end t115 sr115 31 (o := .returned none) (M2 := M25) rfl trivial (by decide) (⟨rfl, h⟩)
