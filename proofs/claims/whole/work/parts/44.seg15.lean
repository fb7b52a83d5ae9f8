/-! METHODS by their segments. -/
-- 124 LineSetter$Chooser.isBetter(IJI)Z
theorem t124 : sP 124 = (6, sp_124, sh_124) := rfl
theorem sr124 : sm_srt sp_124 = true := by decide +kernel
theorem g124_0 {M : sm_M} {x1 : Int32} {x2 : Int64} {x4 : Int32} {K : Int32 → sm_M → Prop} (hS : SH M)  (h : (vp_in x1 2404) ∧ (((jV M 37 x1.toNatClampNeg) = (-1 : Int64) → K (1 : Int32) M) ∧ (¬ (jV M 37 x1.toNatClampNeg) = (-1 : Int64) → (vp_in x1 2404) ∧ (((jV M 37 x1.toNatClampNeg) ≤ x2 → (vp_in x1 2404) ∧ ((x2 ≤ (jV M 37 x1.toNatClampNeg) → (vp_in x1 2404) ∧ (vp_in x1 2404) ∧ (((iV M 38 x1.toNatClampNeg) = (iV M 40 0) → (vp_in (((iV M 40 0) * (4 : Int32)) + x4) 2404) ∧ (vp_in (((iV M 40 0) * (4 : Int32)) + (iV M 39 x1.toNatClampNeg)) 2404) ∧ (((iV M 38 (((iV M 40 0) * (4 : Int32)) + (iV M 39 x1.toNatClampNeg)).toNatClampNeg) ≤ (iV M 38 (((iV M 40 0) * (4 : Int32)) + x4).toNatClampNeg) → K (0 : Int32) M) ∧ (¬ (iV M 38 (((iV M 40 0) * (4 : Int32)) + (iV M 39 x1.toNatClampNeg)).toNatClampNeg) ≤ (iV M 38 (((iV M 40 0) * (4 : Int32)) + x4).toNatClampNeg) → K (1 : Int32) M))) ∧ (¬ (iV M 38 x1.toNatClampNeg) = (iV M 40 0) → K (0 : Int32) M))) ∧ (¬ x2 ≤ (jV M 37 x1.toNatClampNeg) → K (0 : Int32) M))) ∧ (¬ (jV M 37 x1.toNatClampNeg) ≤ x2 → K (1 : Int32) M))))) : sm_w 124 (sm_in sP 124 [.ref 36, .int (x1), .long (x2), .int (x4)]) M (rI K) := by
  show sm_w 124 (0, [some (.ref 36), some (.int (x1)), some (.long (x2)), none, some (.int (x4)), none], []) M (rI K)
  refine sm_w.run t124 sr124 0 2 (M2 := M) (f2 := (4, [some (.ref 36), some (.int (x1)), some (.long (x2)), none, some (.int (x4)), none], [va_rf (sm_rv M 36 0)])) rfl ⟨trivial, sm_K.g (k_36 hS) (sm_sh.rf _), trivial⟩ ?_
  refine sm_w.fld (r_36_0 hS) ?_
  obtain ⟨c1, h⟩ := h
  refine sm_w.run t124 sr124 2 5 (M2 := M) (f2 := (if (lg_cmp (jV M 37 x1.toNatClampNeg) (-1 : Int64)) = 0 then 24 else 13, [some (.ref 36), some (.int (x1)), some (.long (x2)), none, some (.int (x4)), none], [])) rfl ⟨trivial, sm_K.a2 (k_37 hS) (l_37 hS) c1, trivial, trivial, trivial, trivial⟩ ?_
  refine sm_w.ite (fun hc => ?_) (fun hc => ?_)
  · have h := h.1 (lc_e.mp hc)
    refine sm_w.run t124 sr124 14 1 (M2 := M) (f2 := (25, [some (.ref 36), some (.int (x1)), some (.long (x2)), none, some (.int (x4)), none], [.int ((1 : Int32))])) rfl ⟨trivial, trivial⟩ ?_
    exact sm_w.end t124 sr124 15 (o := .returned (some (.int ((1 : Int32))))) (M2 := M) rfl rfl (by decide) (⟨_, rfl, h⟩)
  · have h := h.2 (fun z => hc (lc_e.mpr z))
    refine sm_w.run t124 sr124 7 3 (M2 := M) (f2 := (18, [some (.ref 36), some (.int (x1)), some (.long (x2)), none, some (.int (x4)), none], [va_rf (sm_rv M 36 0), .long (x2)])) rfl ⟨trivial, trivial, sm_K.g (k_36 hS) (sm_sh.rf _), trivial⟩ ?_
    refine sm_w.fld (r_36_0 hS) ?_
    obtain ⟨c2, h⟩ := h
    refine sm_w.run t124 sr124 10 4 (M2 := M) (f2 := (if 0 ≤ (lg_cmp x2 (jV M 37 x1.toNatClampNeg)) then 26 else 24, [some (.ref 36), some (.int (x1)), some (.long (x2)), none, some (.int (x4)), none], [])) rfl ⟨trivial, sm_K.a2 (k_37 hS) (l_37 hS) c2, trivial, trivial, trivial⟩ ?_
    refine sm_w.ite (fun hc => ?_) (fun hc => ?_)
    · have h := h.1 (lc_ge.mp hc)
      refine sm_w.run t124 sr124 16 3 (M2 := M) (f2 := (31, [some (.ref 36), some (.int (x1)), some (.long (x2)), none, some (.int (x4)), none], [va_rf (sm_rv M 36 0), .long (x2)])) rfl ⟨trivial, trivial, sm_K.g (k_36 hS) (sm_sh.rf _), trivial⟩ ?_
      refine sm_w.fld (r_36_0 hS) ?_
      obtain ⟨c3, h⟩ := h
      refine sm_w.run t124 sr124 19 4 (M2 := M) (f2 := (if (lg_cmp x2 (jV M 37 x1.toNatClampNeg)) ≤ 0 then 39 else 37, [some (.ref 36), some (.int (x1)), some (.long (x2)), none, some (.int (x4)), none], [])) rfl ⟨trivial, sm_K.a2 (k_37 hS) (l_37 hS) c3, trivial, trivial, trivial⟩ ?_
      refine sm_w.ite (fun hc => ?_) (fun hc => ?_)
      · have h := h.1 (lc_le.mp hc)
        refine sm_w.run t124 sr124 25 2 (M2 := M) (f2 := (43, [some (.ref 36), some (.int (x1)), some (.long (x2)), none, some (.int (x4)), none], [va_rf (sm_rv M 36 3)])) rfl ⟨trivial, sm_K.g (k_36 hS) (sm_sh.rf _), trivial⟩ ?_
        refine sm_w.fld (r_36_3 hS) ?_
        refine sm_w.run t124 sr124 27 5 (M2 := M) (f2 := (52, [some (.ref 36), some (.int (x1)), some (.long (x2)), none, some (.int (x4)), none], [va_rf (sm_rv M 36 2), .int ((iV M 40 0) * (4 : Int32))])) rfl ⟨sm_K.g (kL_0 hS fL_40) (sm_sh.rf _), trivial, trivial, trivial, sm_K.g (k_36 hS) (sm_sh.rf _), trivial⟩ ?_
        refine sm_w.fld (r_36_2 hS) ?_
        obtain ⟨c4, h⟩ := h
        refine sm_w.run t124 sr124 32 6 (M2 := M) (f2 := (61, [some (.ref 36), some (.int (x1)), some (.long (x2)), none, some (.int (x4)), some (.int (((iV M 40 0) * (4 : Int32)) + (iV M 39 x1.toNatClampNeg)))], [va_rf (sm_rv M 36 1)])) rfl ⟨trivial, sm_K.a2 (k_39 hS) (l_39 hS) c4, trivial, (Nat.le_of_ble_eq_true rfl), trivial, sm_K.g (k_36 hS) (sm_sh.rf _), trivial⟩ ?_
        refine sm_w.fld (r_36_1 hS) ?_
        obtain ⟨c5, h⟩ := h
        refine sm_w.run t124 sr124 38 4 (M2 := M) (f2 := (67, [some (.ref 36), some (.int (x1)), some (.long (x2)), none, some (.int (x4)), some (.int (((iV M 40 0) * (4 : Int32)) + (iV M 39 x1.toNatClampNeg)))], [va_rf (sm_rv M 36 3), .int (iV M 38 x1.toNatClampNeg)])) rfl ⟨trivial, sm_K.a2 (k_38 hS) (l_38 hS) c5, trivial, sm_K.g (k_36 hS) (sm_sh.rf _), trivial⟩ ?_
        refine sm_w.fld (r_36_3 hS) ?_
        refine sm_w.run t124 sr124 42 2 (M2 := M) (f2 := (if (iV M 38 x1.toNatClampNeg) = (iV M 40 0) then 73 else 104, [some (.ref 36), some (.int (x1)), some (.long (x2)), none, some (.int (x4)), some (.int (((iV M 40 0) * (4 : Int32)) + (iV M 39 x1.toNatClampNeg)))], [])) rfl ⟨sm_K.g (kL_0 hS fL_40) (sm_sh.rf _), trivial, trivial⟩ ?_
        refine sm_w.ite (fun hc => ?_) (fun hc => ?_)
        · have h := h.1 hc
          refine sm_w.run t124 sr124 44 2 (M2 := M) (f2 := (77, [some (.ref 36), some (.int (x1)), some (.long (x2)), none, some (.int (x4)), some (.int (((iV M 40 0) * (4 : Int32)) + (iV M 39 x1.toNatClampNeg)))], [va_rf (sm_rv M 36 1)])) rfl ⟨trivial, sm_K.g (k_36 hS) (sm_sh.rf _), trivial⟩ ?_
          refine sm_w.fld (r_36_1 hS) ?_
          refine sm_w.run t124 sr124 46 2 (M2 := M) (f2 := (81, [some (.ref 36), some (.int (x1)), some (.long (x2)), none, some (.int (x4)), some (.int (((iV M 40 0) * (4 : Int32)) + (iV M 39 x1.toNatClampNeg)))], [va_rf (sm_rv M 36 3), .ref 38])) rfl ⟨trivial, sm_K.g (k_36 hS) (sm_sh.rf _), trivial⟩ ?_
          refine sm_w.fld (r_36_3 hS) ?_
          obtain ⟨c6, h⟩ := h
          refine sm_w.run t124 sr124 48 8 (M2 := M) (f2 := (94, [some (.ref 36), some (.int (x1)), some (.long (x2)), none, some (.int (x4)), some (.int (((iV M 40 0) * (4 : Int32)) + (iV M 39 x1.toNatClampNeg)))], [va_rf (sm_rv M 36 1), .int (iV M 38 (((iV M 40 0) * (4 : Int32)) + x4).toNatClampNeg)])) rfl ⟨sm_K.g (kL_0 hS fL_40) (sm_sh.rf _), trivial, trivial, trivial, trivial, sm_K.a2 (k_38 hS) (l_38 hS) c6, trivial, sm_K.g (k_36 hS) (sm_sh.rf _), trivial⟩ ?_
          refine sm_w.fld (r_36_1 hS) ?_
          obtain ⟨c7, h⟩ := h
          refine sm_w.run t124 sr124 56 3 (M2 := M) (f2 := (if (iV M 38 (((iV M 40 0) * (4 : Int32)) + (iV M 39 x1.toNatClampNeg)).toNatClampNeg) ≤ (iV M 38 (((iV M 40 0) * (4 : Int32)) + x4).toNatClampNeg) then 104 else 100, [some (.ref 36), some (.int (x1)), some (.long (x2)), none, some (.int (x4)), some (.int (((iV M 40 0) * (4 : Int32)) + (iV M 39 x1.toNatClampNeg)))], [])) rfl ⟨trivial, sm_K.a2 (k_38 hS) (l_38 hS) c7, trivial, trivial⟩ ?_
          refine sm_w.ite (fun hc => ?_) (fun hc => ?_)
          · have h := h.1 hc
            refine sm_w.run t124 sr124 61 1 (M2 := M) (f2 := (105, [some (.ref 36), some (.int (x1)), some (.long (x2)), none, some (.int (x4)), some (.int (((iV M 40 0) * (4 : Int32)) + (iV M 39 x1.toNatClampNeg)))], [.int ((0 : Int32))])) rfl ⟨trivial, trivial⟩ ?_
            exact sm_w.end t124 sr124 62 (o := .returned (some (.int ((0 : Int32))))) (M2 := M) rfl rfl (by decide) (⟨_, rfl, h⟩)
          · have h := h.2 hc
            refine sm_w.run t124 sr124 59 2 (M2 := M) (f2 := (105, [some (.ref 36), some (.int (x1)), some (.long (x2)), none, some (.int (x4)), some (.int (((iV M 40 0) * (4 : Int32)) + (iV M 39 x1.toNatClampNeg)))], [.int ((1 : Int32))])) rfl ⟨trivial, trivial, trivial⟩ ?_
            exact sm_w.end t124 sr124 62 (o := .returned (some (.int ((1 : Int32))))) (M2 := M) rfl rfl (by decide) (⟨_, rfl, h⟩)
        · have h := h.2 hc
          refine sm_w.run t124 sr124 61 1 (M2 := M) (f2 := (105, [some (.ref 36), some (.int (x1)), some (.long (x2)), none, some (.int (x4)), some (.int (((iV M 40 0) * (4 : Int32)) + (iV M 39 x1.toNatClampNeg)))], [.int ((0 : Int32))])) rfl ⟨trivial, trivial⟩ ?_
          exact sm_w.end t124 sr124 62 (o := .returned (some (.int ((0 : Int32))))) (M2 := M) rfl rfl (by decide) (⟨_, rfl, h⟩)
      · have h := h.2 (fun z => hc (lc_le.mpr z))
        refine sm_w.run t124 sr124 23 1 (M2 := M) (f2 := (38, [some (.ref 36), some (.int (x1)), some (.long (x2)), none, some (.int (x4)), none], [.int ((0 : Int32))])) rfl ⟨trivial, trivial⟩ ?_
        exact sm_w.end t124 sr124 24 (o := .returned (some (.int ((0 : Int32))))) (M2 := M) rfl rfl (by decide) (⟨_, rfl, h⟩)
    · have h := h.2 (fun z => hc (lc_ge.mpr z))
      refine sm_w.run t124 sr124 14 1 (M2 := M) (f2 := (25, [some (.ref 36), some (.int (x1)), some (.long (x2)), none, some (.int (x4)), none], [.int ((1 : Int32))])) rfl ⟨trivial, trivial⟩ ?_
      exact sm_w.end t124 sr124 15 (o := .returned (some (.int ((1 : Int32))))) (M2 := M) rfl rfl (by decide) (⟨_, rfl, h⟩)
def p124_0 (M : sm_M) (x1 : Int32) (x2 : Int64) (x4 : Int32) : Int32 := if (jV M 37 x1.toNatClampNeg) = (-1 : Int64) then (1 : Int32) else (if (jV M 37 x1.toNatClampNeg) ≤ x2 then (if x2 ≤ (jV M 37 x1.toNatClampNeg) then (if (iV M 38 x1.toNatClampNeg) = (iV M 40 0) then (if (iV M 38 (((iV M 40 0) * (4 : Int32)) + (iV M 39 x1.toNatClampNeg)).toNatClampNeg) ≤ (iV M 38 (((iV M 40 0) * (4 : Int32)) + x4).toNatClampNeg) then (0 : Int32) else (1 : Int32)) else (0 : Int32)) else (0 : Int32)) else (1 : Int32))
def q124_0 (M : sm_M) (x1 : Int32) (x2 : Int64) (x4 : Int32) : Prop := (vp_in x1 2404) ∧ (((jV M 37 x1.toNatClampNeg) = (-1 : Int64) → True) ∧ (¬ (jV M 37 x1.toNatClampNeg) = (-1 : Int64) → (vp_in x1 2404) ∧ (((jV M 37 x1.toNatClampNeg) ≤ x2 → (vp_in x1 2404) ∧ ((x2 ≤ (jV M 37 x1.toNatClampNeg) → (vp_in x1 2404) ∧ (vp_in x1 2404) ∧ (((iV M 38 x1.toNatClampNeg) = (iV M 40 0) → (vp_in (((iV M 40 0) * (4 : Int32)) + x4) 2404) ∧ (vp_in (((iV M 40 0) * (4 : Int32)) + (iV M 39 x1.toNatClampNeg)) 2404)) ∧ (¬ (iV M 38 x1.toNatClampNeg) = (iV M 40 0) → True))) ∧ (¬ x2 ≤ (jV M 37 x1.toNatClampNeg) → True))) ∧ (¬ (jV M 37 x1.toNatClampNeg) ≤ x2 → True))))
theorem p124_c {M : sm_M} {x1 : Int32} {x2 : Int64} {x4 : Int32} (hS : SH M)  (hq : q124_0 M x1 x2 x4) : sm_cI 124 [.ref 36, .int (x1), .long (x2), .int (x4)] M (fun v M2 => v = p124_0 M x1 x2 x4 ∧ M2 = M) := by
  refine g124_0 (K := (fun v M2 => v = p124_0 M x1 x2 x4 ∧ M2 = M)) hS ?_
  unfold q124_0 at hq
  obtain ⟨d1, hq⟩ := hq
  refine ⟨d1, ?_⟩
  refine ⟨fun e2 => ?_, fun e2 => ?_⟩
  · refine ⟨?_, rfl⟩
    unfold p124_0
    rw [if_pos e2]
  · have hq := hq.2 e2
    obtain ⟨d3, hq⟩ := hq
    refine ⟨d3, ?_⟩
    refine ⟨fun e4 => ?_, fun e4 => ?_⟩
    · have hq := hq.1 e4
      obtain ⟨d5, hq⟩ := hq
      refine ⟨d5, ?_⟩
      refine ⟨fun e6 => ?_, fun e6 => ?_⟩
      · have hq := hq.1 e6
        obtain ⟨d7, hq⟩ := hq
        refine ⟨d7, ?_⟩
        obtain ⟨d8, hq⟩ := hq
        refine ⟨d8, ?_⟩
        refine ⟨fun e9 => ?_, fun e9 => ?_⟩
        · have hq := hq.1 e9
          obtain ⟨d10, hq⟩ := hq
          refine ⟨d10, ?_⟩
          have d11 := hq
          refine ⟨d11, ?_⟩
          refine ⟨fun e12 => ?_, fun e12 => ?_⟩
          · refine ⟨?_, rfl⟩
            unfold p124_0
            rw [if_neg e2, if_pos e4, if_pos e6, if_pos e9, if_pos e12]
          · refine ⟨?_, rfl⟩
            unfold p124_0
            rw [if_neg e2, if_pos e4, if_pos e6, if_pos e9, if_neg e12]
        · refine ⟨?_, rfl⟩
          unfold p124_0
          rw [if_neg e2, if_pos e4, if_pos e6, if_neg e9]
      · refine ⟨?_, rfl⟩
        unfold p124_0
        rw [if_neg e2, if_pos e4, if_neg e6]
    · refine ⟨?_, rfl⟩
      unfold p124_0
      rw [if_neg e2, if_neg e4]
-- 120 LineSetter$Chooser.addLine(LLineSetter$Setting;)V
theorem t120 : sP 120 = (10, sp_120, sh_120) := rfl
theorem sr120 : sm_srt sp_120 = true := by decide +kernel
theorem g120_0 {M : sm_M} {x1 : Nat} {K : sm_M → Prop} (hS : SH M) (hx1 : fS x1) (h : (q121_0 M x1 40) ∧ sm_w 120 (31, [some (.ref 36), some (.ref x1), some (.long (p121_0 M x1 40)), none, some (.int (((iV M 40 1) * (4 : Int32)) + (iV M 40 10))), some (.int ((0 : Int32))), none, none, none, none], []) M (rV K)) : sm_w 120 (sm_in sP 120 [.ref 36, .ref x1]) M (rV K) := by
  show sm_w 120 (0, [some (.ref 36), some (.ref x1), none, none, none, none, none, none, none, none], []) M (rV K)
  refine sm_w.run t120 sr120 0 3 (M2 := M) (f2 := (5, [some (.ref 36), some (.ref x1), none, none, none, none, none, none, none, none], [va_rf (sm_rv M 36 3), .ref x1])) rfl ⟨trivial, trivial, sm_K.g (k_36 hS) (sm_sh.rf _), trivial⟩ ?_
  refine sm_w.fld (r_36_3 hS) ?_
  obtain ⟨c1, h⟩ := h
  refine sm_w.cJ t120 sr120 3 (i := 121) (as := [.ref x1, .ref 40]) (g := (5, [some (.ref 36), some (.ref x1), none, none, none, none, none, none, none, none], [])) rfl ⟨by decide, by decide, (Nat.le_of_ble_eq_true rfl), (sm_K.g (kS_0 hS hx1) (sm_sh.rf _)).1, (sm_K.g (kS_0 hS hx1) (sm_sh.rf _)).2, (Nat.le_of_ble_eq_true rfl)⟩ (Nat.le_of_ble_eq_true rfl) (by decide) (p121_c hS hx1 fL_40 c1) (fun vz M2 hz => ?_)
  obtain ⟨hz1, hz2⟩ := hz
  subst hz1
  have hz2 := hz2.symm
  subst hz2
  refine sm_w.run t120 sr120 4 3 (M2 := M) (f2 := (13, [some (.ref 36), some (.ref x1), some (.long (p121_0 M x1 40)), none, none, none, none, none, none, none], [va_rf (sm_rv M 36 3)])) rfl ⟨(Nat.le_of_ble_eq_true rfl), trivial, sm_K.g (k_36 hS) (sm_sh.rf _), trivial⟩ ?_
  refine sm_w.fld (r_36_3 hS) ?_
  refine sm_w.run t120 sr120 7 5 (M2 := M) (f2 := (22, [some (.ref 36), some (.ref x1), some (.long (p121_0 M x1 40)), none, none, none, none, none, none, none], [va_rf (sm_rv M 36 3), .int ((iV M 40 1) * (4 : Int32))])) rfl ⟨sm_K.g (kL_0 hS fL_40) (sm_sh.rf _), trivial, trivial, trivial, sm_K.g (k_36 hS) (sm_sh.rf _), trivial⟩ ?_
  refine sm_w.fld (r_36_3 hS) ?_
  refine sm_w.run t120 sr120 12 5 (M2 := M) (f2 := (31, [some (.ref 36), some (.ref x1), some (.long (p121_0 M x1 40)), none, some (.int (((iV M 40 1) * (4 : Int32)) + (iV M 40 10))), some (.int ((0 : Int32))), none, none, none, none], [])) rfl ⟨sm_K.g (kL_0 hS fL_40) (sm_sh.rf _), trivial, (Nat.le_of_ble_eq_true rfl), trivial, (Nat.le_of_ble_eq_true rfl), trivial⟩ ?_
  exact h
theorem g120_1 {M : sm_M} {x1 : Nat} {x2 : Int64} {x4 : Int32} {x5 : Int32} {K : sm_M → Prop} (hS : SH M) (hx1 : fS x1) (h : (((4 : Int32) ≤ x5 → K M) ∧ (¬ (4 : Int32) ≤ x5 → (vp_in (((iV M 40 0) * (4 : Int32)) + x5) 2404) ∧ (((jV M 37 (((iV M 40 0) * (4 : Int32)) + x5).toNatClampNeg) = (-1 : Int64) → sm_w 120 (31, [some (.ref 36), some (.ref x1), some (.long (x2)), none, some (.int (x4)), some (.int (x5 + (1 : Int32))), none, none, none, none], []) M (rV K)) ∧ (¬ (jV M 37 (((iV M 40 0) * (4 : Int32)) + x5).toNatClampNeg) = (-1 : Int64) → (q124_0 M x4 (((jV M 37 (((iV M 40 0) * (4 : Int32)) + x5).toNatClampNeg) + x2) + (p123_0 M x1 x5 40)) x5) ∧ (((p124_0 M x4 (((jV M 37 (((iV M 40 0) * (4 : Int32)) + x5).toNatClampNeg) + x2) + (p123_0 M x1 x5 40)) x5) = 0 → sm_w 120 (31, [some (.ref 36), some (.ref x1), some (.long (x2)), none, some (.int (x4)), some (.int (x5 + (1 : Int32))), none, none, none, none], []) M (rV K)) ∧ (¬ (p124_0 M x4 (((jV M 37 (((iV M 40 0) * (4 : Int32)) + x5).toNatClampNeg) + x2) + (p123_0 M x1 x5 40)) x5) = 0 → (vp_in x4 2404) ∧ ∀ M4, SH M4 → M4 = sm_wJ M 37 x4.toNatClampNeg (((jV M 37 (((iV M 40 0) * (4 : Int32)) + x5).toNatClampNeg) + x2) + (p123_0 M x1 x5 40)) → (vp_in x4 2404) ∧ ∀ M7, SH M7 → M7 = sm_wI M4 38 x4.toNatClampNeg (iV M4 40 0) → (vp_in x4 2404) ∧ ∀ M10, SH M10 → M10 = sm_wI M7 39 x4.toNatClampNeg x5 → sm_w 120 (31, [some (.ref 36), some (.ref x1), some (.long (x2)), none, some (.int (x4)), some (.int (x5 + (1 : Int32))), none, none, none, none], []) M10 (rV K)))))))) : sm_w 120 (31, [some (.ref 36), some (.ref x1), some (.long (x2)), none, some (.int (x4)), some (.int (x5)), none, none, none, none], []) M (rV K) := by
  refine sm_w.run t120 sr120 17 3 (M2 := M) (f2 := (if (4 : Int32) ≤ x5 then 133 else 37, [some (.ref 36), some (.ref x1), some (.long (x2)), none, some (.int (x4)), some (.int (x5)), none, none, none, none], [])) rfl ⟨trivial, trivial, trivial, trivial⟩ ?_
  refine sm_w.ite (fun hc => ?_) (fun hc => ?_)
  · have h := h.1 hc
    exact sm_w.end t120 sr120 70 (o := .returned none) (M2 := M) rfl trivial (by decide) (⟨rfl, h⟩)
  · have h := h.2 hc
    refine sm_w.run t120 sr120 20 2 (M2 := M) (f2 := (41, [some (.ref 36), some (.ref x1), some (.long (x2)), none, some (.int (x4)), some (.int (x5)), none, none, none, none], [va_rf (sm_rv M 36 0)])) rfl ⟨trivial, sm_K.g (k_36 hS) (sm_sh.rf _), trivial⟩ ?_
    refine sm_w.fld (r_36_0 hS) ?_
    refine sm_w.run t120 sr120 22 2 (M2 := M) (f2 := (45, [some (.ref 36), some (.ref x1), some (.long (x2)), none, some (.int (x4)), some (.int (x5)), none, none, none, none], [va_rf (sm_rv M 36 3), .ref 37])) rfl ⟨trivial, sm_K.g (k_36 hS) (sm_sh.rf _), trivial⟩ ?_
    refine sm_w.fld (r_36_3 hS) ?_
    obtain ⟨c1, h⟩ := h
    refine sm_w.run t120 sr120 24 11 (M2 := M) (f2 := (if (lg_cmp (jV M 37 (((iV M 40 0) * (4 : Int32)) + x5).toNatClampNeg) (-1 : Int64)) = 0 then 127 else 65, [some (.ref 36), some (.ref x1), some (.long (x2)), none, some (.int (x4)), some (.int (x5)), some (.long (jV M 37 (((iV M 40 0) * (4 : Int32)) + x5).toNatClampNeg)), none, none, none], [])) rfl ⟨sm_K.g (kL_0 hS fL_40) (sm_sh.rf _), trivial, trivial, trivial, trivial, sm_K.a2 (k_37 hS) (l_37 hS) c1, (Nat.le_of_ble_eq_true rfl), trivial, trivial, trivial, trivial, trivial⟩ ?_
    refine sm_w.ite (fun hc => ?_) (fun hc => ?_)
    · have h := h.1 (lc_e.mp hc)
      refine sm_w.run t120 sr120 68 2 (M2 := M) (f2 := (31, [some (.ref 36), some (.ref x1), some (.long (x2)), none, some (.int (x4)), some (.int (x5 + (1 : Int32))), some (.long (jV M 37 (((iV M 40 0) * (4 : Int32)) + x5).toNatClampNeg)), none, none, none], [])) rfl ⟨(Nat.le_of_ble_eq_true rfl), trivial, trivial⟩ ?_
      refine sm_w.weak (ls := [some (.ref 36), some (.ref x1), some (.long (x2)), none, some (.int (x4)), some (.int (x5 + (1 : Int32))), none, none, none, none]) (sm_leI [true, true, true, false, true, true, false, false, false, false] rfl) ?_
      exact h
    · have h := h.2 (fun z => hc (lc_e.mpr z))
      refine sm_w.run t120 sr120 35 7 (M2 := M) (f2 := (76, [some (.ref 36), some (.ref x1), some (.long (x2)), none, some (.int (x4)), some (.int (x5)), some (.long (jV M 37 (((iV M 40 0) * (4 : Int32)) + x5).toNatClampNeg)), none, none, none], [va_rf (sm_rv M 36 3), .int (x5), .ref x1, .long ((jV M 37 (((iV M 40 0) * (4 : Int32)) + x5).toNatClampNeg) + x2)])) rfl ⟨trivial, trivial, trivial, trivial, trivial, trivial, sm_K.g (k_36 hS) (sm_sh.rf _), trivial⟩ ?_
      refine sm_w.fld (r_36_3 hS) ?_
      refine sm_w.cJ t120 sr120 42 (i := 123) (as := [.ref x1, .int (x5), .ref 40]) (g := (76, [some (.ref 36), some (.ref x1), some (.long (x2)), none, some (.int (x4)), some (.int (x5)), some (.long (jV M 37 (((iV M 40 0) * (4 : Int32)) + x5).toNatClampNeg)), none, none, none], [.long ((jV M 37 (((iV M 40 0) * (4 : Int32)) + x5).toNatClampNeg) + x2)])) rfl ⟨by decide, by decide, (Nat.le_of_ble_eq_true rfl), (sm_K.g (kS_0 hS hx1) (sm_sh.rf _)).1, (sm_K.g (kS_0 hS hx1) (sm_sh.rf _)).2, (Nat.le_of_ble_eq_true rfl)⟩ (Nat.le_of_ble_eq_true rfl) (by decide) (p123_c hS hx1 fL_40) (fun vz M2 hz => ?_)
      obtain ⟨hz1, hz2⟩ := hz
      subst hz1
      have hz2 := hz2.symm
      subst hz2
      obtain ⟨c2, h⟩ := h
      refine sm_w.run t120 sr120 43 6 (M2 := M) (f2 := (89, [some (.ref 36), some (.ref x1), some (.long (x2)), none, some (.int (x4)), some (.int (x5)), some (.long (jV M 37 (((iV M 40 0) * (4 : Int32)) + x5).toNatClampNeg)), none, some (.long (((jV M 37 (((iV M 40 0) * (4 : Int32)) + x5).toNatClampNeg) + x2) + (p123_0 M x1 x5 40))), none], [.int (x5), .long (((jV M 37 (((iV M 40 0) * (4 : Int32)) + x5).toNatClampNeg) + x2) + (p123_0 M x1 x5 40)), .int (x4), .ref 36])) rfl ⟨trivial, (Nat.le_of_ble_eq_true rfl), trivial, trivial, trivial, trivial, trivial⟩ ?_
      refine sm_w.cI t120 sr120 49 (i := 124) (as := [.ref 36, .int (x4), .long (((jV M 37 (((iV M 40 0) * (4 : Int32)) + x5).toNatClampNeg) + x2) + (p123_0 M x1 x5 40)), .int (x5)]) (g := (89, [some (.ref 36), some (.ref x1), some (.long (x2)), none, some (.int (x4)), some (.int (x5)), some (.long (jV M 37 (((iV M 40 0) * (4 : Int32)) + x5).toNatClampNeg)), none, some (.long (((jV M 37 (((iV M 40 0) * (4 : Int32)) + x5).toNatClampNeg) + x2) + (p123_0 M x1 x5 40))), none], [])) rfl ⟨by decide, by decide, (Nat.le_of_ble_eq_true rfl), (sm_K.g (k_36 hS) (sm_sh.rf _)).1, (sm_K.g (k_36 hS) (sm_sh.rf _)).2, (Nat.le_of_ble_eq_true rfl)⟩ (Nat.le_of_ble_eq_true rfl) (by decide) (p124_c hS c2) (fun vz M2 hz => ?_)
      obtain ⟨hz1, hz2⟩ := hz
      subst hz1
      have hz2 := hz2.symm
      subst hz2
      refine sm_w.run t120 sr120 50 1 (M2 := M) (f2 := (if (p124_0 M x4 (((jV M 37 (((iV M 40 0) * (4 : Int32)) + x5).toNatClampNeg) + x2) + (p123_0 M x1 x5 40)) x5) = 0 then 127 else 95, [some (.ref 36), some (.ref x1), some (.long (x2)), none, some (.int (x4)), some (.int (x5)), some (.long (jV M 37 (((iV M 40 0) * (4 : Int32)) + x5).toNatClampNeg)), none, some (.long (((jV M 37 (((iV M 40 0) * (4 : Int32)) + x5).toNatClampNeg) + x2) + (p123_0 M x1 x5 40))), none], [])) rfl ⟨trivial, trivial⟩ ?_
      refine sm_w.ite (fun hc => ?_) (fun hc => ?_)
      · have h := h.1 hc
        refine sm_w.run t120 sr120 68 2 (M2 := M) (f2 := (31, [some (.ref 36), some (.ref x1), some (.long (x2)), none, some (.int (x4)), some (.int (x5 + (1 : Int32))), some (.long (jV M 37 (((iV M 40 0) * (4 : Int32)) + x5).toNatClampNeg)), none, some (.long (((jV M 37 (((iV M 40 0) * (4 : Int32)) + x5).toNatClampNeg) + x2) + (p123_0 M x1 x5 40))), none], [])) rfl ⟨(Nat.le_of_ble_eq_true rfl), trivial, trivial⟩ ?_
        refine sm_w.weak (ls := [some (.ref 36), some (.ref x1), some (.long (x2)), none, some (.int (x4)), some (.int (x5 + (1 : Int32))), none, none, none, none]) (sm_leI [true, true, true, false, true, true, false, false, false, false] rfl) ?_
        exact h
      · have h := h.2 hc
        refine sm_w.run t120 sr120 51 2 (M2 := M) (f2 := (99, [some (.ref 36), some (.ref x1), some (.long (x2)), none, some (.int (x4)), some (.int (x5)), some (.long (jV M 37 (((iV M 40 0) * (4 : Int32)) + x5).toNatClampNeg)), none, some (.long (((jV M 37 (((iV M 40 0) * (4 : Int32)) + x5).toNatClampNeg) + x2) + (p123_0 M x1 x5 40))), none], [va_rf (sm_rv M 36 0)])) rfl ⟨trivial, sm_K.g (k_36 hS) (sm_sh.rf _), trivial⟩ ?_
        refine sm_w.fld (r_36_0 hS) ?_
        obtain ⟨c3, h⟩ := h
        refine sm_w.run t120 sr120 53 3 (M2 := sm_wJ M 37 x4.toNatClampNeg (((jV M 37 (((iV M 40 0) * (4 : Int32)) + x5).toNatClampNeg) + x2) + (p123_0 M x1 x5 40))) (f2 := (104, [some (.ref 36), some (.ref x1), some (.long (x2)), none, some (.int (x4)), some (.int (x5)), some (.long (jV M 37 (((iV M 40 0) * (4 : Int32)) + x5).toNatClampNeg)), none, some (.long (((jV M 37 (((iV M 40 0) * (4 : Int32)) + x5).toNatClampNeg) + x2) + (p123_0 M x1 x5 40))), none], [])) rfl ⟨trivial, trivial, sm_K.s2 (k_37 hS) (l_37 hS) c3, trivial⟩ ?_
        have hS5 : SH (sm_wJ M 37 x4.toNatClampNeg (((jV M 37 (((iV M 40 0) * (4 : Int32)) + x5).toNatClampNeg) + x2) + (p123_0 M x1 x5 40))) := SH.wJ hS _ _ _
        have h := h _ hS5 rfl
        generalize sm_wJ M 37 x4.toNatClampNeg (((jV M 37 (((iV M 40 0) * (4 : Int32)) + x5).toNatClampNeg) + x2) + (p123_0 M x1 x5 40)) = M4 at h hS5 ⊢
        refine sm_w.run t120 sr120 56 2 (M2 := M4) (f2 := (108, [some (.ref 36), some (.ref x1), some (.long (x2)), none, some (.int (x4)), some (.int (x5)), some (.long (jV M 37 (((iV M 40 0) * (4 : Int32)) + x5).toNatClampNeg)), none, some (.long (((jV M 37 (((iV M 40 0) * (4 : Int32)) + x5).toNatClampNeg) + x2) + (p123_0 M x1 x5 40))), none], [va_rf (sm_rv M4 36 1)])) rfl ⟨trivial, sm_K.g (k_36 hS5) (sm_sh.rf _), trivial⟩ ?_
        refine sm_w.fld (r_36_1 hS5) ?_
        refine sm_w.run t120 sr120 58 3 (M2 := M4) (f2 := (114, [some (.ref 36), some (.ref x1), some (.long (x2)), none, some (.int (x4)), some (.int (x5)), some (.long (jV M 37 (((iV M 40 0) * (4 : Int32)) + x5).toNatClampNeg)), none, some (.long (((jV M 37 (((iV M 40 0) * (4 : Int32)) + x5).toNatClampNeg) + x2) + (p123_0 M x1 x5 40))), none], [va_rf (sm_rv M4 36 3), .int (x4), .ref 38])) rfl ⟨trivial, trivial, sm_K.g (k_36 hS5) (sm_sh.rf _), trivial⟩ ?_
        refine sm_w.fld (r_36_3 hS5) ?_
        obtain ⟨c6, h⟩ := h
        refine sm_w.run t120 sr120 61 2 (M2 := sm_wI M4 38 x4.toNatClampNeg (iV M4 40 0)) (f2 := (118, [some (.ref 36), some (.ref x1), some (.long (x2)), none, some (.int (x4)), some (.int (x5)), some (.long (jV M 37 (((iV M 40 0) * (4 : Int32)) + x5).toNatClampNeg)), none, some (.long (((jV M 37 (((iV M 40 0) * (4 : Int32)) + x5).toNatClampNeg) + x2) + (p123_0 M x1 x5 40))), none], [])) rfl ⟨sm_K.g (kL_0 hS5 fL_40) (sm_sh.rf _), sm_K.s2 (k_38 hS5) (l_38 hS5) c6, trivial⟩ ?_
        have hS8 : SH (sm_wI M4 38 x4.toNatClampNeg (iV M4 40 0)) := SH.wI hS5 _ _ _
        have h := h _ hS8 rfl
        generalize sm_wI M4 38 x4.toNatClampNeg (iV M4 40 0) = M7 at h hS8 ⊢
        refine sm_w.run t120 sr120 63 2 (M2 := M7) (f2 := (122, [some (.ref 36), some (.ref x1), some (.long (x2)), none, some (.int (x4)), some (.int (x5)), some (.long (jV M 37 (((iV M 40 0) * (4 : Int32)) + x5).toNatClampNeg)), none, some (.long (((jV M 37 (((iV M 40 0) * (4 : Int32)) + x5).toNatClampNeg) + x2) + (p123_0 M x1 x5 40))), none], [va_rf (sm_rv M7 36 2)])) rfl ⟨trivial, sm_K.g (k_36 hS8) (sm_sh.rf _), trivial⟩ ?_
        refine sm_w.fld (r_36_2 hS8) ?_
        obtain ⟨c9, h⟩ := h
        refine sm_w.run t120 sr120 65 3 (M2 := sm_wI M7 39 x4.toNatClampNeg x5) (f2 := (127, [some (.ref 36), some (.ref x1), some (.long (x2)), none, some (.int (x4)), some (.int (x5)), some (.long (jV M 37 (((iV M 40 0) * (4 : Int32)) + x5).toNatClampNeg)), none, some (.long (((jV M 37 (((iV M 40 0) * (4 : Int32)) + x5).toNatClampNeg) + x2) + (p123_0 M x1 x5 40))), none], [])) rfl ⟨trivial, trivial, sm_K.s2 (k_39 hS8) (l_39 hS8) c9, trivial⟩ ?_
        have hS11 : SH (sm_wI M7 39 x4.toNatClampNeg x5) := SH.wI hS8 _ _ _
        have h := h _ hS11 rfl
        generalize sm_wI M7 39 x4.toNatClampNeg x5 = M10 at h hS11 ⊢
        refine sm_w.run t120 sr120 68 2 (M2 := M10) (f2 := (31, [some (.ref 36), some (.ref x1), some (.long (x2)), none, some (.int (x4)), some (.int (x5 + (1 : Int32))), some (.long (jV M 37 (((iV M 40 0) * (4 : Int32)) + x5).toNatClampNeg)), none, some (.long (((jV M 37 (((iV M 40 0) * (4 : Int32)) + x5).toNatClampNeg) + x2) + (p123_0 M x1 x5 40))), none], [])) rfl ⟨(Nat.le_of_ble_eq_true rfl), trivial, trivial⟩ ?_
        refine sm_w.weak (ls := [some (.ref 36), some (.ref x1), some (.long (x2)), none, some (.int (x4)), some (.int (x5 + (1 : Int32))), none, none, none, none]) (sm_leI [true, true, true, false, true, true, false, false, false, false] rfl) ?_
        exact h
-- 125 LineSetter$Setting.isTooLongUnparted(LLineSetter$Line;)Z
theorem t125 : sP 125 = (2, sp_125, sh_125) := rfl
theorem sr125 : sm_srt sp_125 = true := by decide +kernel
theorem g125_0 {M : sm_M} {x0 : Nat} {x1 : Nat} {K : Int32 → sm_M → Prop} (hS : SH M) (hx0 : fS x0) (hx1 : fL x1) (h : (q114_0 M x0 (iV M x1 0) (iV M x1 1)) ∧ ((((p114_0 M x0 (iV M x1 0) (iV M x1 1)) - (jV M x1 4)) ≤ (jV M x1 5) → K (0 : Int32) M) ∧ (¬ ((p114_0 M x0 (iV M x1 0) (iV M x1 1)) - (jV M x1 4)) ≤ (jV M x1 5) → K (1 : Int32) M))) : sm_w 125 (sm_in sP 125 [.ref x0, .ref x1]) M (rI K) := by
  show sm_w 125 (0, [some (.ref x0), some (.ref x1)], []) M (rI K)
  obtain ⟨c1, h⟩ := h
  refine sm_w.run t125 sr125 0 5 (M2 := M) (f2 := (9, [some (.ref x0), some (.ref x1)], [.int (iV M x1 1), .int (iV M x1 0), .ref x0])) rfl ⟨trivial, trivial, sm_K.g (kL_0 hS hx1) (sm_sh.rf _), trivial, sm_K.g (kL_0 hS hx1) (sm_sh.rf _), trivial⟩ ?_
  refine sm_w.cJ t125 sr125 5 (i := 114) (as := [.ref x0, .int (iV M x1 0), .int (iV M x1 1)]) (g := (9, [some (.ref x0), some (.ref x1)], [])) rfl ⟨by decide, by decide, (Nat.le_of_ble_eq_true rfl), (sm_K.g (kS_0 hS hx0) (sm_sh.rf _)).1, (sm_K.g (kS_0 hS hx0) (sm_sh.rf _)).2, (Nat.le_of_ble_eq_true rfl)⟩ (Nat.le_of_ble_eq_true rfl) (by decide) (p114_c hS hx0 c1) (fun vz M2 hz => ?_)
  obtain ⟨hz1, hz2⟩ := hz
  subst hz1
  have hz2 := hz2.symm
  subst hz2
  refine sm_w.run t125 sr125 6 7 (M2 := M) (f2 := (if (lg_cmp ((p114_0 M x0 (iV M x1 0) (iV M x1 1)) - (jV M x1 4)) (jV M x1 5)) ≤ 0 then 29 else 25, [some (.ref x0), some (.ref x1)], [])) rfl ⟨trivial, sm_K.g (kL_0 hS hx1) (sm_sh.rf _), trivial, trivial, sm_K.g (kL_0 hS hx1) (sm_sh.rf _), trivial, trivial, trivial⟩ ?_
  refine sm_w.ite (fun hc => ?_) (fun hc => ?_)
  · have h := h.1 (lc_le.mp hc)
    refine sm_w.run t125 sr125 15 1 (M2 := M) (f2 := (30, [some (.ref x0), some (.ref x1)], [.int ((0 : Int32))])) rfl ⟨trivial, trivial⟩ ?_
    exact sm_w.end t125 sr125 16 (o := .returned (some (.int ((0 : Int32))))) (M2 := M) rfl rfl (by decide) (⟨_, rfl, h⟩)
  · have h := h.2 (fun z => hc (lc_le.mpr z))
    refine sm_w.run t125 sr125 13 2 (M2 := M) (f2 := (30, [some (.ref x0), some (.ref x1)], [.int ((1 : Int32))])) rfl ⟨trivial, trivial, trivial⟩ ?_
    exact sm_w.end t125 sr125 16 (o := .returned (some (.int ((1 : Int32))))) (M2 := M) rfl rfl (by decide) (⟨_, rfl, h⟩)
def p125_0 (M : sm_M) (x0 : Nat) (x1 : Nat) : Int32 := if ((p114_0 M x0 (iV M x1 0) (iV M x1 1)) - (jV M x1 4)) ≤ (jV M x1 5) then (0 : Int32) else (1 : Int32)
def q125_0 (M : sm_M) (x0 : Nat) (x1 : Nat) : Prop := (q114_0 M x0 (iV M x1 0) (iV M x1 1))
theorem p125_c {M : sm_M} {x0 : Nat} {x1 : Nat} (hS : SH M) (hx0 : fS x0) (hx1 : fL x1) (hq : q125_0 M x0 x1) : sm_cI 125 [.ref x0, .ref x1] M (fun v M2 => v = p125_0 M x0 x1 ∧ M2 = M) := by
  refine g125_0 (K := (fun v M2 => v = p125_0 M x0 x1 ∧ M2 = M)) hS hx0 hx1 ?_
  unfold q125_0 at hq
  have d1 := hq
  refine ⟨d1, ?_⟩
  refine ⟨fun e2 => ?_, fun e2 => ?_⟩
  · refine ⟨?_, rfl⟩
    unfold p125_0
    rw [if_pos e2]
  · refine ⟨?_, rfl⟩
    unfold p125_0
    rw [if_neg e2]
-- 111 LineSetter$Chooser.goOnFrom(ILLineSetter$Setting;)V
theorem t111 : sP 111 = (4, sp_111, sh_111) := rfl
theorem sr111 : sm_srt sp_111 = true := by decide +kernel
theorem g111_0 {M : sm_M} {x1 : Int32} {x2 : Nat} {K : sm_M → Prop} (hS : SH M) (hx2 : fS x2) (h : sm_w 111 (4, [some (.ref 36), some (.int (x1)), some (.ref x2), some (.int (x1 + (1 : Int32)))], []) M (rV K)) : sm_w 111 (sm_in sP 111 [.ref 36, .int (x1), .ref x2]) M (rV K) := by
  show sm_w 111 (0, [some (.ref 36), some (.int (x1)), some (.ref x2), none], []) M (rV K)
  refine sm_w.run t111 sr111 0 4 (M2 := M) (f2 := (4, [some (.ref 36), some (.int (x1)), some (.ref x2), some (.int (x1 + (1 : Int32)))], [])) rfl ⟨trivial, trivial, trivial, (Nat.le_of_ble_eq_true rfl), trivial⟩ ?_
  exact h
theorem g111_1 {M : sm_M} {x1 : Int32} {x2 : Nat} {x3 : Int32} {K : sm_M → Prop} (hS : SH M) (hx2 : fS x2) (h : (((iV M (x2 + 1) 3) < x3 → K M) ∧ (¬ (iV M (x2 + 1) 3) < x3 → sm_cV 112 [.ref x2, .ref 40, .int (x1), .int (x3)] M (fun M1 => SH M1 → (((p119_0 M1 40 (iV M1 x2 4)) = 0 → (((iV M1 40 7) = 0 → sm_w 111 (4, [some (.ref 36), some (.int (x1)), some (.ref x2), some (.int (x3 + (1 : Int32)))], []) M1 (rV K)) ∧ (¬ (iV M1 40 7) = 0 → (q125_0 M1 x2 40) ∧ (((p125_0 M1 x2 40) = 0 → sm_w 111 (4, [some (.ref 36), some (.int (x1)), some (.ref x2), some (.int (x3 + (1 : Int32)))], []) M1 (rV K)) ∧ (¬ (p125_0 M1 x2 40) = 0 → K M1))))) ∧ (¬ (p119_0 M1 40 (iV M1 x2 4)) = 0 → sm_cV 120 [.ref 36, .ref x2] M1 (fun M5 => SH M5 → sm_w 111 (4, [some (.ref 36), some (.int (x1)), some (.ref x2), some (.int (x3 + (1 : Int32)))], []) M5 (rV K)))))))) : sm_w 111 (4, [some (.ref 36), some (.int (x1)), some (.ref x2), some (.int (x3))], []) M (rV K) := by
  refine sm_w.run t111 sr111 4 3 (M2 := M) (f2 := (9, [some (.ref 36), some (.int (x1)), some (.ref x2), some (.int (x3))], [va_rf (sm_rv M x2 0), .int (x3)])) rfl ⟨trivial, trivial, sm_K.g (kS_0 hS hx2) (sm_sh.rf _), trivial⟩ ?_
  refine sm_w.fld (rS_0 hS hx2) ?_
  refine sm_w.run t111 sr111 7 2 (M2 := M) (f2 := (if (iV M (x2 + 1) 3) < x3 then 75 else 15, [some (.ref 36), some (.int (x1)), some (.ref x2), some (.int (x3))], [])) rfl ⟨sm_K.g (kK_0 hS (fS_1 hx2)) (sm_sh.rf _), trivial, trivial⟩ ?_
  refine sm_w.ite (fun hc => ?_) (fun hc => ?_)
  · have h := h.1 hc
    exact sm_w.end t111 sr111 37 (o := .returned none) (M2 := M) rfl trivial (by decide) (⟨rfl, h⟩)
  · have h := h.2 hc
    refine sm_w.run t111 sr111 9 3 (M2 := M) (f2 := (20, [some (.ref 36), some (.int (x1)), some (.ref x2), some (.int (x3))], [va_rf (sm_rv M 36 3), .ref x2])) rfl ⟨trivial, trivial, sm_K.g (k_36 hS) (sm_sh.rf _), trivial⟩ ?_
    refine sm_w.fld (r_36_3 hS) ?_
    refine sm_w.run t111 sr111 12 2 (M2 := M) (f2 := (22, [some (.ref 36), some (.int (x1)), some (.ref x2), some (.int (x3))], [.int (x3), .int (x1), .ref 40, .ref x2])) rfl ⟨trivial, trivial, trivial⟩ ?_
    refine sm_w.cV t111 sr111 14 (i := 112) (as := [.ref x2, .ref 40, .int (x1), .int (x3)]) (g := (22, [some (.ref 36), some (.int (x1)), some (.ref x2), some (.int (x3))], [])) rfl ⟨by decide, by decide, (Nat.le_of_ble_eq_true rfl), (sm_K.g (kS_0 hS hx2) (sm_sh.rf _)).1, (sm_K.g (kS_0 hS hx2) (sm_sh.rf _)).2, (Nat.le_of_ble_eq_true rfl)⟩ (Nat.le_of_ble_eq_true rfl) (by decide) (sm_cV.s (by decide) hS h) (fun M1 h => ?_)
    obtain ⟨hS3, h⟩ := h
    refine sm_w.run t111 sr111 15 2 (M2 := M1) (f2 := (29, [some (.ref 36), some (.int (x1)), some (.ref x2), some (.int (x3))], [va_rf (sm_rv M1 36 3)])) rfl ⟨trivial, sm_K.g (k_36 hS3) (sm_sh.rf _), trivial⟩ ?_
    refine sm_w.fld (r_36_3 hS3) ?_
    refine sm_w.run t111 sr111 17 2 (M2 := M1) (f2 := (33, [some (.ref 36), some (.int (x1)), some (.ref x2), some (.int (x3))], [.int (iV M1 x2 4), .ref 40])) rfl ⟨trivial, sm_K.g (kS_0 hS3 hx2) (sm_sh.rf _), trivial⟩ ?_
    refine sm_w.cI t111 sr111 19 (i := 119) (as := [.ref 40, .int (iV M1 x2 4)]) (g := (33, [some (.ref 36), some (.int (x1)), some (.ref x2), some (.int (x3))], [])) rfl ⟨by decide, by decide, (Nat.le_of_ble_eq_true rfl), (sm_K.g (kL_0 hS3 fL_40) (sm_sh.rf _)).1, (sm_K.g (kL_0 hS3 fL_40) (sm_sh.rf _)).2, (Nat.le_of_ble_eq_true rfl)⟩ (Nat.le_of_ble_eq_true rfl) (by decide) (p119_c hS3 fL_40) (fun vz M2 hz => ?_)
    obtain ⟨hz1, hz2⟩ := hz
    subst hz1
    have hz2 := hz2.symm
    subst hz2
    refine sm_w.run t111 sr111 20 1 (M2 := M1) (f2 := (if (p119_0 M1 40 (iV M1 x2 4)) = 0 then 47 else 39, [some (.ref 36), some (.int (x1)), some (.ref x2), some (.int (x3))], [])) rfl ⟨trivial, trivial⟩ ?_
    refine sm_w.ite (fun hc => ?_) (fun hc => ?_)
    · have h := h.1 hc
      refine sm_w.run t111 sr111 25 2 (M2 := M1) (f2 := (51, [some (.ref 36), some (.int (x1)), some (.ref x2), some (.int (x3))], [va_rf (sm_rv M1 36 3)])) rfl ⟨trivial, sm_K.g (k_36 hS3) (sm_sh.rf _), trivial⟩ ?_
      refine sm_w.fld (r_36_3 hS3) ?_
      refine sm_w.run t111 sr111 27 2 (M2 := M1) (f2 := (if (iV M1 40 7) = 0 then 69 else 57, [some (.ref 36), some (.int (x1)), some (.ref x2), some (.int (x3))], [])) rfl ⟨sm_K.g (kL_0 hS3 fL_40) (sm_sh.rf _), trivial, trivial⟩ ?_
      refine sm_w.ite (fun hc => ?_) (fun hc => ?_)
      · have h := h.1 hc
        refine sm_w.run t111 sr111 35 2 (M2 := M1) (f2 := (4, [some (.ref 36), some (.int (x1)), some (.ref x2), some (.int (x3 + (1 : Int32)))], [])) rfl ⟨(Nat.le_of_ble_eq_true rfl), trivial, trivial⟩ ?_
        exact h
      · have h := h.2 hc
        refine sm_w.run t111 sr111 29 3 (M2 := M1) (f2 := (62, [some (.ref 36), some (.int (x1)), some (.ref x2), some (.int (x3))], [va_rf (sm_rv M1 36 3), .ref x2])) rfl ⟨trivial, trivial, sm_K.g (k_36 hS3) (sm_sh.rf _), trivial⟩ ?_
        refine sm_w.fld (r_36_3 hS3) ?_
        obtain ⟨c4, h⟩ := h
        refine sm_w.cI t111 sr111 32 (i := 125) (as := [.ref x2, .ref 40]) (g := (62, [some (.ref 36), some (.int (x1)), some (.ref x2), some (.int (x3))], [])) rfl ⟨by decide, by decide, (Nat.le_of_ble_eq_true rfl), (sm_K.g (kS_0 hS3 hx2) (sm_sh.rf _)).1, (sm_K.g (kS_0 hS3 hx2) (sm_sh.rf _)).2, (Nat.le_of_ble_eq_true rfl)⟩ (Nat.le_of_ble_eq_true rfl) (by decide) (p125_c hS3 hx2 fL_40 c4) (fun vz M2 hz => ?_)
        obtain ⟨hz1, hz2⟩ := hz
        subst hz1
        have hz2 := hz2.symm
        subst hz2
        refine sm_w.run t111 sr111 33 1 (M2 := M1) (f2 := (if (p125_0 M1 x2 40) = 0 then 69 else 68, [some (.ref 36), some (.int (x1)), some (.ref x2), some (.int (x3))], [])) rfl ⟨trivial, trivial⟩ ?_
        refine sm_w.ite (fun hc => ?_) (fun hc => ?_)
        · have h := h.1 hc
          refine sm_w.run t111 sr111 35 2 (M2 := M1) (f2 := (4, [some (.ref 36), some (.int (x1)), some (.ref x2), some (.int (x3 + (1 : Int32)))], [])) rfl ⟨(Nat.le_of_ble_eq_true rfl), trivial, trivial⟩ ?_
          exact h
        · have h := h.2 hc
          exact sm_w.end t111 sr111 34 (o := .returned none) (M2 := M1) rfl trivial (by decide) (⟨rfl, h⟩)
    · have h := h.2 hc
      refine sm_w.run t111 sr111 21 2 (M2 := M1) (f2 := (41, [some (.ref 36), some (.int (x1)), some (.ref x2), some (.int (x3))], [.ref x2, .ref 36])) rfl ⟨trivial, trivial, trivial⟩ ?_
      refine sm_w.cV t111 sr111 23 (i := 120) (as := [.ref 36, .ref x2]) (g := (41, [some (.ref 36), some (.int (x1)), some (.ref x2), some (.int (x3))], [])) rfl ⟨by decide, by decide, (Nat.le_of_ble_eq_true rfl), (sm_K.g (k_36 hS3) (sm_sh.rf _)).1, (sm_K.g (k_36 hS3) (sm_sh.rf _)).2, (Nat.le_of_ble_eq_true rfl)⟩ (Nat.le_of_ble_eq_true rfl) (by decide) (sm_cV.s (by decide) hS3 h) (fun M5 h => ?_)
      obtain ⟨hS7, h⟩ := h
      refine sm_w.run t111 sr111 24 1 (M2 := M5) (f2 := (69, [some (.ref 36), some (.int (x1)), some (.ref x2), some (.int (x3))], [])) rfl ⟨trivial, trivial⟩ ?_
      refine sm_w.run t111 sr111 35 2 (M2 := M5) (f2 := (4, [some (.ref 36), some (.int (x1)), some (.ref x2), some (.int (x3 + (1 : Int32)))], [])) rfl ⟨(Nat.le_of_ble_eq_true rfl), trivial, trivial⟩ ?_
      exact h
-- 106 LineSetter$Chooser.findsRow(LLineSetter$Setting;I)Z
theorem t106 : sP 106 = (5, sp_106, sh_106) := rfl
theorem sr106 : sm_srt sp_106 = true := by decide +kernel
theorem g106_0 {M : sm_M} {x1 : Nat} {x2 : Int32} {K : Int32 → sm_M → Prop} (hS : SH M) (hx1 : fS x1) (h : ∀ M1, SH M1 → M1 = sm_wI M x1 4 x2 → sm_cV 107 [.ref 37, .int ((0 : Int32)), .int (((iV M1 (x1 + 1) 3) + (1 : Int32)) * (4 : Int32)), .long ((-1 : Int64))] M1 (fun M3 => SH M3 → (vp_in (1 : Int32) 2404) ∧ ∀ M7, SH M7 → M7 = sm_wJ M3 37 (1 : Int32).toNatClampNeg (0 : Int64) → sm_w 106 (39, [some (.ref 36), some (.ref x1), none, some (.int (iV M1 (x1 + 1) 3)), some (.int ((0 : Int32)))], []) M7 (rI K))) : sm_w 106 (sm_in sP 106 [.ref 36, .ref x1, .int (x2)]) M (rI K) := by
  show sm_w 106 (0, [some (.ref 36), some (.ref x1), some (.int (x2)), none, none], []) M (rI K)
  refine sm_w.run t106 sr106 0 3 (M2 := sm_wI M x1 4 x2) (f2 := (5, [some (.ref 36), some (.ref x1), some (.int (x2)), none, none], [])) rfl ⟨trivial, trivial, ⟨(sm_K.p (kS_0 hS hx1) (sm_sh.rf _)).1, (sm_K.p (kS_0 hS hx1) (sm_sh.rf _)).2.1, (sm_K.p (kS_0 hS hx1) (sm_sh.rf _)).2.2, Or.inl rfl⟩, trivial⟩ ?_
  have hS2 : SH (sm_wI M x1 4 x2) := SH.wI hS _ _ _
  have h := h _ hS2 rfl
  generalize sm_wI M x1 4 x2 = M1 at h hS2 ⊢
  refine sm_w.run t106 sr106 3 2 (M2 := M1) (f2 := (9, [some (.ref 36), some (.ref x1), some (.int (x2)), none, none], [va_rf (sm_rv M1 x1 0)])) rfl ⟨trivial, sm_K.g (kS_0 hS2 hx1) (sm_sh.rf _), trivial⟩ ?_
  refine sm_w.fld (rS_0 hS2 hx1) ?_
  refine sm_w.run t106 sr106 5 4 (M2 := M1) (f2 := (17, [some (.ref 36), some (.ref x1), some (.int (x2)), some (.int (iV M1 (x1 + 1) 3)), none], [va_rf (sm_rv M1 36 0)])) rfl ⟨sm_K.g (kK_0 hS2 (fS_1 hx1)) (sm_sh.rf _), (Nat.le_of_ble_eq_true rfl), trivial, sm_K.g (k_36 hS2) (sm_sh.rf _), trivial⟩ ?_
  refine sm_w.fld (r_36_0 hS2) ?_
  refine sm_w.run t106 sr106 9 7 (M2 := M1) (f2 := (26, [some (.ref 36), some (.ref x1), some (.int (x2)), some (.int (iV M1 (x1 + 1) 3)), none], [.long ((-1 : Int64)), .int (((iV M1 (x1 + 1) 3) + (1 : Int32)) * (4 : Int32)), .int ((0 : Int32)), .ref 37])) rfl ⟨trivial, trivial, trivial, trivial, trivial, trivial, trivial, trivial⟩ ?_
  refine sm_w.cV t106 sr106 16 (i := 107) (as := [.ref 37, .int ((0 : Int32)), .int (((iV M1 (x1 + 1) 3) + (1 : Int32)) * (4 : Int32)), .long ((-1 : Int64))]) (g := (26, [some (.ref 36), some (.ref x1), some (.int (x2)), some (.int (iV M1 (x1 + 1) 3)), none], [])) rfl ⟨(Nat.le_of_ble_eq_true rfl), (Nat.le_of_ble_eq_true rfl)⟩ (Nat.le_of_ble_eq_true rfl) (by decide) (sm_cV.s (by decide) hS2 h) (fun M3 h => ?_)
  obtain ⟨hS5, h⟩ := h
  refine sm_w.run t106 sr106 17 2 (M2 := M3) (f2 := (33, [some (.ref 36), some (.ref x1), some (.int (x2)), some (.int (iV M1 (x1 + 1) 3)), none], [va_rf (sm_rv M3 36 0)])) rfl ⟨trivial, sm_K.g (k_36 hS5) (sm_sh.rf _), trivial⟩ ?_
  refine sm_w.fld (r_36_0 hS5) ?_
  obtain ⟨c6, h⟩ := h
  refine sm_w.run t106 sr106 19 3 (M2 := sm_wJ M3 37 (1 : Int32).toNatClampNeg (0 : Int64)) (f2 := (36, [some (.ref 36), some (.ref x1), some (.int (x2)), some (.int (iV M1 (x1 + 1) 3)), none], [])) rfl ⟨trivial, trivial, sm_K.s2 (k_37 hS5) (l_37 hS5) c6, trivial⟩ ?_
  have hS8 : SH (sm_wJ M3 37 (1 : Int32).toNatClampNeg (0 : Int64)) := SH.wJ hS5 _ _ _
  have h := h _ hS8 rfl
  generalize sm_wJ M3 37 (1 : Int32).toNatClampNeg (0 : Int64) = M7 at h hS8 ⊢
  refine sm_w.run t106 sr106 22 2 (M2 := M7) (f2 := (39, [some (.ref 36), some (.ref x1), some (.int (x2)), some (.int (iV M1 (x1 + 1) 3)), some (.int ((0 : Int32)))], [])) rfl ⟨trivial, (Nat.le_of_ble_eq_true rfl), trivial⟩ ?_
  refine sm_w.weak (ls := [some (.ref 36), some (.ref x1), none, some (.int (iV M1 (x1 + 1) 3)), some (.int ((0 : Int32)))]) (sm_leI [true, true, false, true, true] rfl) ?_
  exact h
theorem g106_1 {M : sm_M} {x1 : Nat} {x3 : Int32} {x4 : Int32} {K : Int32 → sm_M → Prop} (hS : SH M) (hx1 : fS x1) (h : ((x3 ≤ x4 → sm_cI 108 [.ref 36, .int (x3)] M (fun v2 M1 => SH M1 → (v2 = 0 ∨ v2 = 1) ∧ K v2 M1)) ∧ (¬ x3 ≤ x4 → sm_cI 108 [.ref 36, .int (x4)] M (fun v6 M5 => SH M5 → ((v6 = 0 → sm_w 106 (39, [some (.ref 36), some (.ref x1), none, some (.int (x3)), some (.int (x4 + (1 : Int32)))], []) M5 (rI K)) ∧ (¬ v6 = 0 → sm_cV 111 [.ref 36, .int (x4), .ref x1] M5 (fun M8 => SH M8 → sm_w 106 (39, [some (.ref 36), some (.ref x1), none, some (.int (x3)), some (.int (x4 + (1 : Int32)))], []) M8 (rI K)))))))) : sm_w 106 (39, [some (.ref 36), some (.ref x1), none, some (.int (x3)), some (.int (x4))], []) M (rI K) := by
  refine sm_w.run t106 sr106 24 3 (M2 := M) (f2 := (if x3 ≤ x4 then 67 else 45, [some (.ref 36), some (.ref x1), none, some (.int (x3)), some (.int (x4))], [])) rfl ⟨trivial, trivial, trivial, trivial⟩ ?_
  refine sm_w.ite (fun hc => ?_) (fun hc => ?_)
  · have h := h.1 hc
    refine sm_w.run t106 sr106 37 2 (M2 := M) (f2 := (69, [some (.ref 36), some (.ref x1), none, some (.int (x3)), some (.int (x4))], [.int (x3), .ref 36])) rfl ⟨trivial, trivial, trivial⟩ ?_
    refine sm_w.cI t106 sr106 39 (i := 108) (as := [.ref 36, .int (x3)]) (g := (69, [some (.ref 36), some (.ref x1), none, some (.int (x3)), some (.int (x4))], [])) rfl ⟨by decide, by decide, (Nat.le_of_ble_eq_true rfl), (sm_K.g (k_36 hS) (sm_sh.rf _)).1, (sm_K.g (k_36 hS) (sm_sh.rf _)).2, (Nat.le_of_ble_eq_true rfl)⟩ (Nat.le_of_ble_eq_true rfl) (by decide) (sm_cI.s (by decide) hS h) (fun v2 M1 h => ?_)
    obtain ⟨hS3, h⟩ := h
    obtain ⟨c4, h⟩ := h
    exact sm_w.end t106 sr106 40 (o := .returned (some (.int (v2)))) (M2 := M1) rfl (nar3 c4) (by decide) (⟨_, rfl, h⟩)
  · have h := h.2 hc
    refine sm_w.run t106 sr106 27 2 (M2 := M) (f2 := (48, [some (.ref 36), some (.ref x1), none, some (.int (x3)), some (.int (x4))], [.int (x4), .ref 36])) rfl ⟨trivial, trivial, trivial⟩ ?_
    refine sm_w.cI t106 sr106 29 (i := 108) (as := [.ref 36, .int (x4)]) (g := (48, [some (.ref 36), some (.ref x1), none, some (.int (x3)), some (.int (x4))], [])) rfl ⟨by decide, by decide, (Nat.le_of_ble_eq_true rfl), (sm_K.g (k_36 hS) (sm_sh.rf _)).1, (sm_K.g (k_36 hS) (sm_sh.rf _)).2, (Nat.le_of_ble_eq_true rfl)⟩ (Nat.le_of_ble_eq_true rfl) (by decide) (sm_cI.s (by decide) hS h) (fun v6 M5 h => ?_)
    obtain ⟨hS7, h⟩ := h
    refine sm_w.run t106 sr106 30 1 (M2 := M5) (f2 := (if v6 = 0 then 61 else 54, [some (.ref 36), some (.ref x1), none, some (.int (x3)), some (.int (x4))], [])) rfl ⟨trivial, trivial⟩ ?_
    refine sm_w.ite (fun hc => ?_) (fun hc => ?_)
    · have h := h.1 hc
      refine sm_w.run t106 sr106 35 2 (M2 := M5) (f2 := (39, [some (.ref 36), some (.ref x1), none, some (.int (x3)), some (.int (x4 + (1 : Int32)))], [])) rfl ⟨(Nat.le_of_ble_eq_true rfl), trivial, trivial⟩ ?_
      exact h
    · have h := h.2 hc
      refine sm_w.run t106 sr106 31 3 (M2 := M5) (f2 := (58, [some (.ref 36), some (.ref x1), none, some (.int (x3)), some (.int (x4))], [.ref x1, .int (x4), .ref 36])) rfl ⟨trivial, trivial, trivial, trivial⟩ ?_
      refine sm_w.cV t106 sr106 34 (i := 111) (as := [.ref 36, .int (x4), .ref x1]) (g := (58, [some (.ref 36), some (.ref x1), none, some (.int (x3)), some (.int (x4))], [])) rfl ⟨by decide, by decide, (Nat.le_of_ble_eq_true rfl), (sm_K.g (k_36 hS7) (sm_sh.rf _)).1, (sm_K.g (k_36 hS7) (sm_sh.rf _)).2, (Nat.le_of_ble_eq_true rfl)⟩ (Nat.le_of_ble_eq_true rfl) (by decide) (sm_cV.s (by decide) hS7 h) (fun M8 h => ?_)
      obtain ⟨hS10, h⟩ := h
      refine sm_w.run t106 sr106 35 2 (M2 := M8) (f2 := (39, [some (.ref 36), some (.ref x1), none, some (.int (x3)), some (.int (x4 + (1 : Int32)))], [])) rfl ⟨(Nat.le_of_ble_eq_true rfl), trivial, trivial⟩ ?_
      exact h
