/-! METHODS by their segments. -/
-- 143 LineSetterLaw.text(LLineSetter;I[J)I
theorem t143 : sP 143 = (4, sp_143, sh_143) := rfl
theorem sr143 : sm_srt sp_143 = true := by decide +kernel
theorem g143_0 {M : sm_M} {x1 : Int32} {K : Int32 → sm_M → Prop} (hS : SH M)  (h : sm_xI 144 [.ref 23, .int (x1)] M (fun r0 M0 => (sm_kd M0 r0 = 48 ∧ SH M0 ∧ K (1 : Int32) M0) ∨ (sm_kd M0 r0 = 49 ∧ SH M0 ∧ K (2 : Int32) M0)) (fun v2 M1 => SH M1 → (vp_in (0 : Int32) 1) ∧ ∀ M5, SH M5 → M5 = sm_wJ M1 164 (0 : Int32).toNatClampNeg v2.toInt64 → K (0 : Int32) M5)) : sm_w 143 (sm_in sP 143 [.ref 23, .int (x1), .ref 164]) M (rI K) := by
  show sm_w 143 (0, [some (.ref 23), some (.int (x1)), some (.ref 164), none], []) M (rI K)
  refine sm_w.run t143 sr143 0 4 (M2 := M) (f2 := (4, [some (.ref 23), some (.int (x1)), some (.ref 164), none], [.int (x1), .ref 23, .int ((0 : Int32)), .ref 164])) rfl ⟨trivial, trivial, trivial, trivial, trivial⟩ ?_
  refine sm_w.yI t143 sr143 4 (i := 144) (as := [.ref 23, .int (x1)]) (g := (4, [some (.ref 23), some (.int (x1)), some (.ref 164), none], [.int ((0 : Int32)), .ref 164])) rfl ⟨by decide, by decide, (Nat.le_of_ble_eq_true rfl), (sm_K.g (k_23 hS) (sm_sh.rf _)).1, (sm_K.g (k_23 hS) (sm_sh.rf _)).2, (Nat.le_of_ble_eq_true rfl)⟩ (Nat.le_of_ble_eq_true rfl) (by decide) (sm_xI.s (by decide) hS h) (fun r0 M0 h => ?_) (fun v2 M1 h => ?_)
  · rcases h with ⟨hk, hS0, h⟩ | ⟨hk, hS0, h⟩
    · refine ⟨12, by rw [hk]; rfl, ?_⟩
      refine sm_w.run t143 sr143 8 2 (M2 := M0) (f2 := (14, [some (.ref 23), some (.int (x1)), some (.ref 164), some (.ref r0)], [.int ((1 : Int32))])) rfl ⟨(Nat.le_of_ble_eq_true rfl), trivial, trivial⟩ ?_
      exact sm_w.end t143 sr143 10 (o := .returned (some (.int ((1 : Int32))))) (M2 := M0) rfl rfl (by decide) (⟨_, rfl, h⟩)
    · refine ⟨15, by rw [hk]; rfl, ?_⟩
      refine sm_w.run t143 sr143 11 2 (M2 := M0) (f2 := (17, [some (.ref 23), some (.int (x1)), some (.ref 164), some (.ref r0)], [.int ((2 : Int32))])) rfl ⟨(Nat.le_of_ble_eq_true rfl), trivial, trivial⟩ ?_
      exact sm_w.end t143 sr143 13 (o := .returned (some (.int ((2 : Int32))))) (M2 := M0) rfl rfl (by decide) (⟨_, rfl, h⟩)
  · obtain ⟨hS3, h⟩ := h
    obtain ⟨c4, h⟩ := h
    refine sm_w.run t143 sr143 5 2 (M2 := sm_wJ M1 164 (0 : Int32).toNatClampNeg v2.toInt64) (f2 := (9, [some (.ref 23), some (.int (x1)), some (.ref 164), none], [])) rfl ⟨trivial, sm_K.s2 (k_164 hS3) (l_164 hS3) c4, trivial⟩ ?_
    have hS6 : SH (sm_wJ M1 164 (0 : Int32).toNatClampNeg v2.toInt64) := SH.wJ hS3 _ _ _
    have h := h _ hS6 rfl
    generalize sm_wJ M1 164 (0 : Int32).toNatClampNeg v2.toInt64 = M5 at h hS6 ⊢
    refine sm_w.run t143 sr143 7 1 (M2 := M5) (f2 := (18, [some (.ref 23), some (.int (x1)), some (.ref 164), none], [])) rfl ⟨trivial, trivial⟩ ?_
    refine sm_w.run t143 sr143 14 1 (M2 := M5) (f2 := (19, [some (.ref 23), some (.int (x1)), some (.ref 164), none], [.int ((0 : Int32))])) rfl ⟨trivial, trivial⟩ ?_
    exact sm_w.end t143 sr143 15 (o := .returned (some (.int ((0 : Int32))))) (M2 := M5) rfl rfl (by decide) (⟨_, rfl, h⟩)
-- 149 LineSetter$Setting.numberAt([BI)I
theorem t149 : sP 149 = (2, sp_149, sh_149) := rfl
theorem sr149 : sm_srt sp_149 = true := by decide +kernel
theorem g149_0 {M : sm_M} {x0 : Nat} {nx0 : Nat} {x1 : Int32} {K : Int32 → sm_M → Prop} (hS : SH M) (hx0 : sA x0 1 nx0) (h : ((x1 < 0 → K (0 : Int32) M) ∧ (¬ x1 < 0 → (((Int32.ofNat nx0) ≤ (x1 + (1 : Int32)) → K (0 : Int32) M) ∧ (¬ (Int32.ofNat nx0) ≤ (x1 + (1 : Int32)) → (vp_in x1 nx0) ∧ (vp_in (x1 + (1 : Int32)) nx0) ∧ K ((((iV M x0 x1.toNatClampNeg) &&& (255 : Int32)) <<< ((8 : Int32) &&& 31)) ||| ((iV M x0 (x1 + (1 : Int32)).toNatClampNeg) &&& (255 : Int32))) M))))) : sm_w 149 (sm_in sP 149 [.ref x0, .int (x1)]) M (rI K) := by
  show sm_w 149 (0, [some (.ref x0), some (.int (x1))], []) M (rI K)
  refine sm_w.run t149 sr149 0 2 (M2 := M) (f2 := (if x1 < 0 then 35 else 4, [some (.ref x0), some (.int (x1))], [])) rfl ⟨trivial, trivial, trivial⟩ ?_
  refine sm_w.ite (fun hc => ?_) (fun hc => ?_)
  · have h := h.1 hc
    refine sm_w.run t149 sr149 24 1 (M2 := M) (f2 := (36, [some (.ref x0), some (.int (x1))], [.int ((0 : Int32))])) rfl ⟨trivial, trivial⟩ ?_
    exact sm_w.end t149 sr149 25 (o := .returned (some (.int ((0 : Int32))))) (M2 := M) rfl rfl (by decide) (⟨_, rfl, h⟩)
  · have h := h.2 hc
    refine sm_w.run t149 sr149 2 5 (M2 := M) (f2 := (9, [some (.ref x0), some (.int (x1))], [.int (Int32.ofNat (sm_ln M x0)), .int (x1 + (1 : Int32))])) rfl ⟨trivial, trivial, trivial, trivial, sm_K.l (hx0.K hS) (sm_sh.rf _) (by decide), trivial⟩ ?_
    refine sm_w.aln (hx0.L hS) ?_
    refine sm_w.run t149 sr149 7 1 (M2 := M) (f2 := (if (Int32.ofNat nx0) ≤ (x1 + (1 : Int32)) then 35 else 12, [some (.ref x0), some (.int (x1))], [])) rfl ⟨trivial, trivial⟩ ?_
    refine sm_w.ite (fun hc => ?_) (fun hc => ?_)
    · have h := h.1 hc
      refine sm_w.run t149 sr149 24 1 (M2 := M) (f2 := (36, [some (.ref x0), some (.int (x1))], [.int ((0 : Int32))])) rfl ⟨trivial, trivial⟩ ?_
      exact sm_w.end t149 sr149 25 (o := .returned (some (.int ((0 : Int32))))) (M2 := M) rfl rfl (by decide) (⟨_, rfl, h⟩)
    · have h := h.2 hc
      obtain ⟨c1, c2, h⟩ := h
      refine sm_w.run t149 sr149 8 16 (M2 := M) (f2 := (36, [some (.ref x0), some (.int (x1))], [.int ((((iV M x0 x1.toNatClampNeg) &&& (255 : Int32)) <<< ((8 : Int32) &&& 31)) ||| ((iV M x0 (x1 + (1 : Int32)).toNatClampNeg) &&& (255 : Int32)))])) rfl ⟨trivial, trivial, sm_K.a2 (hx0.K hS) (hx0.L hS) c1, trivial, trivial, trivial, trivial, trivial, trivial, trivial, trivial, sm_K.a2 (hx0.K hS) (hx0.L hS) c2, trivial, trivial, trivial, trivial, trivial⟩ ?_
      exact sm_w.end t149 sr149 25 (o := .returned (some (.int ((((iV M x0 x1.toNatClampNeg) &&& (255 : Int32)) <<< ((8 : Int32) &&& 31)) ||| ((iV M x0 (x1 + (1 : Int32)).toNatClampNeg) &&& (255 : Int32)))))) (M2 := M) rfl rfl (by decide) (⟨_, rfl, h⟩)
def p149_0 (M : sm_M) (x0 : Nat) (nx0 : Nat) (x1 : Int32) : Int32 := if x1 < 0 then (0 : Int32) else (if (Int32.ofNat nx0) ≤ (x1 + (1 : Int32)) then (0 : Int32) else ((((iV M x0 x1.toNatClampNeg) &&& (255 : Int32)) <<< ((8 : Int32) &&& 31)) ||| ((iV M x0 (x1 + (1 : Int32)).toNatClampNeg) &&& (255 : Int32))))
def q149_0 (M : sm_M) (x0 : Nat) (nx0 : Nat) (x1 : Int32) : Prop := ((x1 < 0 → True) ∧ (¬ x1 < 0 → (((Int32.ofNat nx0) ≤ (x1 + (1 : Int32)) → True) ∧ (¬ (Int32.ofNat nx0) ≤ (x1 + (1 : Int32)) → (vp_in x1 nx0) ∧ (vp_in (x1 + (1 : Int32)) nx0)))))
theorem p149_c {M : sm_M} {x0 : Nat} {nx0 : Nat} {x1 : Int32} (hS : SH M) (hx0 : sA x0 1 nx0) (hq : q149_0 M x0 nx0 x1) : sm_cI 149 [.ref x0, .int (x1)] M (fun v M2 => v = p149_0 M x0 nx0 x1 ∧ M2 = M) := by
  refine g149_0 (K := (fun v M2 => v = p149_0 M x0 nx0 x1 ∧ M2 = M)) hS hx0 ?_
  unfold q149_0 at hq
  refine ⟨fun e1 => ?_, fun e1 => ?_⟩
  · refine ⟨?_, rfl⟩
    unfold p149_0
    rw [if_pos e1]
  · have hq := hq.2 e1
    refine ⟨fun e2 => ?_, fun e2 => ?_⟩
    · refine ⟨?_, rfl⟩
      unfold p149_0
      rw [if_neg e1, if_pos e2]
    · have hq := hq.2 e2
      obtain ⟨d3, d4⟩ := hq
      refine ⟨d3, d4, ?_⟩
      refine ⟨?_, rfl⟩
      unfold p149_0
      rw [if_neg e1, if_neg e2]
-- 148 LineSetter$Setting.areBreaks([BI)Z
theorem t148 : sP 148 = (6, sp_148, sh_148) := rfl
theorem sr148 : sm_srt sp_148 = true := by decide +kernel
theorem g148_0 {M : sm_M} {x0 : Nat} {x1 : Nat} {nx1 : Nat} {x2 : Int32} {K : Int32 → sm_M → Prop} (hS : SH M) (hx0 : fS x0) (hx1 : sA x1 1 nx1) (h : (((x2 - x2 / (2 : Int32) * (2 : Int32)) = 0 → sm_w 148 (13, [some (.ref x0), some (.ref x1), some (.int (x2)), some (.int ((0 : Int32))), some (.int ((0 : Int32))), none], []) M (rI K)) ∧ (¬ (x2 - x2 / (2 : Int32) * (2 : Int32)) = 0 → K (0 : Int32) M))) : sm_w 148 (sm_in sP 148 [.ref x0, .ref x1, .int (x2)]) M (rI K) := by
  show sm_w 148 (0, [some (.ref x0), some (.ref x1), some (.int (x2)), none, none, none], []) M (rI K)
  refine sm_w.run t148 sr148 0 4 (M2 := M) (f2 := (if (x2 - x2 / (2 : Int32) * (2 : Int32)) = 0 then 8 else 6, [some (.ref x0), some (.ref x1), some (.int (x2)), none, none, none], [])) rfl ⟨trivial, trivial, by decide, trivial, trivial⟩ ?_
  refine sm_w.ite (fun hc => ?_) (fun hc => ?_)
  · have h := h.1 hc
    refine sm_w.run t148 sr148 6 4 (M2 := M) (f2 := (13, [some (.ref x0), some (.ref x1), some (.int (x2)), some (.int ((0 : Int32))), some (.int ((0 : Int32))), none], [])) rfl ⟨trivial, (Nat.le_of_ble_eq_true rfl), trivial, (Nat.le_of_ble_eq_true rfl), trivial⟩ ?_
    exact h
  · have h := h.2 hc
    refine sm_w.run t148 sr148 4 1 (M2 := M) (f2 := (7, [some (.ref x0), some (.ref x1), some (.int (x2)), none, none, none], [.int ((0 : Int32))])) rfl ⟨trivial, trivial⟩ ?_
    exact sm_w.end t148 sr148 5 (o := .returned (some (.int ((0 : Int32))))) (M2 := M) rfl rfl (by decide) (⟨_, rfl, h⟩)
theorem g148_1 {M : sm_M} {x0 : Nat} {x1 : Nat} {nx1 : Nat} {x2 : Int32} {x3 : Int32} {x4 : Int32} {K : Int32 → sm_M → Prop} (hS : SH M) (hx0 : fS x0) (hx1 : sA x1 1 nx1) (h : ((x2 ≤ (x4 + (1 : Int32)) → K (1 : Int32) M) ∧ (¬ x2 ≤ (x4 + (1 : Int32)) → (q149_0 M x1 nx1 x4) ∧ (((p149_0 M x1 nx1 x4) ≤ x3 → K (0 : Int32) M) ∧ (¬ (p149_0 M x1 nx1 x4) ≤ x3 → (((p149_0 M x1 nx1 x4) < (iV M (x0 + 1) 3) → sm_w 148 (13, [some (.ref x0), some (.ref x1), some (.int (x2)), some (.int (p149_0 M x1 nx1 x4)), some (.int (x4 + (2 : Int32))), none], []) M (rI K)) ∧ (¬ (p149_0 M x1 nx1 x4) < (iV M (x0 + 1) 3) → K (0 : Int32) M))))))) : sm_w 148 (13, [some (.ref x0), some (.ref x1), some (.int (x2)), some (.int (x3)), some (.int (x4)), none], []) M (rI K) := by
  refine sm_w.run t148 sr148 10 5 (M2 := M) (f2 := (if x2 ≤ (x4 + (1 : Int32)) then 58 else 21, [some (.ref x0), some (.ref x1), some (.int (x2)), some (.int (x3)), some (.int (x4)), none], [])) rfl ⟨trivial, trivial, trivial, trivial, trivial, trivial⟩ ?_
  refine sm_w.ite (fun hc => ?_) (fun hc => ?_)
  · have h := h.1 hc
    refine sm_w.run t148 sr148 33 1 (M2 := M) (f2 := (59, [some (.ref x0), some (.ref x1), some (.int (x2)), some (.int (x3)), some (.int (x4)), none], [.int ((1 : Int32))])) rfl ⟨trivial, trivial⟩ ?_
    exact sm_w.end t148 sr148 34 (o := .returned (some (.int ((1 : Int32))))) (M2 := M) rfl rfl (by decide) (⟨_, rfl, h⟩)
  · have h := h.2 hc
    obtain ⟨c1, h⟩ := h
    refine sm_w.run t148 sr148 15 2 (M2 := M) (f2 := (24, [some (.ref x0), some (.ref x1), some (.int (x2)), some (.int (x3)), some (.int (x4)), none], [.int (x4), .ref x1])) rfl ⟨trivial, trivial, trivial⟩ ?_
    refine sm_w.cI t148 sr148 17 (i := 149) (as := [.ref x1, .int (x4)]) (g := (24, [some (.ref x0), some (.ref x1), some (.int (x2)), some (.int (x3)), some (.int (x4)), none], [])) rfl ⟨(Nat.le_of_ble_eq_true rfl), (Nat.le_of_ble_eq_true rfl)⟩ (Nat.le_of_ble_eq_true rfl) (by decide) (p149_c hS hx1 c1) (fun vz M2 hz => ?_)
    obtain ⟨hz1, hz2⟩ := hz
    subst hz1
    have hz2 := hz2.symm
    subst hz2
    refine sm_w.run t148 sr148 18 4 (M2 := M) (f2 := (if (p149_0 M x1 nx1 x4) ≤ x3 then 47 else 35, [some (.ref x0), some (.ref x1), some (.int (x2)), some (.int (x3)), some (.int (x4)), some (.int (p149_0 M x1 nx1 x4))], [])) rfl ⟨(Nat.le_of_ble_eq_true rfl), trivial, trivial, trivial, trivial⟩ ?_
    refine sm_w.ite (fun hc => ?_) (fun hc => ?_)
    · have h := h.1 hc
      refine sm_w.run t148 sr148 27 1 (M2 := M) (f2 := (48, [some (.ref x0), some (.ref x1), some (.int (x2)), some (.int (x3)), some (.int (x4)), some (.int (p149_0 M x1 nx1 x4))], [.int ((0 : Int32))])) rfl ⟨trivial, trivial⟩ ?_
      exact sm_w.end t148 sr148 28 (o := .returned (some (.int ((0 : Int32))))) (M2 := M) rfl rfl (by decide) (⟨_, rfl, h⟩)
    · have h := h.2 hc
      refine sm_w.run t148 sr148 22 3 (M2 := M) (f2 := (41, [some (.ref x0), some (.ref x1), some (.int (x2)), some (.int (x3)), some (.int (x4)), some (.int (p149_0 M x1 nx1 x4))], [va_rf (sm_rv M x0 0), .int (p149_0 M x1 nx1 x4)])) rfl ⟨trivial, trivial, sm_K.g (kS_0 hS hx0) (sm_sh.rf _), trivial⟩ ?_
      refine sm_w.fld (rS_0 hS hx0) ?_
      refine sm_w.run t148 sr148 25 2 (M2 := M) (f2 := (if (p149_0 M x1 nx1 x4) < (iV M (x0 + 1) 3) then 49 else 47, [some (.ref x0), some (.ref x1), some (.int (x2)), some (.int (x3)), some (.int (x4)), some (.int (p149_0 M x1 nx1 x4))], [])) rfl ⟨sm_K.g (kK_0 hS (fS_1 hx0)) (sm_sh.rf _), trivial, trivial⟩ ?_
      refine sm_w.ite (fun hc => ?_) (fun hc => ?_)
      · have h := h.1 hc
        refine sm_w.run t148 sr148 29 4 (M2 := M) (f2 := (13, [some (.ref x0), some (.ref x1), some (.int (x2)), some (.int (p149_0 M x1 nx1 x4)), some (.int (x4 + (2 : Int32))), some (.int (p149_0 M x1 nx1 x4))], [])) rfl ⟨trivial, (Nat.le_of_ble_eq_true rfl), (Nat.le_of_ble_eq_true rfl), trivial, trivial⟩ ?_
        refine sm_w.weak (ls := [some (.ref x0), some (.ref x1), some (.int (x2)), some (.int (p149_0 M x1 nx1 x4)), some (.int (x4 + (2 : Int32))), none]) (sm_leI [true, true, true, true, true, false] rfl) ?_
        exact h
      · have h := h.2 hc
        refine sm_w.run t148 sr148 27 1 (M2 := M) (f2 := (48, [some (.ref x0), some (.ref x1), some (.int (x2)), some (.int (x3)), some (.int (x4)), some (.int (p149_0 M x1 nx1 x4))], [.int ((0 : Int32))])) rfl ⟨trivial, trivial⟩ ?_
        exact sm_w.end t148 sr148 28 (o := .returned (some (.int ((0 : Int32))))) (M2 := M) rfl rfl (by decide) (⟨_, rfl, h⟩)
-- 150 LineSetter$Setting.costOfRow([BILLineSetter$Line;)J
theorem t150 : sP 150 = (10, sp_150, sh_150) := rfl
theorem sr150 : sm_srt sp_150 = true := by decide +kernel
theorem g150_0 {M : sm_M} {x0 : Nat} {x1 : Nat} {nx1 : Nat} {x2 : Int32} {x3 : Nat} {K : Int64 → sm_M → Prop} (hS : SH M) (hx0 : fS x0) (hx1 : sA x1 1 nx1) (hx3 : fL x3) (h : sm_w 150 (12, [some (.ref x0), some (.ref x1), some (.int (x2)), some (.ref x3), some (.long ((0 : Int64))), none, some (.int ((0 : Int32))), some (.int ((1 : Int32))), some (.int ((0 : Int32))), none], []) M (rJ K)) : sm_w 150 (sm_in sP 150 [.ref x0, .ref x1, .int (x2), .ref x3]) M (rJ K) := by
  show sm_w 150 (0, [some (.ref x0), some (.ref x1), some (.int (x2)), some (.ref x3), none, none, none, none, none, none], []) M (rJ K)
  refine sm_w.run t150 sr150 0 8 (M2 := M) (f2 := (12, [some (.ref x0), some (.ref x1), some (.int (x2)), some (.ref x3), some (.long ((0 : Int64))), none, some (.int ((0 : Int32))), some (.int ((1 : Int32))), some (.int ((0 : Int32))), none], [])) rfl ⟨trivial, (Nat.le_of_ble_eq_true rfl), trivial, (Nat.le_of_ble_eq_true rfl), trivial, (Nat.le_of_ble_eq_true rfl), trivial, (Nat.le_of_ble_eq_true rfl), trivial⟩ ?_
  exact h
theorem g150_1 {M : sm_M} {x0 : Nat} {x1 : Nat} {nx1 : Nat} {x2 : Int32} {x3 : Nat} {x4 : Int64} {x6 : Int32} {x7 : Int32} {x8 : Int32} {K : Int64 → sm_M → Prop} (hS : SH M) (hx0 : fS x0) (hx1 : sA x1 1 nx1) (hx3 : fL x3) (h : ((x2 < x8 → K x4 M) ∧ (¬ x2 < x8 → ((x2 ≤ x8 → sm_cV 112 [.ref x0, .ref x3, .int (x6), .int (iV M (x0 + 1) 3)] M (fun M1 => SH M1 → (((p119_0 M1 x3 (iV M1 x0 4)) = 0 → K (-1 : Int64) M1) ∧ (¬ (p119_0 M1 x3 (iV M1 x0 4)) = 0 → (q121_0 M1 x0 x3) ∧ sm_w 150 (12, [some (.ref x0), some (.ref x1), some (.int (x2)), some (.ref x3), some (.long (x4 + ((p121_0 M1 x0 x3) + (p123_0 M1 x0 x7 x3)))), none, some (.int (iV M (x0 + 1) 3)), some (.int (iV M1 x3 10)), some (.int (x8 + (2 : Int32))), none], []) M1 (rJ K))))) ∧ (¬ x2 ≤ x8 → (q149_0 M x1 nx1 x8) ∧ sm_cV 112 [.ref x0, .ref x3, .int (x6), .int (p149_0 M x1 nx1 x8)] M (fun M6 => SH M6 → (((p119_0 M6 x3 (iV M6 x0 4)) = 0 → K (-1 : Int64) M6) ∧ (¬ (p119_0 M6 x3 (iV M6 x0 4)) = 0 → (q121_0 M6 x0 x3) ∧ sm_w 150 (12, [some (.ref x0), some (.ref x1), some (.int (x2)), some (.ref x3), some (.long (x4 + ((p121_0 M6 x0 x3) + (p123_0 M6 x0 x7 x3)))), none, some (.int (p149_0 M x1 nx1 x8)), some (.int (iV M6 x3 10)), some (.int (x8 + (2 : Int32))), none], []) M6 (rJ K))))))))) : sm_w 150 (12, [some (.ref x0), some (.ref x1), some (.int (x2)), some (.ref x3), some (.long (x4)), none, some (.int (x6)), some (.int (x7)), some (.int (x8)), none], []) M (rJ K) := by
  refine sm_w.run t150 sr150 8 3 (M2 := M) (f2 := (if x2 < x8 then 100 else 18, [some (.ref x0), some (.ref x1), some (.int (x2)), some (.ref x3), some (.long (x4)), none, some (.int (x6)), some (.int (x7)), some (.int (x8)), none], [])) rfl ⟨trivial, trivial, trivial, trivial⟩ ?_
  refine sm_w.ite (fun hc => ?_) (fun hc => ?_)
  · have h := h.1 hc
    refine sm_w.run t150 sr150 52 1 (M2 := M) (f2 := (102, [some (.ref x0), some (.ref x1), some (.int (x2)), some (.ref x3), some (.long (x4)), none, some (.int (x6)), some (.int (x7)), some (.int (x8)), none], [.long (x4)])) rfl ⟨trivial, trivial⟩ ?_
    exact sm_w.end t150 sr150 53 (o := .returned (some (.long (x4)))) (M2 := M) rfl trivial (by decide) (⟨_, rfl, h⟩)
  · have h := h.2 hc
    refine sm_w.run t150 sr150 11 3 (M2 := M) (f2 := (if x2 ≤ x8 then 33 else 24, [some (.ref x0), some (.ref x1), some (.int (x2)), some (.ref x3), some (.long (x4)), none, some (.int (x6)), some (.int (x7)), some (.int (x8)), none], [])) rfl ⟨trivial, trivial, trivial, trivial⟩ ?_
    refine sm_w.ite (fun hc => ?_) (fun hc => ?_)
    · have h := h.1 hc
      refine sm_w.run t150 sr150 18 2 (M2 := M) (f2 := (37, [some (.ref x0), some (.ref x1), some (.int (x2)), some (.ref x3), some (.long (x4)), none, some (.int (x6)), some (.int (x7)), some (.int (x8)), none], [va_rf (sm_rv M x0 0)])) rfl ⟨trivial, sm_K.g (kS_0 hS hx0) (sm_sh.rf _), trivial⟩ ?_
      refine sm_w.fld (rS_0 hS hx0) ?_
      refine sm_w.run t150 sr150 20 6 (M2 := M) (f2 := (48, [some (.ref x0), some (.ref x1), some (.int (x2)), some (.ref x3), some (.long (x4)), none, some (.int (x6)), some (.int (x7)), some (.int (x8)), some (.int (iV M (x0 + 1) 3))], [.int (iV M (x0 + 1) 3), .int (x6), .ref x3, .ref x0])) rfl ⟨sm_K.g (kK_0 hS (fS_1 hx0)) (sm_sh.rf _), (Nat.le_of_ble_eq_true rfl), trivial, trivial, trivial, trivial, trivial⟩ ?_
      refine sm_w.cV t150 sr150 26 (i := 112) (as := [.ref x0, .ref x3, .int (x6), .int (iV M (x0 + 1) 3)]) (g := (48, [some (.ref x0), some (.ref x1), some (.int (x2)), some (.ref x3), some (.long (x4)), none, some (.int (x6)), some (.int (x7)), some (.int (x8)), some (.int (iV M (x0 + 1) 3))], [])) rfl ⟨by decide, by decide, (Nat.le_of_ble_eq_true rfl), (sm_K.g (kS_0 hS hx0) (sm_sh.rf _)).1, (sm_K.g (kS_0 hS hx0) (sm_sh.rf _)).2, (Nat.le_of_ble_eq_true rfl)⟩ (Nat.le_of_ble_eq_true rfl) (by decide) (sm_cV.s (by decide) hS h) (fun M1 h => ?_)
      obtain ⟨hS3, h⟩ := h
      refine sm_w.run t150 sr150 27 3 (M2 := M1) (f2 := (56, [some (.ref x0), some (.ref x1), some (.int (x2)), some (.ref x3), some (.long (x4)), none, some (.int (x6)), some (.int (x7)), some (.int (x8)), some (.int (iV M (x0 + 1) 3))], [.int (iV M1 x0 4), .ref x3])) rfl ⟨trivial, trivial, sm_K.g (kS_0 hS3 hx0) (sm_sh.rf _), trivial⟩ ?_
      refine sm_w.cI t150 sr150 30 (i := 119) (as := [.ref x3, .int (iV M1 x0 4)]) (g := (56, [some (.ref x0), some (.ref x1), some (.int (x2)), some (.ref x3), some (.long (x4)), none, some (.int (x6)), some (.int (x7)), some (.int (x8)), some (.int (iV M (x0 + 1) 3))], [])) rfl ⟨by decide, by decide, (Nat.le_of_ble_eq_true rfl), (sm_K.g (kL_0 hS3 hx3) (sm_sh.rf _)).1, (sm_K.g (kL_0 hS3 hx3) (sm_sh.rf _)).2, (Nat.le_of_ble_eq_true rfl)⟩ (Nat.le_of_ble_eq_true rfl) (by decide) (p119_c hS3 hx3) (fun vz M2 hz => ?_)
      obtain ⟨hz1, hz2⟩ := hz
      subst hz1
      have hz2 := hz2.symm
      subst hz2
      refine sm_w.run t150 sr150 31 1 (M2 := M1) (f2 := (if (p119_0 M1 x3 (iV M1 x0 4)) = 0 then 62 else 66, [some (.ref x0), some (.ref x1), some (.int (x2)), some (.ref x3), some (.long (x4)), none, some (.int (x6)), some (.int (x7)), some (.int (x8)), some (.int (iV M (x0 + 1) 3))], [])) rfl ⟨trivial, trivial⟩ ?_
      refine sm_w.ite (fun hc => ?_) (fun hc => ?_)
      · have h := h.1 hc
        refine sm_w.run t150 sr150 32 1 (M2 := M1) (f2 := (65, [some (.ref x0), some (.ref x1), some (.int (x2)), some (.ref x3), some (.long (x4)), none, some (.int (x6)), some (.int (x7)), some (.int (x8)), some (.int (iV M (x0 + 1) 3))], [.long ((-1 : Int64))])) rfl ⟨trivial, trivial⟩ ?_
        exact sm_w.end t150 sr150 33 (o := .returned (some (.long ((-1 : Int64))))) (M2 := M1) rfl trivial (by decide) (⟨_, rfl, h⟩)
      · have h := h.2 hc
        obtain ⟨c4, h⟩ := h
        refine sm_w.run t150 sr150 34 3 (M2 := M1) (f2 := (70, [some (.ref x0), some (.ref x1), some (.int (x2)), some (.ref x3), some (.long (x4)), none, some (.int (x6)), some (.int (x7)), some (.int (x8)), some (.int (iV M (x0 + 1) 3))], [.ref x3, .ref x0, .long (x4)])) rfl ⟨trivial, trivial, trivial, trivial⟩ ?_
        refine sm_w.cJ t150 sr150 37 (i := 121) (as := [.ref x0, .ref x3]) (g := (70, [some (.ref x0), some (.ref x1), some (.int (x2)), some (.ref x3), some (.long (x4)), none, some (.int (x6)), some (.int (x7)), some (.int (x8)), some (.int (iV M (x0 + 1) 3))], [.long (x4)])) rfl ⟨by decide, by decide, (Nat.le_of_ble_eq_true rfl), (sm_K.g (kS_0 hS3 hx0) (sm_sh.rf _)).1, (sm_K.g (kS_0 hS3 hx0) (sm_sh.rf _)).2, (Nat.le_of_ble_eq_true rfl)⟩ (Nat.le_of_ble_eq_true rfl) (by decide) (p121_c hS3 hx0 hx3 c4) (fun vz M2 hz => ?_)
        obtain ⟨hz1, hz2⟩ := hz
        subst hz1
        have hz2 := hz2.symm
        subst hz2
        refine sm_w.run t150 sr150 38 3 (M2 := M1) (f2 := (77, [some (.ref x0), some (.ref x1), some (.int (x2)), some (.ref x3), some (.long (x4)), none, some (.int (x6)), some (.int (x7)), some (.int (x8)), some (.int (iV M (x0 + 1) 3))], [.ref x3, .int (x7), .ref x0, .long (p121_0 M1 x0 x3), .long (x4)])) rfl ⟨trivial, trivial, trivial, trivial⟩ ?_
        refine sm_w.cJ t150 sr150 41 (i := 123) (as := [.ref x0, .int (x7), .ref x3]) (g := (77, [some (.ref x0), some (.ref x1), some (.int (x2)), some (.ref x3), some (.long (x4)), none, some (.int (x6)), some (.int (x7)), some (.int (x8)), some (.int (iV M (x0 + 1) 3))], [.long (p121_0 M1 x0 x3), .long (x4)])) rfl ⟨by decide, by decide, (Nat.le_of_ble_eq_true rfl), (sm_K.g (kS_0 hS3 hx0) (sm_sh.rf _)).1, (sm_K.g (kS_0 hS3 hx0) (sm_sh.rf _)).2, (Nat.le_of_ble_eq_true rfl)⟩ (Nat.le_of_ble_eq_true rfl) (by decide) (p123_c hS3 hx0 hx3) (fun vz M2 hz => ?_)
        obtain ⟨hz1, hz2⟩ := hz
        subst hz1
        have hz2 := hz2.symm
        subst hz2
        refine sm_w.run t150 sr150 42 10 (M2 := M1) (f2 := (12, [some (.ref x0), some (.ref x1), some (.int (x2)), some (.ref x3), some (.long (x4 + ((p121_0 M1 x0 x3) + (p123_0 M1 x0 x7 x3)))), none, some (.int (iV M (x0 + 1) 3)), some (.int (iV M1 x3 10)), some (.int (x8 + (2 : Int32))), some (.int (iV M (x0 + 1) 3))], [])) rfl ⟨trivial, trivial, (Nat.le_of_ble_eq_true rfl), trivial, sm_K.g (kL_0 hS3 hx3) (sm_sh.rf _), (Nat.le_of_ble_eq_true rfl), trivial, (Nat.le_of_ble_eq_true rfl), (Nat.le_of_ble_eq_true rfl), trivial, trivial⟩ ?_
        refine sm_w.weak (ls := [some (.ref x0), some (.ref x1), some (.int (x2)), some (.ref x3), some (.long (x4 + ((p121_0 M1 x0 x3) + (p123_0 M1 x0 x7 x3)))), none, some (.int (iV M (x0 + 1) 3)), some (.int (iV M1 x3 10)), some (.int (x8 + (2 : Int32))), none]) (sm_leI [true, true, true, true, true, false, true, true, true, false] rfl) ?_
        exact h
    · have h := h.2 hc
      obtain ⟨c5, h⟩ := h
      refine sm_w.run t150 sr150 14 2 (M2 := M) (f2 := (27, [some (.ref x0), some (.ref x1), some (.int (x2)), some (.ref x3), some (.long (x4)), none, some (.int (x6)), some (.int (x7)), some (.int (x8)), none], [.int (x8), .ref x1])) rfl ⟨trivial, trivial, trivial⟩ ?_
      refine sm_w.cI t150 sr150 16 (i := 149) (as := [.ref x1, .int (x8)]) (g := (27, [some (.ref x0), some (.ref x1), some (.int (x2)), some (.ref x3), some (.long (x4)), none, some (.int (x6)), some (.int (x7)), some (.int (x8)), none], [])) rfl ⟨(Nat.le_of_ble_eq_true rfl), (Nat.le_of_ble_eq_true rfl)⟩ (Nat.le_of_ble_eq_true rfl) (by decide) (p149_c hS hx1 c5) (fun vz M2 hz => ?_)
      obtain ⟨hz1, hz2⟩ := hz
      subst hz1
      have hz2 := hz2.symm
      subst hz2
      refine sm_w.run t150 sr150 17 1 (M2 := M) (f2 := (40, [some (.ref x0), some (.ref x1), some (.int (x2)), some (.ref x3), some (.long (x4)), none, some (.int (x6)), some (.int (x7)), some (.int (x8)), none], [.int (p149_0 M x1 nx1 x8)])) rfl ⟨trivial, trivial⟩ ?_
      refine sm_w.run t150 sr150 21 5 (M2 := M) (f2 := (48, [some (.ref x0), some (.ref x1), some (.int (x2)), some (.ref x3), some (.long (x4)), none, some (.int (x6)), some (.int (x7)), some (.int (x8)), some (.int (p149_0 M x1 nx1 x8))], [.int (p149_0 M x1 nx1 x8), .int (x6), .ref x3, .ref x0])) rfl ⟨(Nat.le_of_ble_eq_true rfl), trivial, trivial, trivial, trivial, trivial⟩ ?_
      refine sm_w.cV t150 sr150 26 (i := 112) (as := [.ref x0, .ref x3, .int (x6), .int (p149_0 M x1 nx1 x8)]) (g := (48, [some (.ref x0), some (.ref x1), some (.int (x2)), some (.ref x3), some (.long (x4)), none, some (.int (x6)), some (.int (x7)), some (.int (x8)), some (.int (p149_0 M x1 nx1 x8))], [])) rfl ⟨by decide, by decide, (Nat.le_of_ble_eq_true rfl), (sm_K.g (kS_0 hS hx0) (sm_sh.rf _)).1, (sm_K.g (kS_0 hS hx0) (sm_sh.rf _)).2, (Nat.le_of_ble_eq_true rfl)⟩ (Nat.le_of_ble_eq_true rfl) (by decide) (sm_cV.s (by decide) hS h) (fun M6 h => ?_)
      obtain ⟨hS8, h⟩ := h
      refine sm_w.run t150 sr150 27 3 (M2 := M6) (f2 := (56, [some (.ref x0), some (.ref x1), some (.int (x2)), some (.ref x3), some (.long (x4)), none, some (.int (x6)), some (.int (x7)), some (.int (x8)), some (.int (p149_0 M x1 nx1 x8))], [.int (iV M6 x0 4), .ref x3])) rfl ⟨trivial, trivial, sm_K.g (kS_0 hS8 hx0) (sm_sh.rf _), trivial⟩ ?_
      refine sm_w.cI t150 sr150 30 (i := 119) (as := [.ref x3, .int (iV M6 x0 4)]) (g := (56, [some (.ref x0), some (.ref x1), some (.int (x2)), some (.ref x3), some (.long (x4)), none, some (.int (x6)), some (.int (x7)), some (.int (x8)), some (.int (p149_0 M x1 nx1 x8))], [])) rfl ⟨by decide, by decide, (Nat.le_of_ble_eq_true rfl), (sm_K.g (kL_0 hS8 hx3) (sm_sh.rf _)).1, (sm_K.g (kL_0 hS8 hx3) (sm_sh.rf _)).2, (Nat.le_of_ble_eq_true rfl)⟩ (Nat.le_of_ble_eq_true rfl) (by decide) (p119_c hS8 hx3) (fun vz M2 hz => ?_)
      obtain ⟨hz1, hz2⟩ := hz
      subst hz1
      have hz2 := hz2.symm
      subst hz2
      refine sm_w.run t150 sr150 31 1 (M2 := M6) (f2 := (if (p119_0 M6 x3 (iV M6 x0 4)) = 0 then 62 else 66, [some (.ref x0), some (.ref x1), some (.int (x2)), some (.ref x3), some (.long (x4)), none, some (.int (x6)), some (.int (x7)), some (.int (x8)), some (.int (p149_0 M x1 nx1 x8))], [])) rfl ⟨trivial, trivial⟩ ?_
      refine sm_w.ite (fun hc => ?_) (fun hc => ?_)
      · have h := h.1 hc
        refine sm_w.run t150 sr150 32 1 (M2 := M6) (f2 := (65, [some (.ref x0), some (.ref x1), some (.int (x2)), some (.ref x3), some (.long (x4)), none, some (.int (x6)), some (.int (x7)), some (.int (x8)), some (.int (p149_0 M x1 nx1 x8))], [.long ((-1 : Int64))])) rfl ⟨trivial, trivial⟩ ?_
        exact sm_w.end t150 sr150 33 (o := .returned (some (.long ((-1 : Int64))))) (M2 := M6) rfl trivial (by decide) (⟨_, rfl, h⟩)
      · have h := h.2 hc
        obtain ⟨c9, h⟩ := h
        refine sm_w.run t150 sr150 34 3 (M2 := M6) (f2 := (70, [some (.ref x0), some (.ref x1), some (.int (x2)), some (.ref x3), some (.long (x4)), none, some (.int (x6)), some (.int (x7)), some (.int (x8)), some (.int (p149_0 M x1 nx1 x8))], [.ref x3, .ref x0, .long (x4)])) rfl ⟨trivial, trivial, trivial, trivial⟩ ?_
        refine sm_w.cJ t150 sr150 37 (i := 121) (as := [.ref x0, .ref x3]) (g := (70, [some (.ref x0), some (.ref x1), some (.int (x2)), some (.ref x3), some (.long (x4)), none, some (.int (x6)), some (.int (x7)), some (.int (x8)), some (.int (p149_0 M x1 nx1 x8))], [.long (x4)])) rfl ⟨by decide, by decide, (Nat.le_of_ble_eq_true rfl), (sm_K.g (kS_0 hS8 hx0) (sm_sh.rf _)).1, (sm_K.g (kS_0 hS8 hx0) (sm_sh.rf _)).2, (Nat.le_of_ble_eq_true rfl)⟩ (Nat.le_of_ble_eq_true rfl) (by decide) (p121_c hS8 hx0 hx3 c9) (fun vz M2 hz => ?_)
        obtain ⟨hz1, hz2⟩ := hz
        subst hz1
        have hz2 := hz2.symm
        subst hz2
        refine sm_w.run t150 sr150 38 3 (M2 := M6) (f2 := (77, [some (.ref x0), some (.ref x1), some (.int (x2)), some (.ref x3), some (.long (x4)), none, some (.int (x6)), some (.int (x7)), some (.int (x8)), some (.int (p149_0 M x1 nx1 x8))], [.ref x3, .int (x7), .ref x0, .long (p121_0 M6 x0 x3), .long (x4)])) rfl ⟨trivial, trivial, trivial, trivial⟩ ?_
        refine sm_w.cJ t150 sr150 41 (i := 123) (as := [.ref x0, .int (x7), .ref x3]) (g := (77, [some (.ref x0), some (.ref x1), some (.int (x2)), some (.ref x3), some (.long (x4)), none, some (.int (x6)), some (.int (x7)), some (.int (x8)), some (.int (p149_0 M x1 nx1 x8))], [.long (p121_0 M6 x0 x3), .long (x4)])) rfl ⟨by decide, by decide, (Nat.le_of_ble_eq_true rfl), (sm_K.g (kS_0 hS8 hx0) (sm_sh.rf _)).1, (sm_K.g (kS_0 hS8 hx0) (sm_sh.rf _)).2, (Nat.le_of_ble_eq_true rfl)⟩ (Nat.le_of_ble_eq_true rfl) (by decide) (p123_c hS8 hx0 hx3) (fun vz M2 hz => ?_)
        obtain ⟨hz1, hz2⟩ := hz
        subst hz1
        have hz2 := hz2.symm
        subst hz2
        refine sm_w.run t150 sr150 42 10 (M2 := M6) (f2 := (12, [some (.ref x0), some (.ref x1), some (.int (x2)), some (.ref x3), some (.long (x4 + ((p121_0 M6 x0 x3) + (p123_0 M6 x0 x7 x3)))), none, some (.int (p149_0 M x1 nx1 x8)), some (.int (iV M6 x3 10)), some (.int (x8 + (2 : Int32))), some (.int (p149_0 M x1 nx1 x8))], [])) rfl ⟨trivial, trivial, (Nat.le_of_ble_eq_true rfl), trivial, sm_K.g (kL_0 hS8 hx3) (sm_sh.rf _), (Nat.le_of_ble_eq_true rfl), trivial, (Nat.le_of_ble_eq_true rfl), (Nat.le_of_ble_eq_true rfl), trivial, trivial⟩ ?_
        refine sm_w.weak (ls := [some (.ref x0), some (.ref x1), some (.int (x2)), some (.ref x3), some (.long (x4 + ((p121_0 M6 x0 x3) + (p123_0 M6 x0 x7 x3)))), none, some (.int (p149_0 M x1 nx1 x8)), some (.int (iV M6 x3 10)), some (.int (x8 + (2 : Int32))), none]) (sm_leI [true, true, true, true, true, false, true, true, true, false] rfl) ?_
        exact h
-- 147 LineSetter.judge()J
theorem t147 : sP 147 = (2, sp_147, sh_147) := rfl
theorem sr147 : sm_srt sp_147 = true := by decide +kernel
theorem g147_0 {M : sm_M}  {K : Int64 → sm_M → Prop} {X : Nat → sm_M → Prop} (hS : SH M)  (h : ∀ M1, SH M1 → M1 = sm_wI M 24 1 (0 : Int32) → (((iV M1 23 15) = 0 → X M1.1 (sm_new M1 49 6)) ∧ (¬ (iV M1 23 15) = 0 → ∃ r6, sm_rv M1 23 13 = some r6 ∧ fS r6 ∧ sm_cI 148 [.ref r6, .ref 25, .int (iV M 24 1)] M1 (fun v10 M9 => SH M9 → ((v10 = 0 → X M9.1 (sm_new M9 48 6)) ∧ (¬ v10 = 0 → ∃ r12, sm_rv M9 23 13 = some r12 ∧ fS r12 ∧ sm_cJ 150 [.ref r12, .ref 25, .int (iV M 24 1), .ref 41] M9 (fun v16 M15 => SH M15 → K v16 M15))))))) : sm_w 147 (sm_in sP 147 [.ref 23]) M (yJ X K) := by
  show sm_w 147 (0, [some (.ref 23), none], []) M (yJ X K)
  refine sm_w.run t147 sr147 0 2 (M2 := M) (f2 := (4, [some (.ref 23), none], [va_rf (sm_rv M 23 0)])) rfl ⟨trivial, sm_K.g (k_23 hS) (sm_sh.rf _), trivial⟩ ?_
  refine sm_w.fld (r_23_0 hS) ?_
  refine sm_w.run t147 sr147 2 4 (M2 := M) (f2 := (12, [some (.ref 23), some (.int (iV M 24 1))], [va_rf (sm_rv M 23 0)])) rfl ⟨sm_K.g (kB_0 hS fB_24) (sm_sh.rf _), (Nat.le_of_ble_eq_true rfl), trivial, sm_K.g (k_23 hS) (sm_sh.rf _), trivial⟩ ?_
  refine sm_w.fld (r_23_0 hS) ?_
  refine sm_w.run t147 sr147 6 2 (M2 := sm_wI M 24 1 (0 : Int32)) (f2 := (16, [some (.ref 23), some (.int (iV M 24 1))], [])) rfl ⟨trivial, ⟨(sm_K.p (kB_0 hS fB_24) (sm_sh.rf _)).1, (sm_K.p (kB_0 hS fB_24) (sm_sh.rf _)).2.1, (sm_K.p (kB_0 hS fB_24) (sm_sh.rf _)).2.2, Or.inl rfl⟩, trivial⟩ ?_
  have hS2 : SH (sm_wI M 24 1 (0 : Int32)) := SH.wI hS _ _ _
  have h := h _ hS2 rfl
  generalize sm_wI M 24 1 (0 : Int32) = M1 at h hS2 ⊢
  refine sm_w.run t147 sr147 8 1 (M2 := M1) (f2 := (17, [some (.ref 23), some (.int (iV M 24 1))], [.ref 23])) rfl ⟨trivial, trivial⟩ ?_
  refine sm_w.zV t147 sr147 9 (i := 130) (as := [.ref 23]) (g := (17, [some (.ref 23), some (.int (iV M 24 1))], [])) rfl ⟨by decide, by decide, (Nat.le_of_ble_eq_true rfl), (sm_K.g (k_23 hS2) (sm_sh.rf _)).1, (sm_K.g (k_23 hS2) (sm_sh.rf _)).2, (Nat.le_of_ble_eq_true rfl)⟩ (Nat.le_of_ble_eq_true rfl) (by decide) rfl (fun r M2 h => Or.inl ⟨r, rfl, h⟩) (sm_xV.s2 (by decide) hS2 (g130_0 (K := fun M3 => ∃ r6, sm_rv M3 23 13 = some r6 ∧ fS r6 ∧ sm_cI 148 [.ref r6, .ref 25, .int (iV M 24 1)] M3 (fun v10 M9 => SH M9 → ((v10 = 0 → X M9.1 (sm_new M9 48 6)) ∧ (¬ v10 = 0 → ∃ r12, sm_rv M9 23 13 = some r12 ∧ fS r12 ∧ sm_cJ 150 [.ref r12, .ref 25, .int (iV M 24 1), .ref 41] M9 (fun v16 M15 => SH M15 → K v16 M15))))) hS2 h)) (fun M3 h => ?_)
  obtain ⟨hS5, h⟩ := h
  refine sm_w.run t147 sr147 10 2 (M2 := M3) (f2 := (24, [some (.ref 23), some (.int (iV M 24 1))], [va_rf (sm_rv M3 23 13)])) rfl ⟨trivial, sm_K.g (k_23 hS5) (sm_sh.rf _), trivial⟩ ?_
  obtain ⟨r6, e7, h8, h⟩ := h
  refine sm_w.fld e7 ?_
  refine sm_w.run t147 sr147 12 2 (M2 := M3) (f2 := (28, [some (.ref 23), some (.int (iV M 24 1))], [va_rf (sm_rv M3 23 0), .ref r6])) rfl ⟨trivial, sm_K.g (k_23 hS5) (sm_sh.rf _), trivial⟩ ?_
  refine sm_w.fld (r_23_0 hS5) ?_
  refine sm_w.run t147 sr147 14 1 (M2 := M3) (f2 := (31, [some (.ref 23), some (.int (iV M 24 1))], [va_rf (sm_rv M3 24 0), .ref r6])) rfl ⟨sm_K.g (kB_0 hS5 fB_24) (sm_sh.rf _), trivial⟩ ?_
  refine sm_w.fld (r_24_0 hS5) ?_
  refine sm_w.run t147 sr147 15 1 (M2 := M3) (f2 := (32, [some (.ref 23), some (.int (iV M 24 1))], [.int (iV M 24 1), .ref 25, .ref r6])) rfl ⟨trivial, trivial⟩ ?_
  refine sm_w.cI t147 sr147 16 (i := 148) (as := [.ref r6, .ref 25, .int (iV M 24 1)]) (g := (32, [some (.ref 23), some (.int (iV M 24 1))], [])) rfl ⟨by decide, by decide, (Nat.le_of_ble_eq_true rfl), (sm_K.g (kS_0 hS5 h8) (sm_sh.rf _)).1, (sm_K.g (kS_0 hS5 h8) (sm_sh.rf _)).2, (Nat.le_of_ble_eq_true rfl)⟩ (Nat.le_of_ble_eq_true rfl) (by decide) (sm_cI.s (by decide) hS5 h) (fun v10 M9 h => ?_)
  obtain ⟨hS11, h⟩ := h
  refine sm_w.run t147 sr147 17 1 (M2 := M9) (f2 := (if v10 = 0 then 38 else 49, [some (.ref 23), some (.int (iV M 24 1))], [])) rfl ⟨trivial, trivial⟩ ?_
  refine sm_w.ite (fun hc => ?_) (fun hc => ?_)
  · have h := h.1 hc
    exact sm_w.end t147 sr147 18 (o := .threw M9.1) (M2 := sm_new M9 48 6) rfl (Nat.le_of_ble_eq_true rfl) (by decide) (Or.inl ⟨_, rfl, h⟩)
  · have h := h.2 hc
    refine sm_w.run t147 sr147 19 2 (M2 := M9) (f2 := (53, [some (.ref 23), some (.int (iV M 24 1))], [va_rf (sm_rv M9 23 13)])) rfl ⟨trivial, sm_K.g (k_23 hS11) (sm_sh.rf _), trivial⟩ ?_
    obtain ⟨r12, e13, h14, h⟩ := h
    refine sm_w.fld e13 ?_
    refine sm_w.run t147 sr147 21 2 (M2 := M9) (f2 := (57, [some (.ref 23), some (.int (iV M 24 1))], [va_rf (sm_rv M9 23 0), .ref r12])) rfl ⟨trivial, sm_K.g (k_23 hS11) (sm_sh.rf _), trivial⟩ ?_
    refine sm_w.fld (r_23_0 hS11) ?_
    refine sm_w.run t147 sr147 23 1 (M2 := M9) (f2 := (60, [some (.ref 23), some (.int (iV M 24 1))], [va_rf (sm_rv M9 24 0), .ref r12])) rfl ⟨sm_K.g (kB_0 hS11 fB_24) (sm_sh.rf _), trivial⟩ ?_
    refine sm_w.fld (r_24_0 hS11) ?_
    refine sm_w.run t147 sr147 24 3 (M2 := M9) (f2 := (65, [some (.ref 23), some (.int (iV M 24 1))], [va_rf (sm_rv M9 23 8), .int (iV M 24 1), .ref 25, .ref r12])) rfl ⟨trivial, trivial, sm_K.g (k_23 hS11) (sm_sh.rf _), trivial⟩ ?_
    refine sm_w.fld (r_23_8 hS11) ?_
    refine sm_w.cJ t147 sr147 27 (i := 150) (as := [.ref r12, .ref 25, .int (iV M 24 1), .ref 41]) (g := (65, [some (.ref 23), some (.int (iV M 24 1))], [])) rfl ⟨by decide, by decide, (Nat.le_of_ble_eq_true rfl), (sm_K.g (kS_0 hS11 h14) (sm_sh.rf _)).1, (sm_K.g (kS_0 hS11 h14) (sm_sh.rf _)).2, (Nat.le_of_ble_eq_true rfl)⟩ (Nat.le_of_ble_eq_true rfl) (by decide) (sm_cJ.s (by decide) hS11 h) (fun v16 M15 h => ?_)
    obtain ⟨hS17, h⟩ := h
    exact sm_w.end t147 sr147 28 (o := .returned (some (.long (v16)))) (M2 := M15) rfl trivial (by decide) (Or.inr ⟨_, rfl, h⟩)
-- 146 LineSetterLaw.judge(LLineSetter;[J)I
theorem t146 : sP 146 = (3, sp_146, sh_146) := rfl
theorem sr146 : sm_srt sp_146 = true := by decide +kernel
theorem g146_0 {M : sm_M}  {K : Int32 → sm_M → Prop} (hS : SH M)  (h : sm_xJ 147 [.ref 23] M (fun r0 M0 => (sm_kd M0 r0 = 49 ∧ SH M0 ∧ K (1 : Int32) M0) ∨ (sm_kd M0 r0 = 48 ∧ SH M0 ∧ K (2 : Int32) M0)) (fun v2 M1 => SH M1 → (vp_in (0 : Int32) 1) ∧ ∀ M5, SH M5 → M5 = sm_wJ M1 164 (0 : Int32).toNatClampNeg v2 → K (0 : Int32) M5)) : sm_w 146 (sm_in sP 146 [.ref 23, .ref 164]) M (rI K) := by
  show sm_w 146 (0, [some (.ref 23), some (.ref 164), none], []) M (rI K)
  refine sm_w.run t146 sr146 0 3 (M2 := M) (f2 := (3, [some (.ref 23), some (.ref 164), none], [.ref 23, .int ((0 : Int32)), .ref 164])) rfl ⟨trivial, trivial, trivial, trivial⟩ ?_
  refine sm_w.yJ t146 sr146 3 (i := 147) (as := [.ref 23]) (g := (3, [some (.ref 23), some (.ref 164), none], [.int ((0 : Int32)), .ref 164])) rfl ⟨by decide, by decide, (Nat.le_of_ble_eq_true rfl), (sm_K.g (k_23 hS) (sm_sh.rf _)).1, (sm_K.g (k_23 hS) (sm_sh.rf _)).2, (Nat.le_of_ble_eq_true rfl)⟩ (Nat.le_of_ble_eq_true rfl) (by decide) (sm_xJ.s (by decide) hS h) (fun r0 M0 h => ?_) (fun v2 M1 h => ?_)
  · rcases h with ⟨hk, hS0, h⟩ | ⟨hk, hS0, h⟩
    · refine ⟨10, by rw [hk]; rfl, ?_⟩
      refine sm_w.run t146 sr146 6 2 (M2 := M0) (f2 := (12, [some (.ref 23), some (.ref 164), some (.ref r0)], [.int ((1 : Int32))])) rfl ⟨(Nat.le_of_ble_eq_true rfl), trivial, trivial⟩ ?_
      exact sm_w.end t146 sr146 8 (o := .returned (some (.int ((1 : Int32))))) (M2 := M0) rfl rfl (by decide) (⟨_, rfl, h⟩)
    · refine ⟨13, by rw [hk]; rfl, ?_⟩
      refine sm_w.run t146 sr146 9 2 (M2 := M0) (f2 := (15, [some (.ref 23), some (.ref 164), some (.ref r0)], [.int ((2 : Int32))])) rfl ⟨(Nat.le_of_ble_eq_true rfl), trivial, trivial⟩ ?_
      exact sm_w.end t146 sr146 11 (o := .returned (some (.int ((2 : Int32))))) (M2 := M0) rfl rfl (by decide) (⟨_, rfl, h⟩)
  · obtain ⟨hS3, h⟩ := h
    obtain ⟨c4, h⟩ := h
    refine sm_w.run t146 sr146 4 1 (M2 := sm_wJ M1 164 (0 : Int32).toNatClampNeg v2) (f2 := (7, [some (.ref 23), some (.ref 164), none], [])) rfl ⟨sm_K.s2 (k_164 hS3) (l_164 hS3) c4, trivial⟩ ?_
    have hS6 : SH (sm_wJ M1 164 (0 : Int32).toNatClampNeg v2) := SH.wJ hS3 _ _ _
    have h := h _ hS6 rfl
    generalize sm_wJ M1 164 (0 : Int32).toNatClampNeg v2 = M5 at h hS6 ⊢
    refine sm_w.run t146 sr146 5 1 (M2 := M5) (f2 := (16, [some (.ref 23), some (.ref 164), none], [])) rfl ⟨trivial, trivial⟩ ?_
    refine sm_w.run t146 sr146 12 1 (M2 := M5) (f2 := (17, [some (.ref 23), some (.ref 164), none], [.int ((0 : Int32))])) rfl ⟨trivial, trivial⟩ ?_
    exact sm_w.end t146 sr146 13 (o := .returned (some (.int ((0 : Int32))))) (M2 := M5) rfl rfl (by decide) (⟨_, rfl, h⟩)
-- 153 LineSetter.areLetters([BI)Z
theorem t153 : sP 153 = (3, sp_153, sh_153) := rfl
theorem sr153 : sm_srt sp_153 = true := by decide +kernel
theorem g153_0 {M : sm_M} {x0 : Nat} {nx0 : Nat} {x1 : Int32} {K : Int32 → sm_M → Prop} (hS : SH M) (hx0 : sA x0 1 nx0) (h : sm_w 153 (2, [some (.ref x0), some (.int (x1)), some (.int ((0 : Int32)))], []) M (rI K)) : sm_w 153 (sm_in sP 153 [.ref x0, .int (x1)]) M (rI K) := by
  show sm_w 153 (0, [some (.ref x0), some (.int (x1)), none], []) M (rI K)
  refine sm_w.run t153 sr153 0 2 (M2 := M) (f2 := (2, [some (.ref x0), some (.int (x1)), some (.int ((0 : Int32)))], [])) rfl ⟨trivial, (Nat.le_of_ble_eq_true rfl), trivial⟩ ?_
  exact h
theorem g153_1 {M : sm_M} {x0 : Nat} {nx0 : Nat} {x1 : Int32} {x2 : Int32} {K : Int32 → sm_M → Prop} (hS : SH M) (hx0 : sA x0 1 nx0) (h : ((x1 ≤ x2 → K (1 : Int32) M) ∧ (¬ x1 ≤ x2 → (((Int32.ofNat nx0) ≤ x2 → K (1 : Int32) M) ∧ (¬ (Int32.ofNat nx0) ≤ x2 → (vp_in x2 nx0) ∧ (((p89_0 M (iV M x0 x2.toNatClampNeg)) = 0 → K (0 : Int32) M) ∧ (¬ (p89_0 M (iV M x0 x2.toNatClampNeg)) = 0 → sm_w 153 (2, [some (.ref x0), some (.int (x1)), some (.int (x2 + (1 : Int32)))], []) M (rI K)))))))) : sm_w 153 (2, [some (.ref x0), some (.int (x1)), some (.int (x2))], []) M (rI K) := by
  refine sm_w.run t153 sr153 2 3 (M2 := M) (f2 := (if x1 ≤ x2 then 30 else 7, [some (.ref x0), some (.int (x1)), some (.int (x2))], [])) rfl ⟨trivial, trivial, trivial, trivial⟩ ?_
  refine sm_w.ite (fun hc => ?_) (fun hc => ?_)
  · have h := h.1 hc
    refine sm_w.run t153 sr153 18 1 (M2 := M) (f2 := (31, [some (.ref x0), some (.int (x1)), some (.int (x2))], [.int ((1 : Int32))])) rfl ⟨trivial, trivial⟩ ?_
    exact sm_w.end t153 sr153 19 (o := .returned (some (.int ((1 : Int32))))) (M2 := M) rfl rfl (by decide) (⟨_, rfl, h⟩)
  · have h := h.2 hc
    refine sm_w.run t153 sr153 5 3 (M2 := M) (f2 := (10, [some (.ref x0), some (.int (x1)), some (.int (x2))], [.int (Int32.ofNat (sm_ln M x0)), .int (x2)])) rfl ⟨trivial, trivial, sm_K.l (hx0.K hS) (sm_sh.rf _) (by decide), trivial⟩ ?_
    refine sm_w.aln (hx0.L hS) ?_
    refine sm_w.run t153 sr153 8 1 (M2 := M) (f2 := (if (Int32.ofNat nx0) ≤ x2 then 30 else 13, [some (.ref x0), some (.int (x1)), some (.int (x2))], [])) rfl ⟨trivial, trivial⟩ ?_
    refine sm_w.ite (fun hc => ?_) (fun hc => ?_)
    · have h := h.1 hc
      refine sm_w.run t153 sr153 18 1 (M2 := M) (f2 := (31, [some (.ref x0), some (.int (x1)), some (.int (x2))], [.int ((1 : Int32))])) rfl ⟨trivial, trivial⟩ ?_
      exact sm_w.end t153 sr153 19 (o := .returned (some (.int ((1 : Int32))))) (M2 := M) rfl rfl (by decide) (⟨_, rfl, h⟩)
    · have h := h.2 hc
      obtain ⟨c1, h⟩ := h
      refine sm_w.run t153 sr153 9 3 (M2 := M) (f2 := (16, [some (.ref x0), some (.int (x1)), some (.int (x2))], [.int (iV M x0 x2.toNatClampNeg)])) rfl ⟨trivial, trivial, sm_K.a2 (hx0.K hS) (hx0.L hS) c1, trivial⟩ ?_
      refine sm_w.cI t153 sr153 12 (i := 89) (as := [.int (iV M x0 x2.toNatClampNeg)]) (g := (16, [some (.ref x0), some (.int (x1)), some (.int (x2))], [])) rfl ⟨(Nat.le_of_ble_eq_true rfl), (Nat.le_of_ble_eq_true rfl)⟩ (Nat.le_of_ble_eq_true rfl) (by decide) (p89_c hS) (fun vz M2 hz => ?_)
      obtain ⟨hz1, hz2⟩ := hz
      subst hz1
      have hz2 := hz2.symm
      subst hz2
      refine sm_w.run t153 sr153 13 1 (M2 := M) (f2 := (if (p89_0 M (iV M x0 x2.toNatClampNeg)) = 0 then 22 else 24, [some (.ref x0), some (.int (x1)), some (.int (x2))], [])) rfl ⟨trivial, trivial⟩ ?_
      refine sm_w.ite (fun hc => ?_) (fun hc => ?_)
      · have h := h.1 hc
        refine sm_w.run t153 sr153 14 1 (M2 := M) (f2 := (23, [some (.ref x0), some (.int (x1)), some (.int (x2))], [.int ((0 : Int32))])) rfl ⟨trivial, trivial⟩ ?_
        exact sm_w.end t153 sr153 15 (o := .returned (some (.int ((0 : Int32))))) (M2 := M) rfl rfl (by decide) (⟨_, rfl, h⟩)
      · have h := h.2 hc
        refine sm_w.run t153 sr153 16 2 (M2 := M) (f2 := (2, [some (.ref x0), some (.int (x1)), some (.int (x2 + (1 : Int32)))], [])) rfl ⟨(Nat.le_of_ble_eq_true rfl), trivial, trivial⟩ ?_
        exact h
