/-! METHODS by their segments. -/
-- 180 LineSetterModel.kern()V
theorem t180 : sP 180 = (7, sp_180, sh_180) := rfl
theorem sr180 : sm_srt sp_180 = true := by decide +kernel
theorem g180_0 {M : sm_M}  {K : sm_M → Prop} (hS : SH M)  (h : sm_cI 176 [.ref 116] M (fun v2 M1 => SH M1 → sm_cI 176 [.ref 116] M1 (fun v5 M4 => SH M4 → sm_w 180 (18, [some (.ref 116), some (.int (v2)), some (.int (iV M1 116 10)), some (.int (v5)), some (.int ((0 : Int32))), none, none], []) M4 (rV K)))) : sm_w 180 (sm_in sP 180 [.ref 116]) M (rV K) := by
  show sm_w 180 (0, [some (.ref 116), none, none, none, none, none, none], []) M (rV K)
  refine sm_w.run t180 sr180 0 1 (M2 := M) (f2 := (1, [some (.ref 116), none, none, none, none, none, none], [.ref 116])) rfl ⟨trivial, trivial⟩ ?_
  refine sm_w.cI t180 sr180 1 (i := 176) (as := [.ref 116]) (g := (1, [some (.ref 116), none, none, none, none, none, none], [])) rfl ⟨by decide, by decide, (Nat.le_of_ble_eq_true rfl), (sm_K.g (k_116 hS) (sm_sh.rf _)).1, (sm_K.g (k_116 hS) (sm_sh.rf _)).2, (Nat.le_of_ble_eq_true rfl)⟩ (Nat.le_of_ble_eq_true rfl) (by decide) (sm_cI.s (by decide) hS h) (fun v2 M1 h => ?_)
  obtain ⟨hS3, h⟩ := h
  refine sm_w.run t180 sr180 2 5 (M2 := M1) (f2 := (11, [some (.ref 116), some (.int (v2)), some (.int (iV M1 116 10)), none, none, none, none], [.ref 116])) rfl ⟨(Nat.le_of_ble_eq_true rfl), trivial, sm_K.g (k_116 hS3) (sm_sh.rf _), (Nat.le_of_ble_eq_true rfl), trivial, trivial⟩ ?_
  refine sm_w.cI t180 sr180 7 (i := 176) (as := [.ref 116]) (g := (11, [some (.ref 116), some (.int (v2)), some (.int (iV M1 116 10)), none, none, none, none], [])) rfl ⟨by decide, by decide, (Nat.le_of_ble_eq_true rfl), (sm_K.g (k_116 hS3) (sm_sh.rf _)).1, (sm_K.g (k_116 hS3) (sm_sh.rf _)).2, (Nat.le_of_ble_eq_true rfl)⟩ (Nat.le_of_ble_eq_true rfl) (by decide) (sm_cI.s (by decide) hS3 h) (fun v5 M4 h => ?_)
  obtain ⟨hS6, h⟩ := h
  refine sm_w.run t180 sr180 8 3 (M2 := M4) (f2 := (18, [some (.ref 116), some (.int (v2)), some (.int (iV M1 116 10)), some (.int (v5)), some (.int ((0 : Int32))), none, none], [])) rfl ⟨(Nat.le_of_ble_eq_true rfl), trivial, (Nat.le_of_ble_eq_true rfl), trivial⟩ ?_
  exact h
theorem g180_1 {M : sm_M} {x1 : Int32} {x2 : Int32} {x3 : Int32} {x4 : Int32} {K : sm_M → Prop} (hS : SH M)  (h : (((iV M 116 30) ≤ x4 → sm_w 180 (55, [some (.ref 116), some (.int (x1)), some (.int (x2)), some (.int (x3)), some (.int (x4)), none, none], []) M (rV K)) ∧ (¬ (iV M 116 30) ≤ x4 → (vp_in x4 200) ∧ (((iV M 128 x4.toNatClampNeg) = x1 → (vp_in x4 200) ∧ (((iV M 129 x4.toNatClampNeg) = x3 → sm_w 180 (55, [some (.ref 116), some (.int (x1)), some (.int (x2)), some (.int (x3)), some (.int (x4)), none, none], []) M (rV K)) ∧ (¬ (iV M 129 x4.toNatClampNeg) = x3 → sm_w 180 (18, [some (.ref 116), some (.int (x1)), some (.int (x2)), some (.int (x3)), some (.int (x4 + (1 : Int32))), none, none], []) M (rV K)))) ∧ (¬ (iV M 128 x4.toNatClampNeg) = x1 → sm_w 180 (18, [some (.ref 116), some (.int (x1)), some (.int (x2)), some (.int (x3)), some (.int (x4 + (1 : Int32))), none, none], []) M (rV K)))))) : sm_w 180 (18, [some (.ref 116), some (.int (x1)), some (.int (x2)), some (.int (x3)), some (.int (x4)), none, none], []) M (rV K) := by
  refine sm_w.run t180 sr180 11 4 (M2 := M) (f2 := (if (iV M 116 30) ≤ x4 then 55 else 27, [some (.ref 116), some (.int (x1)), some (.int (x2)), some (.int (x3)), some (.int (x4)), none, none], [])) rfl ⟨trivial, trivial, sm_K.g (k_116 hS) (sm_sh.rf _), trivial, trivial⟩ ?_
  refine sm_w.ite (fun hc => ?_) (fun hc => ?_)
  · have h := h.1 hc
    exact h
  · have h := h.2 hc
    refine sm_w.run t180 sr180 15 2 (M2 := M) (f2 := (31, [some (.ref 116), some (.int (x1)), some (.int (x2)), some (.int (x3)), some (.int (x4)), none, none], [va_rf (sm_rv M 116 22)])) rfl ⟨trivial, sm_K.g (k_116 hS) (sm_sh.rf _), trivial⟩ ?_
    refine sm_w.fld (r_116_22 hS) ?_
    obtain ⟨c1, h⟩ := h
    refine sm_w.run t180 sr180 17 4 (M2 := M) (f2 := (if (iV M 128 x4.toNatClampNeg) = x1 then 38 else 49, [some (.ref 116), some (.int (x1)), some (.int (x2)), some (.int (x3)), some (.int (x4)), none, none], [])) rfl ⟨trivial, sm_K.a2 (k_128 hS) (l_128 hS) c1, trivial, trivial, trivial⟩ ?_
    refine sm_w.ite (fun hc => ?_) (fun hc => ?_)
    · have h := h.1 hc
      refine sm_w.run t180 sr180 21 2 (M2 := M) (f2 := (42, [some (.ref 116), some (.int (x1)), some (.int (x2)), some (.int (x3)), some (.int (x4)), none, none], [va_rf (sm_rv M 116 23)])) rfl ⟨trivial, sm_K.g (k_116 hS) (sm_sh.rf _), trivial⟩ ?_
      refine sm_w.fld (r_116_23 hS) ?_
      obtain ⟨c2, h⟩ := h
      refine sm_w.run t180 sr180 23 4 (M2 := M) (f2 := (if (iV M 129 x4.toNatClampNeg) = x3 then 55 else 49, [some (.ref 116), some (.int (x1)), some (.int (x2)), some (.int (x3)), some (.int (x4)), none, none], [])) rfl ⟨trivial, sm_K.a2 (k_129 hS) (l_129 hS) c2, trivial, trivial, trivial⟩ ?_
      refine sm_w.ite (fun hc => ?_) (fun hc => ?_)
      · have h := h.1 hc
        exact h
      · have h := h.2 hc
        refine sm_w.run t180 sr180 27 2 (M2 := M) (f2 := (18, [some (.ref 116), some (.int (x1)), some (.int (x2)), some (.int (x3)), some (.int (x4 + (1 : Int32))), none, none], [])) rfl ⟨(Nat.le_of_ble_eq_true rfl), trivial, trivial⟩ ?_
        exact h
    · have h := h.2 hc
      refine sm_w.run t180 sr180 27 2 (M2 := M) (f2 := (18, [some (.ref 116), some (.int (x1)), some (.int (x2)), some (.int (x3)), some (.int (x4 + (1 : Int32))), none, none], [])) rfl ⟨(Nat.le_of_ble_eq_true rfl), trivial, trivial⟩ ?_
      exact h
theorem g180_2 {M : sm_M} {x1 : Int32} {x2 : Int32} {x3 : Int32} {x4 : Int32} {K : sm_M → Prop} (hS : SH M)  (h : ((0 ≤ (iV M 116 8) → sm_w 180 (75, [some (.ref 116), some (.int (x1)), none, some (.int (x3)), some (.int (x4)), none, none], []) M (rV K)) ∧ (¬ 0 ≤ (iV M 116 8) → ((x4 = (200 : Int32) → sm_cV 177 [.ref 116, .int (x2)] M (fun M1 => SH M1 → sm_w 180 (75, [some (.ref 116), some (.int (x1)), none, some (.int (x3)), some (.int (x4)), none, none], []) M1 (rV K))) ∧ (¬ x4 = (200 : Int32) → sm_w 180 (75, [some (.ref 116), some (.int (x1)), none, some (.int (x3)), some (.int (x4)), none, none], []) M (rV K)))))) : sm_w 180 (55, [some (.ref 116), some (.int (x1)), some (.int (x2)), some (.int (x3)), some (.int (x4)), none, none], []) M (rV K) := by
  refine sm_w.run t180 sr180 29 3 (M2 := M) (f2 := (if 0 ≤ (iV M 116 8) then 75 else 62, [some (.ref 116), some (.int (x1)), some (.int (x2)), some (.int (x3)), some (.int (x4)), none, none], [])) rfl ⟨trivial, sm_K.g (k_116 hS) (sm_sh.rf _), trivial, trivial⟩ ?_
  refine sm_w.ite (fun hc => ?_) (fun hc => ?_)
  · have h := h.1 hc
    refine sm_w.weak (ls := [some (.ref 116), some (.int (x1)), none, some (.int (x3)), some (.int (x4)), none, none]) (sm_leI [true, true, false, true, true, false, false] rfl) ?_
    exact h
  · have h := h.2 hc
    refine sm_w.run t180 sr180 32 3 (M2 := M) (f2 := (if x4 = (200 : Int32) then 70 else 75, [some (.ref 116), some (.int (x1)), some (.int (x2)), some (.int (x3)), some (.int (x4)), none, none], [])) rfl ⟨trivial, trivial, trivial, trivial⟩ ?_
    refine sm_w.ite (fun hc => ?_) (fun hc => ?_)
    · have h := h.1 hc
      refine sm_w.run t180 sr180 35 2 (M2 := M) (f2 := (72, [some (.ref 116), some (.int (x1)), some (.int (x2)), some (.int (x3)), some (.int (x4)), none, none], [.int (x2), .ref 116])) rfl ⟨trivial, trivial, trivial⟩ ?_
      refine sm_w.cV t180 sr180 37 (i := 177) (as := [.ref 116, .int (x2)]) (g := (72, [some (.ref 116), some (.int (x1)), some (.int (x2)), some (.int (x3)), some (.int (x4)), none, none], [])) rfl ⟨by decide, by decide, (Nat.le_of_ble_eq_true rfl), (sm_K.g (k_116 hS) (sm_sh.rf _)).1, (sm_K.g (k_116 hS) (sm_sh.rf _)).2, (Nat.le_of_ble_eq_true rfl)⟩ (Nat.le_of_ble_eq_true rfl) (by decide) (sm_cV.s (by decide) hS h) (fun M1 h => ?_)
      obtain ⟨hS3, h⟩ := h
      refine sm_w.weak (ls := [some (.ref 116), some (.int (x1)), none, some (.int (x3)), some (.int (x4)), none, none]) (sm_leI [true, true, false, true, true, false, false] rfl) ?_
      exact h
    · have h := h.2 hc
      refine sm_w.weak (ls := [some (.ref 116), some (.int (x1)), none, some (.int (x3)), some (.int (x4)), none, none]) (sm_leI [true, true, false, true, true, false, false] rfl) ?_
      exact h
theorem g180_3 {M : sm_M} {x1 : Int32} {x3 : Int32} {x4 : Int32} {K : sm_M → Prop} (hS : SH M)  (h : (((iV M 116 8) < 0 → (((iV M 116 9) = (4 : Int32) → (((iV M 116 13) = (45 : Int32) → sm_w 180 (105, [some (.ref 116), some (.int (x1)), none, some (.int (x3)), some (.int (x4)), none, none], [.int ((1 : Int32))]) M (rV K)) ∧ (¬ (iV M 116 13) = (45 : Int32) → sm_w 180 (104, [some (.ref 116), some (.int (x1)), none, some (.int (x3)), some (.int (x4)), none, none], []) M (rV K)))) ∧ (¬ (iV M 116 9) = (4 : Int32) → sm_w 180 (104, [some (.ref 116), some (.int (x1)), none, some (.int (x3)), some (.int (x4)), none, none], []) M (rV K)))) ∧ (¬ (iV M 116 8) < 0 → K M))) : sm_w 180 (75, [some (.ref 116), some (.int (x1)), none, some (.int (x3)), some (.int (x4)), none, none], []) M (rV K) := by
  refine sm_w.run t180 sr180 38 3 (M2 := M) (f2 := (if (iV M 116 8) < 0 then 83 else 82, [some (.ref 116), some (.int (x1)), none, some (.int (x3)), some (.int (x4)), none, none], [])) rfl ⟨trivial, sm_K.g (k_116 hS) (sm_sh.rf _), trivial, trivial⟩ ?_
  refine sm_w.ite (fun hc => ?_) (fun hc => ?_)
  · have h := h.1 hc
    refine sm_w.run t180 sr180 42 4 (M2 := M) (f2 := (if (iV M 116 9) = (4 : Int32) then 91 else 104, [some (.ref 116), some (.int (x1)), none, some (.int (x3)), some (.int (x4)), none, none], [])) rfl ⟨trivial, sm_K.g (k_116 hS) (sm_sh.rf _), trivial, trivial, trivial⟩ ?_
    refine sm_w.ite (fun hc => ?_) (fun hc => ?_)
    · have h := h.1 hc
      refine sm_w.run t180 sr180 46 4 (M2 := M) (f2 := (if (iV M 116 13) = (45 : Int32) then 100 else 104, [some (.ref 116), some (.int (x1)), none, some (.int (x3)), some (.int (x4)), none, none], [])) rfl ⟨trivial, sm_K.g (k_116 hS) (sm_sh.rf _), trivial, trivial, trivial⟩ ?_
      refine sm_w.ite (fun hc => ?_) (fun hc => ?_)
      · have h := h.1 hc
        refine sm_w.run t180 sr180 50 2 (M2 := M) (f2 := (105, [some (.ref 116), some (.int (x1)), none, some (.int (x3)), some (.int (x4)), none, none], [.int ((1 : Int32))])) rfl ⟨trivial, trivial, trivial⟩ ?_
        exact h
      · have h := h.2 hc
        exact h
    · have h := h.2 hc
      exact h
  · have h := h.2 hc
    exact sm_w.end t180 sr180 41 (o := .returned none) (M2 := M) rfl trivial (by decide) (⟨rfl, h⟩)
theorem g180_4 {M : sm_M} {x1 : Int32} {x3 : Int32} {x4 : Int32} {K : sm_M → Prop} (hS : SH M)  (h : sm_w 180 (105, [some (.ref 116), some (.int (x1)), none, some (.int (x3)), some (.int (x4)), none, none], [.int ((0 : Int32))]) M (rV K)) : sm_w 180 (104, [some (.ref 116), some (.int (x1)), none, some (.int (x3)), some (.int (x4)), none, none], []) M (rV K) := by
  refine sm_w.run t180 sr180 52 1 (M2 := M) (f2 := (105, [some (.ref 116), some (.int (x1)), none, some (.int (x3)), some (.int (x4)), none, none], [.int ((0 : Int32))])) rfl ⟨trivial, trivial⟩ ?_
  exact h
theorem g180_5 {M : sm_M} {x1 : Int32} {x3 : Int32} {x4 : Int32} {s0 : Int32} {K : sm_M → Prop} (hS : SH M)  (h : ((s0 = 0 → sm_cI 178 [.ref 116, .int ((500 : Int32))] M (fun v2 M1 => SH M1 → sm_cV 179 [.ref 116] M1 (fun M4 => SH M4 → (((iV M4 116 8) < 0 → ((x4 = (iV M4 116 30) → ∀ M7, SH M7 → M7 = sm_wI M4 116 30 ((iV M4 116 30) + (1 : Int32)) → (vp_in x4 200) ∧ ∀ M10, SH M10 → M10 = sm_wI M7 128 x4.toNatClampNeg x1 → (vp_in x4 200) ∧ ∀ M13, SH M13 → M13 = sm_wI M10 129 x4.toNatClampNeg x3 → ((s0 = 0 → (vp_in x4 200) ∧ ∀ M16, SH M16 → M16 = sm_wI M13 130 x4.toNatClampNeg v2 → K M16) ∧ (¬ s0 = 0 → (vp_in x4 200) ∧ ∀ M19, SH M19 → M19 = sm_wI M13 130 x4.toNatClampNeg (-v2) → K M19))) ∧ (¬ x4 = (iV M4 116 30) → (vp_in x4 200) ∧ ∀ M22, SH M22 → M22 = sm_wI M4 128 x4.toNatClampNeg x1 → (vp_in x4 200) ∧ ∀ M25, SH M25 → M25 = sm_wI M22 129 x4.toNatClampNeg x3 → ((s0 = 0 → (vp_in x4 200) ∧ ∀ M28, SH M28 → M28 = sm_wI M25 130 x4.toNatClampNeg v2 → K M28) ∧ (¬ s0 = 0 → (vp_in x4 200) ∧ ∀ M31, SH M31 → M31 = sm_wI M25 130 x4.toNatClampNeg (-v2) → K M31))))) ∧ (¬ (iV M4 116 8) < 0 → K M4))))) ∧ (¬ s0 = 0 → sm_cV 170 [.ref 116] M (fun M33 => SH M33 → sm_cI 178 [.ref 116, .int ((500 : Int32))] M33 (fun v37 M36 => SH M36 → sm_cV 179 [.ref 116] M36 (fun M39 => SH M39 → (((iV M39 116 8) < 0 → ((x4 = (iV M39 116 30) → ∀ M42, SH M42 → M42 = sm_wI M39 116 30 ((iV M39 116 30) + (1 : Int32)) → (vp_in x4 200) ∧ ∀ M45, SH M45 → M45 = sm_wI M42 128 x4.toNatClampNeg x1 → (vp_in x4 200) ∧ ∀ M48, SH M48 → M48 = sm_wI M45 129 x4.toNatClampNeg x3 → ((s0 = 0 → (vp_in x4 200) ∧ ∀ M51, SH M51 → M51 = sm_wI M48 130 x4.toNatClampNeg v37 → K M51) ∧ (¬ s0 = 0 → (vp_in x4 200) ∧ ∀ M54, SH M54 → M54 = sm_wI M48 130 x4.toNatClampNeg (-v37) → K M54))) ∧ (¬ x4 = (iV M39 116 30) → (vp_in x4 200) ∧ ∀ M57, SH M57 → M57 = sm_wI M39 128 x4.toNatClampNeg x1 → (vp_in x4 200) ∧ ∀ M60, SH M60 → M60 = sm_wI M57 129 x4.toNatClampNeg x3 → ((s0 = 0 → (vp_in x4 200) ∧ ∀ M63, SH M63 → M63 = sm_wI M60 130 x4.toNatClampNeg v37 → K M63) ∧ (¬ s0 = 0 → (vp_in x4 200) ∧ ∀ M66, SH M66 → M66 = sm_wI M60 130 x4.toNatClampNeg (-v37) → K M66))))) ∧ (¬ (iV M39 116 8) < 0 → K M39)))))))) : sm_w 180 (105, [some (.ref 116), some (.int (x1)), none, some (.int (x3)), some (.int (x4)), none, none], [.int (s0)]) M (rV K) := by
  refine sm_w.run t180 sr180 53 3 (M2 := M) (f2 := (if s0 = 0 then 116 else 112, [some (.ref 116), some (.int (x1)), none, some (.int (x3)), some (.int (x4)), some (.int (s0)), none], [])) rfl ⟨(Nat.le_of_ble_eq_true rfl), trivial, trivial, trivial⟩ ?_
  refine sm_w.ite (fun hc => ?_) (fun hc => ?_)
  · have h := h.1 hc
    refine sm_w.run t180 sr180 58 2 (M2 := M) (f2 := (120, [some (.ref 116), some (.int (x1)), none, some (.int (x3)), some (.int (x4)), some (.int (s0)), none], [.int ((500 : Int32)), .ref 116])) rfl ⟨trivial, trivial, trivial⟩ ?_
    refine sm_w.cI t180 sr180 60 (i := 178) (as := [.ref 116, .int ((500 : Int32))]) (g := (120, [some (.ref 116), some (.int (x1)), none, some (.int (x3)), some (.int (x4)), some (.int (s0)), none], [])) rfl ⟨by decide, by decide, (Nat.le_of_ble_eq_true rfl), (sm_K.g (k_116 hS) (sm_sh.rf _)).1, (sm_K.g (k_116 hS) (sm_sh.rf _)).2, (Nat.le_of_ble_eq_true rfl)⟩ (Nat.le_of_ble_eq_true rfl) (by decide) (sm_cI.s (by decide) hS h) (fun v2 M1 h => ?_)
    obtain ⟨hS3, h⟩ := h
    refine sm_w.run t180 sr180 61 2 (M2 := M1) (f2 := (126, [some (.ref 116), some (.int (x1)), none, some (.int (x3)), some (.int (x4)), some (.int (s0)), some (.int (v2))], [.ref 116])) rfl ⟨(Nat.le_of_ble_eq_true rfl), trivial, trivial⟩ ?_
    refine sm_w.cV t180 sr180 63 (i := 179) (as := [.ref 116]) (g := (126, [some (.ref 116), some (.int (x1)), none, some (.int (x3)), some (.int (x4)), some (.int (s0)), some (.int (v2))], [])) rfl ⟨by decide, by decide, (Nat.le_of_ble_eq_true rfl), (sm_K.g (k_116 hS3) (sm_sh.rf _)).1, (sm_K.g (k_116 hS3) (sm_sh.rf _)).2, (Nat.le_of_ble_eq_true rfl)⟩ (Nat.le_of_ble_eq_true rfl) (by decide) (sm_cV.s (by decide) hS3 h) (fun M4 h => ?_)
    obtain ⟨hS6, h⟩ := h
    refine sm_w.run t180 sr180 64 3 (M2 := M4) (f2 := (if (iV M4 116 8) < 0 then 137 else 136, [some (.ref 116), some (.int (x1)), none, some (.int (x3)), some (.int (x4)), some (.int (s0)), some (.int (v2))], [])) rfl ⟨trivial, sm_K.g (k_116 hS6) (sm_sh.rf _), trivial, trivial⟩ ?_
    refine sm_w.ite (fun hc => ?_) (fun hc => ?_)
    · have h := h.1 hc
      refine sm_w.run t180 sr180 68 4 (M2 := M4) (f2 := (if x4 = (iV M4 116 30) then 146 else 156, [some (.ref 116), some (.int (x1)), none, some (.int (x3)), some (.int (x4)), some (.int (s0)), some (.int (v2))], [])) rfl ⟨trivial, trivial, sm_K.g (k_116 hS6) (sm_sh.rf _), trivial, trivial⟩ ?_
      refine sm_w.ite (fun hc => ?_) (fun hc => ?_)
      · have h := h.1 hc
        refine sm_w.run t180 sr180 72 6 (M2 := sm_wI M4 116 30 ((iV M4 116 30) + (1 : Int32))) (f2 := (156, [some (.ref 116), some (.int (x1)), none, some (.int (x3)), some (.int (x4)), some (.int (s0)), some (.int (v2))], [])) rfl ⟨trivial, rfl, sm_K.g (k_116 hS6) (sm_sh.rf _), trivial, trivial, ⟨(sm_K.p (k_116 hS6) (sm_sh.rf _)).1, (sm_K.p (k_116 hS6) (sm_sh.rf _)).2.1, (sm_K.p (k_116 hS6) (sm_sh.rf _)).2.2, Or.inl rfl⟩, trivial⟩ ?_
        have hS8 : SH (sm_wI M4 116 30 ((iV M4 116 30) + (1 : Int32))) := SH.wI hS6 _ _ _
        have h := h _ hS8 rfl
        generalize sm_wI M4 116 30 ((iV M4 116 30) + (1 : Int32)) = M7 at h hS8 ⊢
        refine sm_w.run t180 sr180 78 2 (M2 := M7) (f2 := (160, [some (.ref 116), some (.int (x1)), none, some (.int (x3)), some (.int (x4)), some (.int (s0)), some (.int (v2))], [va_rf (sm_rv M7 116 22)])) rfl ⟨trivial, sm_K.g (k_116 hS8) (sm_sh.rf _), trivial⟩ ?_
        refine sm_w.fld (r_116_22 hS8) ?_
        obtain ⟨c9, h⟩ := h
        refine sm_w.run t180 sr180 80 3 (M2 := sm_wI M7 128 x4.toNatClampNeg x1) (f2 := (164, [some (.ref 116), some (.int (x1)), none, some (.int (x3)), some (.int (x4)), some (.int (s0)), some (.int (v2))], [])) rfl ⟨trivial, trivial, sm_K.s2 (k_128 hS8) (l_128 hS8) c9, trivial⟩ ?_
        have hS11 : SH (sm_wI M7 128 x4.toNatClampNeg x1) := SH.wI hS8 _ _ _
        have h := h _ hS11 rfl
        generalize sm_wI M7 128 x4.toNatClampNeg x1 = M10 at h hS11 ⊢
        refine sm_w.run t180 sr180 83 2 (M2 := M10) (f2 := (168, [some (.ref 116), some (.int (x1)), none, some (.int (x3)), some (.int (x4)), some (.int (s0)), some (.int (v2))], [va_rf (sm_rv M10 116 23)])) rfl ⟨trivial, sm_K.g (k_116 hS11) (sm_sh.rf _), trivial⟩ ?_
        refine sm_w.fld (r_116_23 hS11) ?_
        obtain ⟨c12, h⟩ := h
        refine sm_w.run t180 sr180 85 3 (M2 := sm_wI M10 129 x4.toNatClampNeg x3) (f2 := (172, [some (.ref 116), some (.int (x1)), none, some (.int (x3)), some (.int (x4)), some (.int (s0)), some (.int (v2))], [])) rfl ⟨trivial, trivial, sm_K.s2 (k_129 hS11) (l_129 hS11) c12, trivial⟩ ?_
        have hS14 : SH (sm_wI M10 129 x4.toNatClampNeg x3) := SH.wI hS11 _ _ _
        have h := h _ hS14 rfl
        generalize sm_wI M10 129 x4.toNatClampNeg x3 = M13 at h hS14 ⊢
        refine sm_w.run t180 sr180 88 2 (M2 := M13) (f2 := (176, [some (.ref 116), some (.int (x1)), none, some (.int (x3)), some (.int (x4)), some (.int (s0)), some (.int (v2))], [va_rf (sm_rv M13 116 24)])) rfl ⟨trivial, sm_K.g (k_116 hS14) (sm_sh.rf _), trivial⟩ ?_
        refine sm_w.fld (r_116_24 hS14) ?_
        refine sm_w.run t180 sr180 90 3 (M2 := M13) (f2 := (if s0 = 0 then 189 else 183, [some (.ref 116), some (.int (x1)), none, some (.int (x3)), some (.int (x4)), some (.int (s0)), some (.int (v2))], [.int (x4), .ref 130])) rfl ⟨trivial, trivial, trivial, trivial⟩ ?_
        refine sm_w.ite (fun hc => ?_) (fun hc => ?_)
        · have h := h.1 hc
          obtain ⟨c15, h⟩ := h
          refine sm_w.run t180 sr180 96 2 (M2 := sm_wI M13 130 x4.toNatClampNeg v2) (f2 := (192, [some (.ref 116), some (.int (x1)), none, some (.int (x3)), some (.int (x4)), some (.int (s0)), some (.int (v2))], [])) rfl ⟨trivial, sm_K.s2 (k_130 hS14) (l_130 hS14) c15, trivial⟩ ?_
          have hS17 : SH (sm_wI M13 130 x4.toNatClampNeg v2) := SH.wI hS14 _ _ _
          have h := h _ hS17 rfl
          generalize sm_wI M13 130 x4.toNatClampNeg v2 = M16 at h hS17 ⊢
          exact sm_w.end t180 sr180 98 (o := .returned none) (M2 := M16) rfl trivial (by decide) (⟨rfl, h⟩)
        · have h := h.2 hc
          refine sm_w.run t180 sr180 93 3 (M2 := M13) (f2 := (191, [some (.ref 116), some (.int (x1)), none, some (.int (x3)), some (.int (x4)), some (.int (s0)), some (.int (v2))], [.int (-v2), .int (x4), .ref 130])) rfl ⟨trivial, trivial, trivial, trivial⟩ ?_
          obtain ⟨c18, h⟩ := h
          refine sm_w.run t180 sr180 97 1 (M2 := sm_wI M13 130 x4.toNatClampNeg (-v2)) (f2 := (192, [some (.ref 116), some (.int (x1)), none, some (.int (x3)), some (.int (x4)), some (.int (s0)), some (.int (v2))], [])) rfl ⟨sm_K.s2 (k_130 hS14) (l_130 hS14) c18, trivial⟩ ?_
          have hS20 : SH (sm_wI M13 130 x4.toNatClampNeg (-v2)) := SH.wI hS14 _ _ _
          have h := h _ hS20 rfl
          generalize sm_wI M13 130 x4.toNatClampNeg (-v2) = M19 at h hS20 ⊢
          exact sm_w.end t180 sr180 98 (o := .returned none) (M2 := M19) rfl trivial (by decide) (⟨rfl, h⟩)
      · have h := h.2 hc
        refine sm_w.run t180 sr180 78 2 (M2 := M4) (f2 := (160, [some (.ref 116), some (.int (x1)), none, some (.int (x3)), some (.int (x4)), some (.int (s0)), some (.int (v2))], [va_rf (sm_rv M4 116 22)])) rfl ⟨trivial, sm_K.g (k_116 hS6) (sm_sh.rf _), trivial⟩ ?_
        refine sm_w.fld (r_116_22 hS6) ?_
        obtain ⟨c21, h⟩ := h
        refine sm_w.run t180 sr180 80 3 (M2 := sm_wI M4 128 x4.toNatClampNeg x1) (f2 := (164, [some (.ref 116), some (.int (x1)), none, some (.int (x3)), some (.int (x4)), some (.int (s0)), some (.int (v2))], [])) rfl ⟨trivial, trivial, sm_K.s2 (k_128 hS6) (l_128 hS6) c21, trivial⟩ ?_
        have hS23 : SH (sm_wI M4 128 x4.toNatClampNeg x1) := SH.wI hS6 _ _ _
        have h := h _ hS23 rfl
        generalize sm_wI M4 128 x4.toNatClampNeg x1 = M22 at h hS23 ⊢
        refine sm_w.run t180 sr180 83 2 (M2 := M22) (f2 := (168, [some (.ref 116), some (.int (x1)), none, some (.int (x3)), some (.int (x4)), some (.int (s0)), some (.int (v2))], [va_rf (sm_rv M22 116 23)])) rfl ⟨trivial, sm_K.g (k_116 hS23) (sm_sh.rf _), trivial⟩ ?_
        refine sm_w.fld (r_116_23 hS23) ?_
        obtain ⟨c24, h⟩ := h
        refine sm_w.run t180 sr180 85 3 (M2 := sm_wI M22 129 x4.toNatClampNeg x3) (f2 := (172, [some (.ref 116), some (.int (x1)), none, some (.int (x3)), some (.int (x4)), some (.int (s0)), some (.int (v2))], [])) rfl ⟨trivial, trivial, sm_K.s2 (k_129 hS23) (l_129 hS23) c24, trivial⟩ ?_
        have hS26 : SH (sm_wI M22 129 x4.toNatClampNeg x3) := SH.wI hS23 _ _ _
        have h := h _ hS26 rfl
        generalize sm_wI M22 129 x4.toNatClampNeg x3 = M25 at h hS26 ⊢
        refine sm_w.run t180 sr180 88 2 (M2 := M25) (f2 := (176, [some (.ref 116), some (.int (x1)), none, some (.int (x3)), some (.int (x4)), some (.int (s0)), some (.int (v2))], [va_rf (sm_rv M25 116 24)])) rfl ⟨trivial, sm_K.g (k_116 hS26) (sm_sh.rf _), trivial⟩ ?_
        refine sm_w.fld (r_116_24 hS26) ?_
        refine sm_w.run t180 sr180 90 3 (M2 := M25) (f2 := (if s0 = 0 then 189 else 183, [some (.ref 116), some (.int (x1)), none, some (.int (x3)), some (.int (x4)), some (.int (s0)), some (.int (v2))], [.int (x4), .ref 130])) rfl ⟨trivial, trivial, trivial, trivial⟩ ?_
        refine sm_w.ite (fun hc => ?_) (fun hc => ?_)
        · have h := h.1 hc
          obtain ⟨c27, h⟩ := h
          refine sm_w.run t180 sr180 96 2 (M2 := sm_wI M25 130 x4.toNatClampNeg v2) (f2 := (192, [some (.ref 116), some (.int (x1)), none, some (.int (x3)), some (.int (x4)), some (.int (s0)), some (.int (v2))], [])) rfl ⟨trivial, sm_K.s2 (k_130 hS26) (l_130 hS26) c27, trivial⟩ ?_
          have hS29 : SH (sm_wI M25 130 x4.toNatClampNeg v2) := SH.wI hS26 _ _ _
          have h := h _ hS29 rfl
          generalize sm_wI M25 130 x4.toNatClampNeg v2 = M28 at h hS29 ⊢
          exact sm_w.end t180 sr180 98 (o := .returned none) (M2 := M28) rfl trivial (by decide) (⟨rfl, h⟩)
        · have h := h.2 hc
          refine sm_w.run t180 sr180 93 3 (M2 := M25) (f2 := (191, [some (.ref 116), some (.int (x1)), none, some (.int (x3)), some (.int (x4)), some (.int (s0)), some (.int (v2))], [.int (-v2), .int (x4), .ref 130])) rfl ⟨trivial, trivial, trivial, trivial⟩ ?_
          obtain ⟨c30, h⟩ := h
          refine sm_w.run t180 sr180 97 1 (M2 := sm_wI M25 130 x4.toNatClampNeg (-v2)) (f2 := (192, [some (.ref 116), some (.int (x1)), none, some (.int (x3)), some (.int (x4)), some (.int (s0)), some (.int (v2))], [])) rfl ⟨sm_K.s2 (k_130 hS26) (l_130 hS26) c30, trivial⟩ ?_
          have hS32 : SH (sm_wI M25 130 x4.toNatClampNeg (-v2)) := SH.wI hS26 _ _ _
          have h := h _ hS32 rfl
          generalize sm_wI M25 130 x4.toNatClampNeg (-v2) = M31 at h hS32 ⊢
          exact sm_w.end t180 sr180 98 (o := .returned none) (M2 := M31) rfl trivial (by decide) (⟨rfl, h⟩)
    · have h := h.2 hc
      exact sm_w.end t180 sr180 67 (o := .returned none) (M2 := M4) rfl trivial (by decide) (⟨rfl, h⟩)
  · have h := h.2 hc
    refine sm_w.run t180 sr180 56 1 (M2 := M) (f2 := (113, [some (.ref 116), some (.int (x1)), none, some (.int (x3)), some (.int (x4)), some (.int (s0)), none], [.ref 116])) rfl ⟨trivial, trivial⟩ ?_
    refine sm_w.cV t180 sr180 57 (i := 170) (as := [.ref 116]) (g := (113, [some (.ref 116), some (.int (x1)), none, some (.int (x3)), some (.int (x4)), some (.int (s0)), none], [])) rfl ⟨by decide, by decide, (Nat.le_of_ble_eq_true rfl), (sm_K.g (k_116 hS) (sm_sh.rf _)).1, (sm_K.g (k_116 hS) (sm_sh.rf _)).2, (Nat.le_of_ble_eq_true rfl)⟩ (Nat.le_of_ble_eq_true rfl) (by decide) (sm_cV.s (by decide) hS h) (fun M33 h => ?_)
    obtain ⟨hS35, h⟩ := h
    refine sm_w.run t180 sr180 58 2 (M2 := M33) (f2 := (120, [some (.ref 116), some (.int (x1)), none, some (.int (x3)), some (.int (x4)), some (.int (s0)), none], [.int ((500 : Int32)), .ref 116])) rfl ⟨trivial, trivial, trivial⟩ ?_
    refine sm_w.cI t180 sr180 60 (i := 178) (as := [.ref 116, .int ((500 : Int32))]) (g := (120, [some (.ref 116), some (.int (x1)), none, some (.int (x3)), some (.int (x4)), some (.int (s0)), none], [])) rfl ⟨by decide, by decide, (Nat.le_of_ble_eq_true rfl), (sm_K.g (k_116 hS35) (sm_sh.rf _)).1, (sm_K.g (k_116 hS35) (sm_sh.rf _)).2, (Nat.le_of_ble_eq_true rfl)⟩ (Nat.le_of_ble_eq_true rfl) (by decide) (sm_cI.s (by decide) hS35 h) (fun v37 M36 h => ?_)
    obtain ⟨hS38, h⟩ := h
    refine sm_w.run t180 sr180 61 2 (M2 := M36) (f2 := (126, [some (.ref 116), some (.int (x1)), none, some (.int (x3)), some (.int (x4)), some (.int (s0)), some (.int (v37))], [.ref 116])) rfl ⟨(Nat.le_of_ble_eq_true rfl), trivial, trivial⟩ ?_
    refine sm_w.cV t180 sr180 63 (i := 179) (as := [.ref 116]) (g := (126, [some (.ref 116), some (.int (x1)), none, some (.int (x3)), some (.int (x4)), some (.int (s0)), some (.int (v37))], [])) rfl ⟨by decide, by decide, (Nat.le_of_ble_eq_true rfl), (sm_K.g (k_116 hS38) (sm_sh.rf _)).1, (sm_K.g (k_116 hS38) (sm_sh.rf _)).2, (Nat.le_of_ble_eq_true rfl)⟩ (Nat.le_of_ble_eq_true rfl) (by decide) (sm_cV.s (by decide) hS38 h) (fun M39 h => ?_)
    obtain ⟨hS41, h⟩ := h
    refine sm_w.run t180 sr180 64 3 (M2 := M39) (f2 := (if (iV M39 116 8) < 0 then 137 else 136, [some (.ref 116), some (.int (x1)), none, some (.int (x3)), some (.int (x4)), some (.int (s0)), some (.int (v37))], [])) rfl ⟨trivial, sm_K.g (k_116 hS41) (sm_sh.rf _), trivial, trivial⟩ ?_
    refine sm_w.ite (fun hc => ?_) (fun hc => ?_)
    · have h := h.1 hc
      refine sm_w.run t180 sr180 68 4 (M2 := M39) (f2 := (if x4 = (iV M39 116 30) then 146 else 156, [some (.ref 116), some (.int (x1)), none, some (.int (x3)), some (.int (x4)), some (.int (s0)), some (.int (v37))], [])) rfl ⟨trivial, trivial, sm_K.g (k_116 hS41) (sm_sh.rf _), trivial, trivial⟩ ?_
      refine sm_w.ite (fun hc => ?_) (fun hc => ?_)
      · have h := h.1 hc
        refine sm_w.run t180 sr180 72 6 (M2 := sm_wI M39 116 30 ((iV M39 116 30) + (1 : Int32))) (f2 := (156, [some (.ref 116), some (.int (x1)), none, some (.int (x3)), some (.int (x4)), some (.int (s0)), some (.int (v37))], [])) rfl ⟨trivial, rfl, sm_K.g (k_116 hS41) (sm_sh.rf _), trivial, trivial, ⟨(sm_K.p (k_116 hS41) (sm_sh.rf _)).1, (sm_K.p (k_116 hS41) (sm_sh.rf _)).2.1, (sm_K.p (k_116 hS41) (sm_sh.rf _)).2.2, Or.inl rfl⟩, trivial⟩ ?_
        have hS43 : SH (sm_wI M39 116 30 ((iV M39 116 30) + (1 : Int32))) := SH.wI hS41 _ _ _
        have h := h _ hS43 rfl
        generalize sm_wI M39 116 30 ((iV M39 116 30) + (1 : Int32)) = M42 at h hS43 ⊢
        refine sm_w.run t180 sr180 78 2 (M2 := M42) (f2 := (160, [some (.ref 116), some (.int (x1)), none, some (.int (x3)), some (.int (x4)), some (.int (s0)), some (.int (v37))], [va_rf (sm_rv M42 116 22)])) rfl ⟨trivial, sm_K.g (k_116 hS43) (sm_sh.rf _), trivial⟩ ?_
        refine sm_w.fld (r_116_22 hS43) ?_
        obtain ⟨c44, h⟩ := h
        refine sm_w.run t180 sr180 80 3 (M2 := sm_wI M42 128 x4.toNatClampNeg x1) (f2 := (164, [some (.ref 116), some (.int (x1)), none, some (.int (x3)), some (.int (x4)), some (.int (s0)), some (.int (v37))], [])) rfl ⟨trivial, trivial, sm_K.s2 (k_128 hS43) (l_128 hS43) c44, trivial⟩ ?_
        have hS46 : SH (sm_wI M42 128 x4.toNatClampNeg x1) := SH.wI hS43 _ _ _
        have h := h _ hS46 rfl
        generalize sm_wI M42 128 x4.toNatClampNeg x1 = M45 at h hS46 ⊢
        refine sm_w.run t180 sr180 83 2 (M2 := M45) (f2 := (168, [some (.ref 116), some (.int (x1)), none, some (.int (x3)), some (.int (x4)), some (.int (s0)), some (.int (v37))], [va_rf (sm_rv M45 116 23)])) rfl ⟨trivial, sm_K.g (k_116 hS46) (sm_sh.rf _), trivial⟩ ?_
        refine sm_w.fld (r_116_23 hS46) ?_
        obtain ⟨c47, h⟩ := h
        refine sm_w.run t180 sr180 85 3 (M2 := sm_wI M45 129 x4.toNatClampNeg x3) (f2 := (172, [some (.ref 116), some (.int (x1)), none, some (.int (x3)), some (.int (x4)), some (.int (s0)), some (.int (v37))], [])) rfl ⟨trivial, trivial, sm_K.s2 (k_129 hS46) (l_129 hS46) c47, trivial⟩ ?_
        have hS49 : SH (sm_wI M45 129 x4.toNatClampNeg x3) := SH.wI hS46 _ _ _
        have h := h _ hS49 rfl
        generalize sm_wI M45 129 x4.toNatClampNeg x3 = M48 at h hS49 ⊢
        refine sm_w.run t180 sr180 88 2 (M2 := M48) (f2 := (176, [some (.ref 116), some (.int (x1)), none, some (.int (x3)), some (.int (x4)), some (.int (s0)), some (.int (v37))], [va_rf (sm_rv M48 116 24)])) rfl ⟨trivial, sm_K.g (k_116 hS49) (sm_sh.rf _), trivial⟩ ?_
        refine sm_w.fld (r_116_24 hS49) ?_
        refine sm_w.run t180 sr180 90 3 (M2 := M48) (f2 := (if s0 = 0 then 189 else 183, [some (.ref 116), some (.int (x1)), none, some (.int (x3)), some (.int (x4)), some (.int (s0)), some (.int (v37))], [.int (x4), .ref 130])) rfl ⟨trivial, trivial, trivial, trivial⟩ ?_
        refine sm_w.ite (fun hc => ?_) (fun hc => ?_)
        · have h := h.1 hc
          obtain ⟨c50, h⟩ := h
          refine sm_w.run t180 sr180 96 2 (M2 := sm_wI M48 130 x4.toNatClampNeg v37) (f2 := (192, [some (.ref 116), some (.int (x1)), none, some (.int (x3)), some (.int (x4)), some (.int (s0)), some (.int (v37))], [])) rfl ⟨trivial, sm_K.s2 (k_130 hS49) (l_130 hS49) c50, trivial⟩ ?_
          have hS52 : SH (sm_wI M48 130 x4.toNatClampNeg v37) := SH.wI hS49 _ _ _
          have h := h _ hS52 rfl
          generalize sm_wI M48 130 x4.toNatClampNeg v37 = M51 at h hS52 ⊢
          exact sm_w.end t180 sr180 98 (o := .returned none) (M2 := M51) rfl trivial (by decide) (⟨rfl, h⟩)
        · have h := h.2 hc
          refine sm_w.run t180 sr180 93 3 (M2 := M48) (f2 := (191, [some (.ref 116), some (.int (x1)), none, some (.int (x3)), some (.int (x4)), some (.int (s0)), some (.int (v37))], [.int (-v37), .int (x4), .ref 130])) rfl ⟨trivial, trivial, trivial, trivial⟩ ?_
          obtain ⟨c53, h⟩ := h
          refine sm_w.run t180 sr180 97 1 (M2 := sm_wI M48 130 x4.toNatClampNeg (-v37)) (f2 := (192, [some (.ref 116), some (.int (x1)), none, some (.int (x3)), some (.int (x4)), some (.int (s0)), some (.int (v37))], [])) rfl ⟨sm_K.s2 (k_130 hS49) (l_130 hS49) c53, trivial⟩ ?_
          have hS55 : SH (sm_wI M48 130 x4.toNatClampNeg (-v37)) := SH.wI hS49 _ _ _
          have h := h _ hS55 rfl
          generalize sm_wI M48 130 x4.toNatClampNeg (-v37) = M54 at h hS55 ⊢
          exact sm_w.end t180 sr180 98 (o := .returned none) (M2 := M54) rfl trivial (by decide) (⟨rfl, h⟩)
      · have h := h.2 hc
        refine sm_w.run t180 sr180 78 2 (M2 := M39) (f2 := (160, [some (.ref 116), some (.int (x1)), none, some (.int (x3)), some (.int (x4)), some (.int (s0)), some (.int (v37))], [va_rf (sm_rv M39 116 22)])) rfl ⟨trivial, sm_K.g (k_116 hS41) (sm_sh.rf _), trivial⟩ ?_
        refine sm_w.fld (r_116_22 hS41) ?_
        obtain ⟨c56, h⟩ := h
        refine sm_w.run t180 sr180 80 3 (M2 := sm_wI M39 128 x4.toNatClampNeg x1) (f2 := (164, [some (.ref 116), some (.int (x1)), none, some (.int (x3)), some (.int (x4)), some (.int (s0)), some (.int (v37))], [])) rfl ⟨trivial, trivial, sm_K.s2 (k_128 hS41) (l_128 hS41) c56, trivial⟩ ?_
        have hS58 : SH (sm_wI M39 128 x4.toNatClampNeg x1) := SH.wI hS41 _ _ _
        have h := h _ hS58 rfl
        generalize sm_wI M39 128 x4.toNatClampNeg x1 = M57 at h hS58 ⊢
        refine sm_w.run t180 sr180 83 2 (M2 := M57) (f2 := (168, [some (.ref 116), some (.int (x1)), none, some (.int (x3)), some (.int (x4)), some (.int (s0)), some (.int (v37))], [va_rf (sm_rv M57 116 23)])) rfl ⟨trivial, sm_K.g (k_116 hS58) (sm_sh.rf _), trivial⟩ ?_
        refine sm_w.fld (r_116_23 hS58) ?_
        obtain ⟨c59, h⟩ := h
        refine sm_w.run t180 sr180 85 3 (M2 := sm_wI M57 129 x4.toNatClampNeg x3) (f2 := (172, [some (.ref 116), some (.int (x1)), none, some (.int (x3)), some (.int (x4)), some (.int (s0)), some (.int (v37))], [])) rfl ⟨trivial, trivial, sm_K.s2 (k_129 hS58) (l_129 hS58) c59, trivial⟩ ?_
        have hS61 : SH (sm_wI M57 129 x4.toNatClampNeg x3) := SH.wI hS58 _ _ _
        have h := h _ hS61 rfl
        generalize sm_wI M57 129 x4.toNatClampNeg x3 = M60 at h hS61 ⊢
        refine sm_w.run t180 sr180 88 2 (M2 := M60) (f2 := (176, [some (.ref 116), some (.int (x1)), none, some (.int (x3)), some (.int (x4)), some (.int (s0)), some (.int (v37))], [va_rf (sm_rv M60 116 24)])) rfl ⟨trivial, sm_K.g (k_116 hS61) (sm_sh.rf _), trivial⟩ ?_
        refine sm_w.fld (r_116_24 hS61) ?_
        refine sm_w.run t180 sr180 90 3 (M2 := M60) (f2 := (if s0 = 0 then 189 else 183, [some (.ref 116), some (.int (x1)), none, some (.int (x3)), some (.int (x4)), some (.int (s0)), some (.int (v37))], [.int (x4), .ref 130])) rfl ⟨trivial, trivial, trivial, trivial⟩ ?_
        refine sm_w.ite (fun hc => ?_) (fun hc => ?_)
        · have h := h.1 hc
          obtain ⟨c62, h⟩ := h
          refine sm_w.run t180 sr180 96 2 (M2 := sm_wI M60 130 x4.toNatClampNeg v37) (f2 := (192, [some (.ref 116), some (.int (x1)), none, some (.int (x3)), some (.int (x4)), some (.int (s0)), some (.int (v37))], [])) rfl ⟨trivial, sm_K.s2 (k_130 hS61) (l_130 hS61) c62, trivial⟩ ?_
          have hS64 : SH (sm_wI M60 130 x4.toNatClampNeg v37) := SH.wI hS61 _ _ _
          have h := h _ hS64 rfl
          generalize sm_wI M60 130 x4.toNatClampNeg v37 = M63 at h hS64 ⊢
          exact sm_w.end t180 sr180 98 (o := .returned none) (M2 := M63) rfl trivial (by decide) (⟨rfl, h⟩)
        · have h := h.2 hc
          refine sm_w.run t180 sr180 93 3 (M2 := M60) (f2 := (191, [some (.ref 116), some (.int (x1)), none, some (.int (x3)), some (.int (x4)), some (.int (s0)), some (.int (v37))], [.int (-v37), .int (x4), .ref 130])) rfl ⟨trivial, trivial, trivial, trivial⟩ ?_
          obtain ⟨c65, h⟩ := h
          refine sm_w.run t180 sr180 97 1 (M2 := sm_wI M60 130 x4.toNatClampNeg (-v37)) (f2 := (192, [some (.ref 116), some (.int (x1)), none, some (.int (x3)), some (.int (x4)), some (.int (s0)), some (.int (v37))], [])) rfl ⟨sm_K.s2 (k_130 hS61) (l_130 hS61) c65, trivial⟩ ?_
          have hS67 : SH (sm_wI M60 130 x4.toNatClampNeg (-v37)) := SH.wI hS61 _ _ _
          have h := h _ hS67 rfl
          generalize sm_wI M60 130 x4.toNatClampNeg (-v37) = M66 at h hS67 ⊢
          exact sm_w.end t180 sr180 98 (o := .returned none) (M2 := M66) rfl trivial (by decide) (⟨rfl, h⟩)
    · have h := h.2 hc
      exact sm_w.end t180 sr180 67 (o := .returned none) (M2 := M39) rfl trivial (by decide) (⟨rfl, h⟩)
