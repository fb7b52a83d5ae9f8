/-! METHODS by their segments. -/
-- 91 LineSetter$HyphenTable.raiseLevels([BII)V
theorem t91 : sP 91 = (8, sp_91, sh_91) := rfl
theorem sr91 : sm_srt sp_91 = true := by decide +kernel
theorem g91_0 {M : sm_M} {x0 : Nat} {x1 : Nat} {nx1 : Nat} {x2 : Int32} {x3 : Int32} {K : sm_M → Prop} (hS : SH M) (hx0 : fH x0) (hx1 : sA x1 1 nx1) (h : sm_cV 92 [.ref (x0 + 9), .int ((0 : Int32)), .int (x3 + (1 : Int32)), .int ((0 : Int32))] M (fun M1 => SH M1 → sm_w 91 (15, [some (.ref x0), some (.ref x1), some (.int (x2)), some (.int (x3)), some (.int ((0 : Int32))), none, none, none], []) M1 (rV K))) : sm_w 91 (sm_in sP 91 [.ref x0, .ref x1, .int (x2), .int (x3)]) M (rV K) := by
  show sm_w 91 (0, [some (.ref x0), some (.ref x1), some (.int (x2)), some (.int (x3)), none, none, none, none], []) M (rV K)
  refine sm_w.run t91 sr91 0 2 (M2 := M) (f2 := (4, [some (.ref x0), some (.ref x1), some (.int (x2)), some (.int (x3)), none, none, none, none], [va_rf (sm_rv M x0 13)])) rfl ⟨trivial, sm_K.g (kH_0 hS hx0) (sm_sh.rf _), trivial⟩ ?_
  refine sm_w.fld (rH_13 hS hx0) ?_
  refine sm_w.run t91 sr91 2 5 (M2 := M) (f2 := (9, [some (.ref x0), some (.ref x1), some (.int (x2)), some (.int (x3)), none, none, none, none], [.int ((0 : Int32)), .int (x3 + (1 : Int32)), .int ((0 : Int32)), .ref (x0 + 9)])) rfl ⟨trivial, trivial, trivial, trivial, trivial, trivial⟩ ?_
  refine sm_w.cV t91 sr91 7 (i := 92) (as := [.ref (x0 + 9), .int ((0 : Int32)), .int (x3 + (1 : Int32)), .int ((0 : Int32))]) (g := (9, [some (.ref x0), some (.ref x1), some (.int (x2)), some (.int (x3)), none, none, none, none], [])) rfl ⟨(Nat.le_of_ble_eq_true rfl), (Nat.le_of_ble_eq_true rfl)⟩ (Nat.le_of_ble_eq_true rfl) (by decide) (sm_cV.s (by decide) hS h) (fun M1 h => ?_)
  obtain ⟨hS3, h⟩ := h
  refine sm_w.run t91 sr91 8 2 (M2 := M1) (f2 := (15, [some (.ref x0), some (.ref x1), some (.int (x2)), some (.int (x3)), some (.int ((0 : Int32))), none, none, none], [])) rfl ⟨trivial, (Nat.le_of_ble_eq_true rfl), trivial⟩ ?_
  exact h
theorem g91_1 {M : sm_M} {x0 : Nat} {x1 : Nat} {nx1 : Nat} {x2 : Int32} {x3 : Int32} {x4 : Int32} {K : sm_M → Prop} (hS : SH M) (hx0 : fH x0) (hx1 : sA x1 1 nx1) (h : ((x3 < x4 → K M) ∧ (¬ x3 < x4 → sm_w 91 (28, [some (.ref x0), some (.ref x1), some (.int (x2)), some (.int (x3)), some (.int (x4)), some (.int ((0 : Int32))), some (.int (x4)), none], []) M (rV K)))) : sm_w 91 (15, [some (.ref x0), some (.ref x1), some (.int (x2)), some (.int (x3)), some (.int (x4)), none, none, none], []) M (rV K) := by
  refine sm_w.run t91 sr91 10 3 (M2 := M) (f2 := (if x3 < x4 then 152 else 21, [some (.ref x0), some (.ref x1), some (.int (x2)), some (.int (x3)), some (.int (x4)), none, none, none], [])) rfl ⟨trivial, trivial, trivial, trivial⟩ ?_
  refine sm_w.ite (fun hc => ?_) (fun hc => ?_)
  · have h := h.1 hc
    exact sm_w.end t91 sr91 82 (o := .returned none) (M2 := M) rfl trivial (by decide) (⟨rfl, h⟩)
  · have h := h.2 hc
    refine sm_w.run t91 sr91 13 4 (M2 := M) (f2 := (28, [some (.ref x0), some (.ref x1), some (.int (x2)), some (.int (x3)), some (.int (x4)), some (.int ((0 : Int32))), some (.int (x4)), none], [])) rfl ⟨trivial, (Nat.le_of_ble_eq_true rfl), trivial, (Nat.le_of_ble_eq_true rfl), trivial⟩ ?_
    exact h
theorem g91_2 {M : sm_M} {x0 : Nat} {x1 : Nat} {nx1 : Nat} {x2 : Int32} {x3 : Int32} {x4 : Int32} {x5 : Int32} {x6 : Int32} {K : sm_M → Prop} (hS : SH M) (hx0 : fH x0) (hx1 : sA x1 1 nx1) (h : (((x3 + (1 : Int32)) < x6 → sm_w 91 (15, [some (.ref x0), some (.ref x1), some (.int (x2)), some (.int (x3)), some (.int (x4 + (1 : Int32))), none, none, none], []) M (rV K)) ∧ (¬ (x3 + (1 : Int32)) < x6 → (((x4 + (14 : Int32)) ≤ x6 → sm_w 91 (15, [some (.ref x0), some (.ref x1), some (.int (x2)), some (.int (x3)), some (.int (x4 + (1 : Int32))), none, none, none], []) M (rV K)) ∧ (¬ (x4 + (14 : Int32)) ≤ x6 → ((x5 < 0 → sm_w 91 (15, [some (.ref x0), some (.ref x1), some (.int (x2)), some (.int (x3)), some (.int (x4 + (1 : Int32))), none, none, none], []) M (rV K)) ∧ (¬ x5 < 0 → ((x6 = 0 → sm_w 91 (64, [some (.ref x0), some (.ref x1), some (.int (x2)), some (.int (x3)), some (.int (x4)), some (.int (x5)), some (.int (x6)), none], []) M (rV K)) ∧ (¬ x6 = 0 → ((x6 = (x3 + (1 : Int32)) → sm_w 91 (64, [some (.ref x0), some (.ref x1), some (.int (x2)), some (.int (x3)), some (.int (x4)), some (.int (x5)), some (.int (x6)), none], []) M (rV K)) ∧ (¬ x6 = (x3 + (1 : Int32)) → sm_w 91 (69, [some (.ref x0), some (.ref x1), some (.int (x2)), some (.int (x3)), some (.int (x4)), some (.int (x5)), some (.int (x6)), none], [.int ((0 : Int32))]) M (rV K)))))))))))) : sm_w 91 (28, [some (.ref x0), some (.ref x1), some (.int (x2)), some (.int (x3)), some (.int (x4)), some (.int (x5)), some (.int (x6)), none], []) M (rV K) := by
  refine sm_w.run t91 sr91 17 5 (M2 := M) (f2 := (if (x3 + (1 : Int32)) < x6 then 146 else 36, [some (.ref x0), some (.ref x1), some (.int (x2)), some (.int (x3)), some (.int (x4)), some (.int (x5)), some (.int (x6)), none], [])) rfl ⟨trivial, trivial, trivial, trivial, trivial, trivial⟩ ?_
  refine sm_w.ite (fun hc => ?_) (fun hc => ?_)
  · have h := h.1 hc
    refine sm_w.run t91 sr91 80 2 (M2 := M) (f2 := (15, [some (.ref x0), some (.ref x1), some (.int (x2)), some (.int (x3)), some (.int (x4 + (1 : Int32))), some (.int (x5)), some (.int (x6)), none], [])) rfl ⟨(Nat.le_of_ble_eq_true rfl), trivial, trivial⟩ ?_
    refine sm_w.weak (ls := [some (.ref x0), some (.ref x1), some (.int (x2)), some (.int (x3)), some (.int (x4 + (1 : Int32))), none, none, none]) (sm_leI [true, true, true, true, true, false, false, false] rfl) ?_
    exact h
  · have h := h.2 hc
    refine sm_w.run t91 sr91 22 5 (M2 := M) (f2 := (if (x4 + (14 : Int32)) ≤ x6 then 146 else 46, [some (.ref x0), some (.ref x1), some (.int (x2)), some (.int (x3)), some (.int (x4)), some (.int (x5)), some (.int (x6)), none], [])) rfl ⟨trivial, trivial, trivial, trivial, trivial, trivial⟩ ?_
    refine sm_w.ite (fun hc => ?_) (fun hc => ?_)
    · have h := h.1 hc
      refine sm_w.run t91 sr91 80 2 (M2 := M) (f2 := (15, [some (.ref x0), some (.ref x1), some (.int (x2)), some (.int (x3)), some (.int (x4 + (1 : Int32))), some (.int (x5)), some (.int (x6)), none], [])) rfl ⟨(Nat.le_of_ble_eq_true rfl), trivial, trivial⟩ ?_
      refine sm_w.weak (ls := [some (.ref x0), some (.ref x1), some (.int (x2)), some (.int (x3)), some (.int (x4 + (1 : Int32))), none, none, none]) (sm_leI [true, true, true, true, true, false, false, false] rfl) ?_
      exact h
    · have h := h.2 hc
      refine sm_w.run t91 sr91 27 2 (M2 := M) (f2 := (if x5 < 0 then 146 else 51, [some (.ref x0), some (.ref x1), some (.int (x2)), some (.int (x3)), some (.int (x4)), some (.int (x5)), some (.int (x6)), none], [])) rfl ⟨trivial, trivial, trivial⟩ ?_
      refine sm_w.ite (fun hc => ?_) (fun hc => ?_)
      · have h := h.1 hc
        refine sm_w.run t91 sr91 80 2 (M2 := M) (f2 := (15, [some (.ref x0), some (.ref x1), some (.int (x2)), some (.int (x3)), some (.int (x4 + (1 : Int32))), some (.int (x5)), some (.int (x6)), none], [])) rfl ⟨(Nat.le_of_ble_eq_true rfl), trivial, trivial⟩ ?_
        refine sm_w.weak (ls := [some (.ref x0), some (.ref x1), some (.int (x2)), some (.int (x3)), some (.int (x4 + (1 : Int32))), none, none, none]) (sm_leI [true, true, true, true, true, false, false, false] rfl) ?_
        exact h
      · have h := h.2 hc
        refine sm_w.run t91 sr91 29 2 (M2 := M) (f2 := (if x6 = 0 then 64 else 56, [some (.ref x0), some (.ref x1), some (.int (x2)), some (.int (x3)), some (.int (x4)), some (.int (x5)), some (.int (x6)), none], [])) rfl ⟨trivial, trivial, trivial⟩ ?_
        refine sm_w.ite (fun hc => ?_) (fun hc => ?_)
        · have h := h.1 hc
          exact h
        · have h := h.2 hc
          refine sm_w.run t91 sr91 31 5 (M2 := M) (f2 := (if x6 = (x3 + (1 : Int32)) then 64 else 68, [some (.ref x0), some (.ref x1), some (.int (x2)), some (.int (x3)), some (.int (x4)), some (.int (x5)), some (.int (x6)), none], [])) rfl ⟨trivial, trivial, trivial, trivial, trivial, trivial⟩ ?_
          refine sm_w.ite (fun hc => ?_) (fun hc => ?_)
          · have h := h.1 hc
            exact h
          · have h := h.2 hc
            refine sm_w.run t91 sr91 38 1 (M2 := M) (f2 := (69, [some (.ref x0), some (.ref x1), some (.int (x2)), some (.int (x3)), some (.int (x4)), some (.int (x5)), some (.int (x6)), none], [.int ((0 : Int32))])) rfl ⟨trivial, trivial⟩ ?_
            exact h
theorem g91_3 {M : sm_M} {x0 : Nat} {x1 : Nat} {nx1 : Nat} {x2 : Int32} {x3 : Int32} {x4 : Int32} {x5 : Int32} {x6 : Int32} {K : sm_M → Prop} (hS : SH M) (hx0 : fH x0) (hx1 : sA x1 1 nx1) (h : sm_w 91 (69, [some (.ref x0), some (.ref x1), some (.int (x2)), some (.int (x3)), some (.int (x4)), some (.int (x5)), some (.int (x6)), none], [.int ((1 : Int32))]) M (rV K)) : sm_w 91 (64, [some (.ref x0), some (.ref x1), some (.int (x2)), some (.int (x3)), some (.int (x4)), some (.int (x5)), some (.int (x6)), none], []) M (rV K) := by
  refine sm_w.run t91 sr91 36 2 (M2 := M) (f2 := (69, [some (.ref x0), some (.ref x1), some (.int (x2)), some (.int (x3)), some (.int (x4)), some (.int (x5)), some (.int (x6)), none], [.int ((1 : Int32))])) rfl ⟨trivial, trivial, trivial⟩ ?_
  exact h
theorem g91_4 {M : sm_M} {x0 : Nat} {x1 : Nat} {nx1 : Nat} {x2 : Int32} {x3 : Int32} {x4 : Int32} {x5 : Int32} {x6 : Int32} {s0 : Int32} {K : sm_M → Prop} (hS : SH M) (hx0 : fH x0) (hx1 : sA x1 1 nx1) (h : ((s0 = 0 → (vp_in ((x2 + x6) - (1 : Int32)) nx1) ∧ sm_cI 73 [.ref x0, .int (x5), .int (p70_0 M (iV M x1 ((x2 + x6) - (1 : Int32)).toNatClampNeg))] M (fun v3 M2 => SH M2 → ((v3 < 0 → sm_w 91 (28, [some (.ref x0), some (.ref x1), some (.int (x2)), some (.int (x3)), some (.int (x4)), some (.int (v3)), some (.int (x6 + (1 : Int32))), none], []) M2 (rV K)) ∧ (¬ v3 < 0 → (vp_in v3 4201) ∧ (((iV M2 (x0 + 4) v3.toNatClampNeg) < 0 → sm_w 91 (28, [some (.ref x0), some (.ref x1), some (.int (x2)), some (.int (x3)), some (.int (x4)), some (.int (v3)), some (.int (x6 + (1 : Int32))), none], []) M2 (rV K)) ∧ (¬ (iV M2 (x0 + 4) v3.toNatClampNeg) < 0 → (vp_in v3 4201) ∧ (vp_in (iV M2 (x0 + 4) v3.toNatClampNeg) 300) ∧ sm_cV 94 [.ref x0, .long (jV M2 (x0 + 5) (iV M2 (x0 + 4) v3.toNatClampNeg).toNatClampNeg), .int (if (x4 - (1 : Int32)) < (0 : Int32) then (0 : Int32) else (x4 - (1 : Int32))), .int (x3)] M2 (fun M8 => SH M8 → sm_w 91 (28, [some (.ref x0), some (.ref x1), some (.int (x2)), some (.int (x3)), some (.int (x4)), some (.int (v3)), some (.int (x6 + (1 : Int32))), none], []) M8 (rV K)))))))) ∧ (¬ s0 = 0 → sm_cI 73 [.ref x0, .int (x5), .int ((46 : Int32))] M (fun v12 M11 => SH M11 → ((v12 < 0 → sm_w 91 (28, [some (.ref x0), some (.ref x1), some (.int (x2)), some (.int (x3)), some (.int (x4)), some (.int (v12)), some (.int (x6 + (1 : Int32))), none], []) M11 (rV K)) ∧ (¬ v12 < 0 → (vp_in v12 4201) ∧ (((iV M11 (x0 + 4) v12.toNatClampNeg) < 0 → sm_w 91 (28, [some (.ref x0), some (.ref x1), some (.int (x2)), some (.int (x3)), some (.int (x4)), some (.int (v12)), some (.int (x6 + (1 : Int32))), none], []) M11 (rV K)) ∧ (¬ (iV M11 (x0 + 4) v12.toNatClampNeg) < 0 → (vp_in v12 4201) ∧ (vp_in (iV M11 (x0 + 4) v12.toNatClampNeg) 300) ∧ sm_cV 94 [.ref x0, .long (jV M11 (x0 + 5) (iV M11 (x0 + 4) v12.toNatClampNeg).toNatClampNeg), .int (if (x4 - (1 : Int32)) < (0 : Int32) then (0 : Int32) else (x4 - (1 : Int32))), .int (x3)] M11 (fun M17 => SH M17 → sm_w 91 (28, [some (.ref x0), some (.ref x1), some (.int (x2)), some (.int (x3)), some (.int (x4)), some (.int (v12)), some (.int (x6 + (1 : Int32))), none], []) M17 (rV K)))))))))) : sm_w 91 (69, [some (.ref x0), some (.ref x1), some (.int (x2)), some (.int (x3)), some (.int (x4)), some (.int (x5)), some (.int (x6)), none], [.int (s0)]) M (rV K) := by
  refine sm_w.run t91 sr91 39 5 (M2 := M) (f2 := (if s0 = 0 then 84 else 79, [some (.ref x0), some (.ref x1), some (.int (x2)), some (.int (x3)), some (.int (x4)), some (.int (x5)), some (.int (x6)), some (.int (s0))], [.int (x5), .ref x0])) rfl ⟨(Nat.le_of_ble_eq_true rfl), trivial, trivial, trivial, trivial, trivial⟩ ?_
  refine sm_w.ite (fun hc => ?_) (fun hc => ?_)
  · have h := h.1 hc
    obtain ⟨c1, h⟩ := h
    refine sm_w.run t91 sr91 46 7 (M2 := M) (f2 := (92, [some (.ref x0), some (.ref x1), some (.int (x2)), some (.int (x3)), some (.int (x4)), some (.int (x5)), some (.int (x6)), some (.int (s0))], [.int (iV M x1 ((x2 + x6) - (1 : Int32)).toNatClampNeg), .int (x5), .ref x0])) rfl ⟨trivial, trivial, trivial, trivial, trivial, trivial, sm_K.a2 (hx1.K hS) (hx1.L hS) c1, trivial⟩ ?_
    refine sm_w.cI t91 sr91 53 (i := 70) (as := [.int (iV M x1 ((x2 + x6) - (1 : Int32)).toNatClampNeg)]) (g := (92, [some (.ref x0), some (.ref x1), some (.int (x2)), some (.int (x3)), some (.int (x4)), some (.int (x5)), some (.int (x6)), some (.int (s0))], [.int (x5), .ref x0])) rfl ⟨(Nat.le_of_ble_eq_true rfl), (Nat.le_of_ble_eq_true rfl)⟩ (Nat.le_of_ble_eq_true rfl) (by decide) (p70_c hS) (fun vz M2 hz => ?_)
    obtain ⟨hz1, hz2⟩ := hz
    subst hz1
    have hz2 := hz2.symm
    subst hz2
    refine sm_w.cI t91 sr91 54 (i := 73) (as := [.ref x0, .int (x5), .int (p70_0 M (iV M x1 ((x2 + x6) - (1 : Int32)).toNatClampNeg))]) (g := (95, [some (.ref x0), some (.ref x1), some (.int (x2)), some (.int (x3)), some (.int (x4)), some (.int (x5)), some (.int (x6)), some (.int (s0))], [])) rfl ⟨by decide, by decide, (Nat.le_of_ble_eq_true rfl), (sm_K.g (kH_0 hS hx0) (sm_sh.rf _)).1, (sm_K.g (kH_0 hS hx0) (sm_sh.rf _)).2, (Nat.le_of_ble_eq_true rfl)⟩ (Nat.le_of_ble_eq_true rfl) (by decide) (sm_cI.s (by decide) hS h) (fun v3 M2 h => ?_)
    obtain ⟨hS4, h⟩ := h
    refine sm_w.run t91 sr91 55 3 (M2 := M2) (f2 := (if v3 < 0 then 140 else 105, [some (.ref x0), some (.ref x1), some (.int (x2)), some (.int (x3)), some (.int (x4)), some (.int (v3)), some (.int (x6)), some (.int (s0))], [])) rfl ⟨(Nat.le_of_ble_eq_true rfl), trivial, trivial, trivial⟩ ?_
    refine sm_w.ite (fun hc => ?_) (fun hc => ?_)
    · have h := h.1 hc
      refine sm_w.run t91 sr91 78 2 (M2 := M2) (f2 := (28, [some (.ref x0), some (.ref x1), some (.int (x2)), some (.int (x3)), some (.int (x4)), some (.int (v3)), some (.int (x6 + (1 : Int32))), some (.int (s0))], [])) rfl ⟨(Nat.le_of_ble_eq_true rfl), trivial, trivial⟩ ?_
      refine sm_w.weak (ls := [some (.ref x0), some (.ref x1), some (.int (x2)), some (.int (x3)), some (.int (x4)), some (.int (v3)), some (.int (x6 + (1 : Int32))), none]) (sm_leI [true, true, true, true, true, true, true, false] rfl) ?_
      exact h
    · have h := h.2 hc
      refine sm_w.run t91 sr91 58 2 (M2 := M2) (f2 := (109, [some (.ref x0), some (.ref x1), some (.int (x2)), some (.int (x3)), some (.int (x4)), some (.int (v3)), some (.int (x6)), some (.int (s0))], [va_rf (sm_rv M2 x0 3)])) rfl ⟨trivial, sm_K.g (kH_0 hS4 hx0) (sm_sh.rf _), trivial⟩ ?_
      refine sm_w.fld (rH_3 hS4 hx0) ?_
      obtain ⟨c5, h⟩ := h
      refine sm_w.run t91 sr91 60 3 (M2 := M2) (f2 := (if (iV M2 (x0 + 4) v3.toNatClampNeg) < 0 then 140 else 115, [some (.ref x0), some (.ref x1), some (.int (x2)), some (.int (x3)), some (.int (x4)), some (.int (v3)), some (.int (x6)), some (.int (s0))], [])) rfl ⟨trivial, sm_K.a2 (kH_4 hS4 hx0) (lH_4 hS4 hx0) c5, trivial, trivial⟩ ?_
      refine sm_w.ite (fun hc => ?_) (fun hc => ?_)
      · have h := h.1 hc
        refine sm_w.run t91 sr91 78 2 (M2 := M2) (f2 := (28, [some (.ref x0), some (.ref x1), some (.int (x2)), some (.int (x3)), some (.int (x4)), some (.int (v3)), some (.int (x6 + (1 : Int32))), some (.int (s0))], [])) rfl ⟨(Nat.le_of_ble_eq_true rfl), trivial, trivial⟩ ?_
        refine sm_w.weak (ls := [some (.ref x0), some (.ref x1), some (.int (x2)), some (.int (x3)), some (.int (x4)), some (.int (v3)), some (.int (x6 + (1 : Int32))), none]) (sm_leI [true, true, true, true, true, true, true, false] rfl) ?_
        exact h
      · have h := h.2 hc
        refine sm_w.run t91 sr91 63 3 (M2 := M2) (f2 := (120, [some (.ref x0), some (.ref x1), some (.int (x2)), some (.int (x3)), some (.int (x4)), some (.int (v3)), some (.int (x6)), some (.int (s0))], [va_rf (sm_rv M2 x0 5), .ref x0])) rfl ⟨trivial, trivial, sm_K.g (kH_0 hS4 hx0) (sm_sh.rf _), trivial⟩ ?_
        refine sm_w.fld (rH_5 hS4 hx0) ?_
        refine sm_w.run t91 sr91 66 2 (M2 := M2) (f2 := (124, [some (.ref x0), some (.ref x1), some (.int (x2)), some (.int (x3)), some (.int (x4)), some (.int (v3)), some (.int (x6)), some (.int (s0))], [va_rf (sm_rv M2 x0 3), .ref (x0 + 5), .ref x0])) rfl ⟨trivial, sm_K.g (kH_0 hS4 hx0) (sm_sh.rf _), trivial⟩ ?_
        refine sm_w.fld (rH_3 hS4 hx0) ?_
        obtain ⟨c6, c7, h⟩ := h
        refine sm_w.run t91 sr91 68 9 (M2 := M2) (f2 := (137, [some (.ref x0), some (.ref x1), some (.int (x2)), some (.int (x3)), some (.int (x4)), some (.int (v3)), some (.int (x6)), some (.int (s0))], [.int (x3), .int (if (x4 - (1 : Int32)) < (0 : Int32) then (0 : Int32) else (x4 - (1 : Int32))), .long (jV M2 (x0 + 5) (iV M2 (x0 + 4) v3.toNatClampNeg).toNatClampNeg), .ref x0])) rfl ⟨trivial, sm_K.a2 (kH_4 hS4 hx0) (lH_4 hS4 hx0) c6, sm_K.a2 (kH_5 hS4 hx0) (lH_5 hS4 hx0) c7, trivial, trivial, trivial, trivial, (Nat.le_of_ble_eq_true rfl), trivial, trivial⟩ ?_
        refine sm_w.cV t91 sr91 77 (i := 94) (as := [.ref x0, .long (jV M2 (x0 + 5) (iV M2 (x0 + 4) v3.toNatClampNeg).toNatClampNeg), .int (if (x4 - (1 : Int32)) < (0 : Int32) then (0 : Int32) else (x4 - (1 : Int32))), .int (x3)]) (g := (137, [some (.ref x0), some (.ref x1), some (.int (x2)), some (.int (x3)), some (.int (x4)), some (.int (v3)), some (.int (x6)), some (.int (s0))], [])) rfl ⟨by decide, by decide, (Nat.le_of_ble_eq_true rfl), (sm_K.g (kH_0 hS4 hx0) (sm_sh.rf _)).1, (sm_K.g (kH_0 hS4 hx0) (sm_sh.rf _)).2, (Nat.le_of_ble_eq_true rfl)⟩ (Nat.le_of_ble_eq_true rfl) (by decide) (sm_cV.s (by decide) hS4 h) (fun M8 h => ?_)
        obtain ⟨hS10, h⟩ := h
        refine sm_w.run t91 sr91 78 2 (M2 := M8) (f2 := (28, [some (.ref x0), some (.ref x1), some (.int (x2)), some (.int (x3)), some (.int (x4)), some (.int (v3)), some (.int (x6 + (1 : Int32))), some (.int (s0))], [])) rfl ⟨(Nat.le_of_ble_eq_true rfl), trivial, trivial⟩ ?_
        refine sm_w.weak (ls := [some (.ref x0), some (.ref x1), some (.int (x2)), some (.int (x3)), some (.int (x4)), some (.int (v3)), some (.int (x6 + (1 : Int32))), none]) (sm_leI [true, true, true, true, true, true, true, false] rfl) ?_
        exact h
  · have h := h.2 hc
    refine sm_w.run t91 sr91 44 2 (M2 := M) (f2 := (95, [some (.ref x0), some (.ref x1), some (.int (x2)), some (.int (x3)), some (.int (x4)), some (.int (x5)), some (.int (x6)), some (.int (s0))], [.int ((46 : Int32)), .int (x5), .ref x0])) rfl ⟨trivial, trivial, trivial⟩ ?_
    refine sm_w.cI t91 sr91 54 (i := 73) (as := [.ref x0, .int (x5), .int ((46 : Int32))]) (g := (95, [some (.ref x0), some (.ref x1), some (.int (x2)), some (.int (x3)), some (.int (x4)), some (.int (x5)), some (.int (x6)), some (.int (s0))], [])) rfl ⟨by decide, by decide, (Nat.le_of_ble_eq_true rfl), (sm_K.g (kH_0 hS hx0) (sm_sh.rf _)).1, (sm_K.g (kH_0 hS hx0) (sm_sh.rf _)).2, (Nat.le_of_ble_eq_true rfl)⟩ (Nat.le_of_ble_eq_true rfl) (by decide) (sm_cI.s (by decide) hS h) (fun v12 M11 h => ?_)
    obtain ⟨hS13, h⟩ := h
    refine sm_w.run t91 sr91 55 3 (M2 := M11) (f2 := (if v12 < 0 then 140 else 105, [some (.ref x0), some (.ref x1), some (.int (x2)), some (.int (x3)), some (.int (x4)), some (.int (v12)), some (.int (x6)), some (.int (s0))], [])) rfl ⟨(Nat.le_of_ble_eq_true rfl), trivial, trivial, trivial⟩ ?_
    refine sm_w.ite (fun hc => ?_) (fun hc => ?_)
    · have h := h.1 hc
      refine sm_w.run t91 sr91 78 2 (M2 := M11) (f2 := (28, [some (.ref x0), some (.ref x1), some (.int (x2)), some (.int (x3)), some (.int (x4)), some (.int (v12)), some (.int (x6 + (1 : Int32))), some (.int (s0))], [])) rfl ⟨(Nat.le_of_ble_eq_true rfl), trivial, trivial⟩ ?_
      refine sm_w.weak (ls := [some (.ref x0), some (.ref x1), some (.int (x2)), some (.int (x3)), some (.int (x4)), some (.int (v12)), some (.int (x6 + (1 : Int32))), none]) (sm_leI [true, true, true, true, true, true, true, false] rfl) ?_
      exact h
    · have h := h.2 hc
      refine sm_w.run t91 sr91 58 2 (M2 := M11) (f2 := (109, [some (.ref x0), some (.ref x1), some (.int (x2)), some (.int (x3)), some (.int (x4)), some (.int (v12)), some (.int (x6)), some (.int (s0))], [va_rf (sm_rv M11 x0 3)])) rfl ⟨trivial, sm_K.g (kH_0 hS13 hx0) (sm_sh.rf _), trivial⟩ ?_
      refine sm_w.fld (rH_3 hS13 hx0) ?_
      obtain ⟨c14, h⟩ := h
      refine sm_w.run t91 sr91 60 3 (M2 := M11) (f2 := (if (iV M11 (x0 + 4) v12.toNatClampNeg) < 0 then 140 else 115, [some (.ref x0), some (.ref x1), some (.int (x2)), some (.int (x3)), some (.int (x4)), some (.int (v12)), some (.int (x6)), some (.int (s0))], [])) rfl ⟨trivial, sm_K.a2 (kH_4 hS13 hx0) (lH_4 hS13 hx0) c14, trivial, trivial⟩ ?_
      refine sm_w.ite (fun hc => ?_) (fun hc => ?_)
      · have h := h.1 hc
        refine sm_w.run t91 sr91 78 2 (M2 := M11) (f2 := (28, [some (.ref x0), some (.ref x1), some (.int (x2)), some (.int (x3)), some (.int (x4)), some (.int (v12)), some (.int (x6 + (1 : Int32))), some (.int (s0))], [])) rfl ⟨(Nat.le_of_ble_eq_true rfl), trivial, trivial⟩ ?_
        refine sm_w.weak (ls := [some (.ref x0), some (.ref x1), some (.int (x2)), some (.int (x3)), some (.int (x4)), some (.int (v12)), some (.int (x6 + (1 : Int32))), none]) (sm_leI [true, true, true, true, true, true, true, false] rfl) ?_
        exact h
      · have h := h.2 hc
        refine sm_w.run t91 sr91 63 3 (M2 := M11) (f2 := (120, [some (.ref x0), some (.ref x1), some (.int (x2)), some (.int (x3)), some (.int (x4)), some (.int (v12)), some (.int (x6)), some (.int (s0))], [va_rf (sm_rv M11 x0 5), .ref x0])) rfl ⟨trivial, trivial, sm_K.g (kH_0 hS13 hx0) (sm_sh.rf _), trivial⟩ ?_
        refine sm_w.fld (rH_5 hS13 hx0) ?_
        refine sm_w.run t91 sr91 66 2 (M2 := M11) (f2 := (124, [some (.ref x0), some (.ref x1), some (.int (x2)), some (.int (x3)), some (.int (x4)), some (.int (v12)), some (.int (x6)), some (.int (s0))], [va_rf (sm_rv M11 x0 3), .ref (x0 + 5), .ref x0])) rfl ⟨trivial, sm_K.g (kH_0 hS13 hx0) (sm_sh.rf _), trivial⟩ ?_
        refine sm_w.fld (rH_3 hS13 hx0) ?_
        obtain ⟨c15, c16, h⟩ := h
        refine sm_w.run t91 sr91 68 9 (M2 := M11) (f2 := (137, [some (.ref x0), some (.ref x1), some (.int (x2)), some (.int (x3)), some (.int (x4)), some (.int (v12)), some (.int (x6)), some (.int (s0))], [.int (x3), .int (if (x4 - (1 : Int32)) < (0 : Int32) then (0 : Int32) else (x4 - (1 : Int32))), .long (jV M11 (x0 + 5) (iV M11 (x0 + 4) v12.toNatClampNeg).toNatClampNeg), .ref x0])) rfl ⟨trivial, sm_K.a2 (kH_4 hS13 hx0) (lH_4 hS13 hx0) c15, sm_K.a2 (kH_5 hS13 hx0) (lH_5 hS13 hx0) c16, trivial, trivial, trivial, trivial, (Nat.le_of_ble_eq_true rfl), trivial, trivial⟩ ?_
        refine sm_w.cV t91 sr91 77 (i := 94) (as := [.ref x0, .long (jV M11 (x0 + 5) (iV M11 (x0 + 4) v12.toNatClampNeg).toNatClampNeg), .int (if (x4 - (1 : Int32)) < (0 : Int32) then (0 : Int32) else (x4 - (1 : Int32))), .int (x3)]) (g := (137, [some (.ref x0), some (.ref x1), some (.int (x2)), some (.int (x3)), some (.int (x4)), some (.int (v12)), some (.int (x6)), some (.int (s0))], [])) rfl ⟨by decide, by decide, (Nat.le_of_ble_eq_true rfl), (sm_K.g (kH_0 hS13 hx0) (sm_sh.rf _)).1, (sm_K.g (kH_0 hS13 hx0) (sm_sh.rf _)).2, (Nat.le_of_ble_eq_true rfl)⟩ (Nat.le_of_ble_eq_true rfl) (by decide) (sm_cV.s (by decide) hS13 h) (fun M17 h => ?_)
        obtain ⟨hS19, h⟩ := h
        refine sm_w.run t91 sr91 78 2 (M2 := M17) (f2 := (28, [some (.ref x0), some (.ref x1), some (.int (x2)), some (.int (x3)), some (.int (x4)), some (.int (v12)), some (.int (x6 + (1 : Int32))), some (.int (s0))], [])) rfl ⟨(Nat.le_of_ble_eq_true rfl), trivial, trivial⟩ ?_
        refine sm_w.weak (ls := [some (.ref x0), some (.ref x1), some (.int (x2)), some (.int (x3)), some (.int (x4)), some (.int (v12)), some (.int (x6 + (1 : Int32))), none]) (sm_leI [true, true, true, true, true, true, true, false] rfl) ?_
        exact h
-- 95 LineSetter$HyphenTable.hasPlace(II)Z
theorem t95 : sP 95 = (3, sp_95, sh_95) := rfl
theorem sr95 : sm_srt sp_95 = true := by decide +kernel
theorem g95_0 {M : sm_M} {x0 : Nat} {x1 : Int32} {x2 : Int32} {K : Int32 → sm_M → Prop} (hS : SH M) (hx0 : fH x0) (h : (((30 : Int32) ≤ x2 → K (0 : Int32) M) ∧ (¬ (30 : Int32) ≤ x2 → (vp_in x1 60) ∧ (((((iV M (x0 + 8) x1.toNatClampNeg) >>> (x2 &&& 31)) &&& (1 : Int32)) = (1 : Int32) → K (1 : Int32) M) ∧ (¬ (((iV M (x0 + 8) x1.toNatClampNeg) >>> (x2 &&& 31)) &&& (1 : Int32)) = (1 : Int32) → K (0 : Int32) M))))) : sm_w 95 (sm_in sP 95 [.ref x0, .int (x1), .int (x2)]) M (rI K) := by
  show sm_w 95 (0, [some (.ref x0), some (.int (x1)), some (.int (x2))], []) M (rI K)
  refine sm_w.run t95 sr95 0 3 (M2 := M) (f2 := (if (30 : Int32) ≤ x2 then 24 else 6, [some (.ref x0), some (.int (x1)), some (.int (x2))], [])) rfl ⟨trivial, trivial, trivial, trivial⟩ ?_
  refine sm_w.ite (fun hc => ?_) (fun hc => ?_)
  · have h := h.1 hc
    refine sm_w.run t95 sr95 15 1 (M2 := M) (f2 := (25, [some (.ref x0), some (.int (x1)), some (.int (x2))], [.int ((0 : Int32))])) rfl ⟨trivial, trivial⟩ ?_
    exact sm_w.end t95 sr95 16 (o := .returned (some (.int ((0 : Int32))))) (M2 := M) rfl rfl (by decide) (⟨_, rfl, h⟩)
  · have h := h.2 hc
    refine sm_w.run t95 sr95 3 2 (M2 := M) (f2 := (10, [some (.ref x0), some (.int (x1)), some (.int (x2))], [va_rf (sm_rv M x0 9)])) rfl ⟨trivial, sm_K.g (kH_0 hS hx0) (sm_sh.rf _), trivial⟩ ?_
    refine sm_w.fld (rH_9 hS hx0) ?_
    obtain ⟨c1, h⟩ := h
    refine sm_w.run t95 sr95 5 8 (M2 := M) (f2 := (if (((iV M (x0 + 8) x1.toNatClampNeg) >>> (x2 &&& 31)) &&& (1 : Int32)) = (1 : Int32) then 20 else 24, [some (.ref x0), some (.int (x1)), some (.int (x2))], [])) rfl ⟨trivial, sm_K.a2 (kH_8 hS hx0) (lH_8 hS hx0) c1, trivial, trivial, trivial, trivial, trivial, trivial, trivial⟩ ?_
    refine sm_w.ite (fun hc => ?_) (fun hc => ?_)
    · have h := h.1 hc
      refine sm_w.run t95 sr95 13 2 (M2 := M) (f2 := (25, [some (.ref x0), some (.int (x1)), some (.int (x2))], [.int ((1 : Int32))])) rfl ⟨trivial, trivial, trivial⟩ ?_
      exact sm_w.end t95 sr95 16 (o := .returned (some (.int ((1 : Int32))))) (M2 := M) rfl rfl (by decide) (⟨_, rfl, h⟩)
    · have h := h.2 hc
      refine sm_w.run t95 sr95 15 1 (M2 := M) (f2 := (25, [some (.ref x0), some (.int (x1)), some (.int (x2))], [.int ((0 : Int32))])) rfl ⟨trivial, trivial⟩ ?_
      exact sm_w.end t95 sr95 16 (o := .returned (some (.int ((0 : Int32))))) (M2 := M) rfl rfl (by decide) (⟨_, rfl, h⟩)
def p95_0 (M : sm_M) (x0 : Nat) (x1 : Int32) (x2 : Int32) : Int32 := if (30 : Int32) ≤ x2 then (0 : Int32) else (if (((iV M (x0 + 8) x1.toNatClampNeg) >>> (x2 &&& 31)) &&& (1 : Int32)) = (1 : Int32) then (1 : Int32) else (0 : Int32))
def q95_0 (M : sm_M) (x0 : Nat) (x1 : Int32) (x2 : Int32) : Prop := (((30 : Int32) ≤ x2 → True) ∧ (¬ (30 : Int32) ≤ x2 → (vp_in x1 60)))
theorem p95_c {M : sm_M} {x0 : Nat} {x1 : Int32} {x2 : Int32} (hS : SH M) (hx0 : fH x0) (hq : q95_0 M x0 x1 x2) : sm_cI 95 [.ref x0, .int (x1), .int (x2)] M (fun v M2 => v = p95_0 M x0 x1 x2 ∧ M2 = M) := by
  refine g95_0 (K := (fun v M2 => v = p95_0 M x0 x1 x2 ∧ M2 = M)) hS hx0 ?_
  unfold q95_0 at hq
  refine ⟨fun e1 => ?_, fun e1 => ?_⟩
  · refine ⟨?_, rfl⟩
    unfold p95_0
    rw [if_pos e1]
  · have hq := hq.2 e1
    have d2 := hq
    refine ⟨d2, ?_⟩
    refine ⟨fun e3 => ?_, fun e3 => ?_⟩
    · refine ⟨?_, rfl⟩
      unfold p95_0
      rw [if_neg e1, if_pos e3]
    · refine ⟨?_, rfl⟩
      unfold p95_0
      rw [if_neg e1, if_neg e3]
-- 90 LineSetter$HyphenTable.markPlaces([BII[I)V
theorem t90 : sP 90 = (10, sp_90, sh_90) := rfl
theorem sr90 : sm_srt sp_90 = true := by decide +kernel
theorem g90_0 {M : sm_M} {x0 : Nat} {x1 : Nat} {nx1 : Nat} {x2 : Int32} {x3 : Int32} {x4 : Nat} {nx4 : Nat} {K : sm_M → Prop} (hS : SH M) (hx0 : fH x0) (hx1 : sA x1 1 nx1) (hx4 : sA x4 0 nx4) (h : ((x2 < 0 → K M) ∧ (¬ x2 < 0 → (((Int32.ofNat nx1) < x3 → K M) ∧ (¬ (Int32.ofNat nx1) < x3 → (((Int32.ofNat nx4) < x3 → K M) ∧ (¬ (Int32.ofNat nx4) < x3 → (((x3 - x2) < (4001 : Int32) → (((iV M x0 11) ≤ ((x3 - x2) - (iV M x0 12)) → sm_cI 68 [.ref x0, .ref x1, .int (x2), .int (x3 - x2)] M (fun v2 M1 => SH M1 → ((0 ≤ v2 → sm_w 90 (82, [some (.ref x0), none, some (.int (x2)), none, some (.ref x4), none, some (.int ((x3 - x2) - (iV M x0 12))), some (.int (v2)), some (.int (iV M1 x0 11)), none], []) M1 (rV K)) ∧ (¬ 0 ≤ v2 → sm_cV 91 [.ref x0, .ref x1, .int (x2), .int (x3 - x2)] M1 (fun M4 => SH M4 → sm_w 90 (82, [some (.ref x0), none, some (.int (x2)), none, some (.ref x4), none, some (.int ((x3 - x2) - (iV M x0 12))), some (.int (v2)), some (.int (iV M4 x0 11)), none], []) M4 (rV K)))))) ∧ (¬ (iV M x0 11) ≤ ((x3 - x2) - (iV M x0 12)) → K M))) ∧ (¬ (x3 - x2) < (4001 : Int32) → K M))))))))) : sm_w 90 (sm_in sP 90 [.ref x0, .ref x1, .int (x2), .int (x3), .ref x4]) M (rV K) := by
  show sm_w 90 (0, [some (.ref x0), some (.ref x1), some (.int (x2)), some (.int (x3)), some (.ref x4), none, none, none, none, none], []) M (rV K)
  refine sm_w.run t90 sr90 0 2 (M2 := M) (f2 := (if x2 < 0 then 28 else 4, [some (.ref x0), some (.ref x1), some (.int (x2)), some (.int (x3)), some (.ref x4), none, none, none, none, none], [])) rfl ⟨trivial, trivial, trivial⟩ ?_
  refine sm_w.ite (fun hc => ?_) (fun hc => ?_)
  · have h := h.1 hc
    exact sm_w.end t90 sr90 17 (o := .returned none) (M2 := M) rfl trivial (by decide) (⟨rfl, h⟩)
  · have h := h.2 hc
    refine sm_w.run t90 sr90 2 3 (M2 := M) (f2 := (7, [some (.ref x0), some (.ref x1), some (.int (x2)), some (.int (x3)), some (.ref x4), none, none, none, none, none], [.int (Int32.ofNat (sm_ln M x1)), .int (x3)])) rfl ⟨trivial, trivial, sm_K.l (hx1.K hS) (sm_sh.rf _) (by decide), trivial⟩ ?_
    refine sm_w.aln (hx1.L hS) ?_
    refine sm_w.run t90 sr90 5 1 (M2 := M) (f2 := (if (Int32.ofNat nx1) < x3 then 28 else 10, [some (.ref x0), some (.ref x1), some (.int (x2)), some (.int (x3)), some (.ref x4), none, none, none, none, none], [])) rfl ⟨trivial, trivial⟩ ?_
    refine sm_w.ite (fun hc => ?_) (fun hc => ?_)
    · have h := h.1 hc
      exact sm_w.end t90 sr90 17 (o := .returned none) (M2 := M) rfl trivial (by decide) (⟨rfl, h⟩)
    · have h := h.2 hc
      refine sm_w.run t90 sr90 6 3 (M2 := M) (f2 := (14, [some (.ref x0), some (.ref x1), some (.int (x2)), some (.int (x3)), some (.ref x4), none, none, none, none, none], [.int (Int32.ofNat (sm_ln M x4)), .int (x3)])) rfl ⟨trivial, trivial, sm_K.l (hx4.K hS) (sm_sh.rf _) (by decide), trivial⟩ ?_
      refine sm_w.aln (hx4.L hS) ?_
      refine sm_w.run t90 sr90 9 1 (M2 := M) (f2 := (if (Int32.ofNat nx4) < x3 then 28 else 17, [some (.ref x0), some (.ref x1), some (.int (x2)), some (.int (x3)), some (.ref x4), none, none, none, none, none], [])) rfl ⟨trivial, trivial⟩ ?_
      refine sm_w.ite (fun hc => ?_) (fun hc => ?_)
      · have h := h.1 hc
        exact sm_w.end t90 sr90 17 (o := .returned none) (M2 := M) rfl trivial (by decide) (⟨rfl, h⟩)
      · have h := h.2 hc
        refine sm_w.run t90 sr90 10 5 (M2 := M) (f2 := (24, [some (.ref x0), some (.ref x1), some (.int (x2)), some (.int (x3)), some (.ref x4), none, none, none, none, none], [va_rf (sm_rv M x0 13), .int (x3 - x2)])) rfl ⟨trivial, trivial, trivial, trivial, sm_K.g (kH_0 hS hx0) (sm_sh.rf _), trivial⟩ ?_
        refine sm_w.fld (rH_13 hS hx0) ?_
        refine sm_w.run t90 sr90 15 1 (M2 := M) (f2 := (25, [some (.ref x0), some (.ref x1), some (.int (x2)), some (.int (x3)), some (.ref x4), none, none, none, none, none], [.int (Int32.ofNat (sm_ln M (x0 + 9))), .int (x3 - x2)])) rfl ⟨sm_K.l (kH_9 hS hx0) (sm_sh.rf _) (by decide), trivial⟩ ?_
        refine sm_w.aln (lH_9 hS hx0) ?_
        refine sm_w.run t90 sr90 16 1 (M2 := M) (f2 := (if (x3 - x2) < (4001 : Int32) then 29 else 28, [some (.ref x0), some (.ref x1), some (.int (x2)), some (.int (x3)), some (.ref x4), none, none, none, none, none], [])) rfl ⟨trivial, trivial⟩ ?_
        refine sm_w.ite (fun hc => ?_) (fun hc => ?_)
        · have h := h.1 hc
          refine sm_w.run t90 sr90 18 13 (M2 := M) (f2 := (if (iV M x0 11) ≤ ((x3 - x2) - (iV M x0 12)) then 53 else 52, [some (.ref x0), some (.ref x1), some (.int (x2)), some (.int (x3)), some (.ref x4), some (.int (x3 - x2)), some (.int ((x3 - x2) - (iV M x0 12))), none, none, none], [])) rfl ⟨trivial, trivial, trivial, (Nat.le_of_ble_eq_true rfl), trivial, trivial, sm_K.g (kH_0 hS hx0) (sm_sh.rf _), trivial, (Nat.le_of_ble_eq_true rfl), trivial, sm_K.g (kH_0 hS hx0) (sm_sh.rf _), trivial, trivial, trivial⟩ ?_
          refine sm_w.ite (fun hc => ?_) (fun hc => ?_)
          · have h := h.1 hc
            refine sm_w.run t90 sr90 32 4 (M2 := M) (f2 := (58, [some (.ref x0), some (.ref x1), some (.int (x2)), some (.int (x3)), some (.ref x4), some (.int (x3 - x2)), some (.int ((x3 - x2) - (iV M x0 12))), none, none, none], [.int (x3 - x2), .int (x2), .ref x1, .ref x0])) rfl ⟨trivial, trivial, trivial, trivial, trivial⟩ ?_
            refine sm_w.cI t90 sr90 36 (i := 68) (as := [.ref x0, .ref x1, .int (x2), .int (x3 - x2)]) (g := (58, [some (.ref x0), some (.ref x1), some (.int (x2)), some (.int (x3)), some (.ref x4), some (.int (x3 - x2)), some (.int ((x3 - x2) - (iV M x0 12))), none, none, none], [])) rfl ⟨by decide, by decide, (Nat.le_of_ble_eq_true rfl), (sm_K.g (kH_0 hS hx0) (sm_sh.rf _)).1, (sm_K.g (kH_0 hS hx0) (sm_sh.rf _)).2, (Nat.le_of_ble_eq_true rfl)⟩ (Nat.le_of_ble_eq_true rfl) (by decide) (sm_cI.s (by decide) hS h) (fun v2 M1 h => ?_)
            obtain ⟨hS3, h⟩ := h
            refine sm_w.run t90 sr90 37 3 (M2 := M1) (f2 := (if 0 ≤ v2 then 76 else 68, [some (.ref x0), some (.ref x1), some (.int (x2)), some (.int (x3)), some (.ref x4), some (.int (x3 - x2)), some (.int ((x3 - x2) - (iV M x0 12))), some (.int (v2)), none, none], [])) rfl ⟨(Nat.le_of_ble_eq_true rfl), trivial, trivial, trivial⟩ ?_
            refine sm_w.ite (fun hc => ?_) (fun hc => ?_)
            · have h := h.1 hc
              refine sm_w.run t90 sr90 45 3 (M2 := M1) (f2 := (82, [some (.ref x0), some (.ref x1), some (.int (x2)), some (.int (x3)), some (.ref x4), some (.int (x3 - x2)), some (.int ((x3 - x2) - (iV M x0 12))), some (.int (v2)), some (.int (iV M1 x0 11)), none], [])) rfl ⟨trivial, sm_K.g (kH_0 hS3 hx0) (sm_sh.rf _), (Nat.le_of_ble_eq_true rfl), trivial⟩ ?_
              refine sm_w.weak (ls := [some (.ref x0), none, some (.int (x2)), none, some (.ref x4), none, some (.int ((x3 - x2) - (iV M x0 12))), some (.int (v2)), some (.int (iV M1 x0 11)), none]) (sm_leI [true, false, true, false, true, false, true, true, true, false] rfl) ?_
              exact h
            · have h := h.2 hc
              refine sm_w.run t90 sr90 40 4 (M2 := M1) (f2 := (73, [some (.ref x0), some (.ref x1), some (.int (x2)), some (.int (x3)), some (.ref x4), some (.int (x3 - x2)), some (.int ((x3 - x2) - (iV M x0 12))), some (.int (v2)), none, none], [.int (x3 - x2), .int (x2), .ref x1, .ref x0])) rfl ⟨trivial, trivial, trivial, trivial, trivial⟩ ?_
              refine sm_w.cV t90 sr90 44 (i := 91) (as := [.ref x0, .ref x1, .int (x2), .int (x3 - x2)]) (g := (73, [some (.ref x0), some (.ref x1), some (.int (x2)), some (.int (x3)), some (.ref x4), some (.int (x3 - x2)), some (.int ((x3 - x2) - (iV M x0 12))), some (.int (v2)), none, none], [])) rfl ⟨by decide, by decide, (Nat.le_of_ble_eq_true rfl), (sm_K.g (kH_0 hS3 hx0) (sm_sh.rf _)).1, (sm_K.g (kH_0 hS3 hx0) (sm_sh.rf _)).2, (Nat.le_of_ble_eq_true rfl)⟩ (Nat.le_of_ble_eq_true rfl) (by decide) (sm_cV.s (by decide) hS3 h) (fun M4 h => ?_)
              obtain ⟨hS6, h⟩ := h
              refine sm_w.run t90 sr90 45 3 (M2 := M4) (f2 := (82, [some (.ref x0), some (.ref x1), some (.int (x2)), some (.int (x3)), some (.ref x4), some (.int (x3 - x2)), some (.int ((x3 - x2) - (iV M x0 12))), some (.int (v2)), some (.int (iV M4 x0 11)), none], [])) rfl ⟨trivial, sm_K.g (kH_0 hS6 hx0) (sm_sh.rf _), (Nat.le_of_ble_eq_true rfl), trivial⟩ ?_
              refine sm_w.weak (ls := [some (.ref x0), none, some (.int (x2)), none, some (.ref x4), none, some (.int ((x3 - x2) - (iV M x0 12))), some (.int (v2)), some (.int (iV M4 x0 11)), none]) (sm_leI [true, false, true, false, true, false, true, true, true, false] rfl) ?_
              exact h
          · have h := h.2 hc
            exact sm_w.end t90 sr90 31 (o := .returned none) (M2 := M) rfl trivial (by decide) (⟨rfl, h⟩)
        · have h := h.2 hc
          exact sm_w.end t90 sr90 17 (o := .returned none) (M2 := M) rfl trivial (by decide) (⟨rfl, h⟩)
theorem g90_1 {M : sm_M} {x0 : Nat} {x2 : Int32} {x4 : Nat} {nx4 : Nat} {x6 : Int32} {x7 : Int32} {x8 : Int32} {K : sm_M → Prop} (hS : SH M) (hx0 : fH x0) (hx4 : sA x4 0 nx4) (h : ((x6 < x8 → K M) ∧ (¬ x6 < x8 → ((0 ≤ x7 → (q95_0 M x0 x7 x8) ∧ (((p95_0 M x0 x7 x8) = 0 → sm_w 90 (82, [some (.ref x0), none, some (.int (x2)), none, some (.ref x4), none, some (.int (x6)), some (.int (x7)), some (.int (x8 + (1 : Int32))), none], []) M (rV K)) ∧ (¬ (p95_0 M x0 x7 x8) = 0 → (vp_in (x2 + x8) nx4) ∧ ∀ M3, SH M3 → M3 = sm_wI M x4 (x2 + x8).toNatClampNeg (1 : Int32) → sm_w 90 (82, [some (.ref x0), none, some (.int (x2)), none, some (.ref x4), none, some (.int (x6)), some (.int (x7)), some (.int (x8 + (1 : Int32))), none], []) M3 (rV K)))) ∧ (¬ 0 ≤ x7 → (vp_in x8 4001) ∧ ((((iV M (x0 + 9) x8.toNatClampNeg) &&& (1 : Int32)) = (1 : Int32) → (vp_in (x2 + x8) nx4) ∧ ∀ M7, SH M7 → M7 = sm_wI M x4 (x2 + x8).toNatClampNeg (1 : Int32) → sm_w 90 (82, [some (.ref x0), none, some (.int (x2)), none, some (.ref x4), none, some (.int (x6)), some (.int (x7)), some (.int (x8 + (1 : Int32))), none], []) M7 (rV K)) ∧ (¬ ((iV M (x0 + 9) x8.toNatClampNeg) &&& (1 : Int32)) = (1 : Int32) → sm_w 90 (82, [some (.ref x0), none, some (.int (x2)), none, some (.ref x4), none, some (.int (x6)), some (.int (x7)), some (.int (x8 + (1 : Int32))), none], []) M (rV K)))))))) : sm_w 90 (82, [some (.ref x0), none, some (.int (x2)), none, some (.ref x4), none, some (.int (x6)), some (.int (x7)), some (.int (x8)), none], []) M (rV K) := by
  refine sm_w.run t90 sr90 48 3 (M2 := M) (f2 := (if x6 < x8 then 144 else 89, [some (.ref x0), none, some (.int (x2)), none, some (.ref x4), none, some (.int (x6)), some (.int (x7)), some (.int (x8)), none], [])) rfl ⟨trivial, trivial, trivial, trivial⟩ ?_
  refine sm_w.ite (fun hc => ?_) (fun hc => ?_)
  · have h := h.1 hc
    exact sm_w.end t90 sr90 80 (o := .returned none) (M2 := M) rfl trivial (by decide) (⟨rfl, h⟩)
  · have h := h.2 hc
    refine sm_w.run t90 sr90 51 2 (M2 := M) (f2 := (if 0 ≤ x7 then 115 else 94, [some (.ref x0), none, some (.int (x2)), none, some (.ref x4), none, some (.int (x6)), some (.int (x7)), some (.int (x8)), none], [])) rfl ⟨trivial, trivial, trivial⟩ ?_
    refine sm_w.ite (fun hc => ?_) (fun hc => ?_)
    · have h := h.1 hc
      obtain ⟨c1, h⟩ := h
      refine sm_w.run t90 sr90 65 3 (M2 := M) (f2 := (120, [some (.ref x0), none, some (.int (x2)), none, some (.ref x4), none, some (.int (x6)), some (.int (x7)), some (.int (x8)), none], [.int (x8), .int (x7), .ref x0])) rfl ⟨trivial, trivial, trivial, trivial⟩ ?_
      refine sm_w.cI t90 sr90 68 (i := 95) (as := [.ref x0, .int (x7), .int (x8)]) (g := (120, [some (.ref x0), none, some (.int (x2)), none, some (.ref x4), none, some (.int (x6)), some (.int (x7)), some (.int (x8)), none], [])) rfl ⟨by decide, by decide, (Nat.le_of_ble_eq_true rfl), (sm_K.g (kH_0 hS hx0) (sm_sh.rf _)).1, (sm_K.g (kH_0 hS hx0) (sm_sh.rf _)).2, (Nat.le_of_ble_eq_true rfl)⟩ (Nat.le_of_ble_eq_true rfl) (by decide) (p95_c hS hx0 c1) (fun vz M2 hz => ?_)
      obtain ⟨hz1, hz2⟩ := hz
      subst hz1
      have hz2 := hz2.symm
      subst hz2
      refine sm_w.run t90 sr90 69 3 (M2 := M) (f2 := (if (p95_0 M x0 x7 x8) = 0 then 138 else 130, [some (.ref x0), none, some (.int (x2)), none, some (.ref x4), none, some (.int (x6)), some (.int (x7)), some (.int (x8)), some (.int (p95_0 M x0 x7 x8))], [])) rfl ⟨(Nat.le_of_ble_eq_true rfl), trivial, trivial, trivial⟩ ?_
      refine sm_w.ite (fun hc => ?_) (fun hc => ?_)
      · have h := h.1 hc
        refine sm_w.run t90 sr90 78 2 (M2 := M) (f2 := (82, [some (.ref x0), none, some (.int (x2)), none, some (.ref x4), none, some (.int (x6)), some (.int (x7)), some (.int (x8 + (1 : Int32))), some (.int (p95_0 M x0 x7 x8))], [])) rfl ⟨(Nat.le_of_ble_eq_true rfl), trivial, trivial⟩ ?_
        refine sm_w.weak (ls := [some (.ref x0), none, some (.int (x2)), none, some (.ref x4), none, some (.int (x6)), some (.int (x7)), some (.int (x8 + (1 : Int32))), none]) (sm_leI [true, false, true, false, true, false, true, true, true, false] rfl) ?_
        exact h
      · have h := h.2 hc
        obtain ⟨c2, h⟩ := h
        refine sm_w.run t90 sr90 72 6 (M2 := sm_wI M x4 (x2 + x8).toNatClampNeg (1 : Int32)) (f2 := (138, [some (.ref x0), none, some (.int (x2)), none, some (.ref x4), none, some (.int (x6)), some (.int (x7)), some (.int (x8)), some (.int (p95_0 M x0 x7 x8))], [])) rfl ⟨trivial, trivial, trivial, trivial, trivial, sm_K.s2 (hx4.K hS) (hx4.L hS) c2, trivial⟩ ?_
        have hS4 : SH (sm_wI M x4 (x2 + x8).toNatClampNeg (1 : Int32)) := SH.wI hS _ _ _
        have h := h _ hS4 rfl
        generalize sm_wI M x4 (x2 + x8).toNatClampNeg (1 : Int32) = M3 at h hS4 ⊢
        refine sm_w.run t90 sr90 78 2 (M2 := M3) (f2 := (82, [some (.ref x0), none, some (.int (x2)), none, some (.ref x4), none, some (.int (x6)), some (.int (x7)), some (.int (x8 + (1 : Int32))), some (.int (p95_0 M x0 x7 x8))], [])) rfl ⟨(Nat.le_of_ble_eq_true rfl), trivial, trivial⟩ ?_
        refine sm_w.weak (ls := [some (.ref x0), none, some (.int (x2)), none, some (.ref x4), none, some (.int (x6)), some (.int (x7)), some (.int (x8 + (1 : Int32))), none]) (sm_leI [true, false, true, false, true, false, true, true, true, false] rfl) ?_
        exact h
    · have h := h.2 hc
      refine sm_w.run t90 sr90 53 2 (M2 := M) (f2 := (98, [some (.ref x0), none, some (.int (x2)), none, some (.ref x4), none, some (.int (x6)), some (.int (x7)), some (.int (x8)), none], [va_rf (sm_rv M x0 13)])) rfl ⟨trivial, sm_K.g (kH_0 hS hx0) (sm_sh.rf _), trivial⟩ ?_
      refine sm_w.fld (rH_13 hS hx0) ?_
      obtain ⟨c5, h⟩ := h
      refine sm_w.run t90 sr90 55 6 (M2 := M) (f2 := (if ((iV M (x0 + 9) x8.toNatClampNeg) &&& (1 : Int32)) = (1 : Int32) then 107 else 111, [some (.ref x0), none, some (.int (x2)), none, some (.ref x4), none, some (.int (x6)), some (.int (x7)), some (.int (x8)), none], [])) rfl ⟨trivial, sm_K.a2 (kH_9 hS hx0) (lH_9 hS hx0) c5, trivial, trivial, trivial, trivial, trivial⟩ ?_
      refine sm_w.ite (fun hc => ?_) (fun hc => ?_)
      · have h := h.1 hc
        refine sm_w.run t90 sr90 61 2 (M2 := M) (f2 := (123, [some (.ref x0), none, some (.int (x2)), none, some (.ref x4), none, some (.int (x6)), some (.int (x7)), some (.int (x8)), none], [.int ((1 : Int32))])) rfl ⟨trivial, trivial, trivial⟩ ?_
        refine sm_w.run t90 sr90 69 3 (M2 := M) (f2 := (if (1 : Int32) = 0 then 138 else 130, [some (.ref x0), none, some (.int (x2)), none, some (.ref x4), none, some (.int (x6)), some (.int (x7)), some (.int (x8)), some (.int ((1 : Int32)))], [])) rfl ⟨(Nat.le_of_ble_eq_true rfl), trivial, trivial, trivial⟩ ?_
        rw [if_neg (by decide)]
        obtain ⟨c6, h⟩ := h
        refine sm_w.run t90 sr90 72 6 (M2 := sm_wI M x4 (x2 + x8).toNatClampNeg (1 : Int32)) (f2 := (138, [some (.ref x0), none, some (.int (x2)), none, some (.ref x4), none, some (.int (x6)), some (.int (x7)), some (.int (x8)), some (.int ((1 : Int32)))], [])) rfl ⟨trivial, trivial, trivial, trivial, trivial, sm_K.s2 (hx4.K hS) (hx4.L hS) c6, trivial⟩ ?_
        have hS8 : SH (sm_wI M x4 (x2 + x8).toNatClampNeg (1 : Int32)) := SH.wI hS _ _ _
        have h := h _ hS8 rfl
        generalize sm_wI M x4 (x2 + x8).toNatClampNeg (1 : Int32) = M7 at h hS8 ⊢
        refine sm_w.run t90 sr90 78 2 (M2 := M7) (f2 := (82, [some (.ref x0), none, some (.int (x2)), none, some (.ref x4), none, some (.int (x6)), some (.int (x7)), some (.int (x8 + (1 : Int32))), some (.int ((1 : Int32)))], [])) rfl ⟨(Nat.le_of_ble_eq_true rfl), trivial, trivial⟩ ?_
        refine sm_w.weak (ls := [some (.ref x0), none, some (.int (x2)), none, some (.ref x4), none, some (.int (x6)), some (.int (x7)), some (.int (x8 + (1 : Int32))), none]) (sm_leI [true, false, true, false, true, false, true, true, true, false] rfl) ?_
        exact h
      · have h := h.2 hc
        refine sm_w.run t90 sr90 63 2 (M2 := M) (f2 := (123, [some (.ref x0), none, some (.int (x2)), none, some (.ref x4), none, some (.int (x6)), some (.int (x7)), some (.int (x8)), none], [.int ((0 : Int32))])) rfl ⟨trivial, trivial, trivial⟩ ?_
        refine sm_w.run t90 sr90 69 3 (M2 := M) (f2 := (if (0 : Int32) = 0 then 138 else 130, [some (.ref x0), none, some (.int (x2)), none, some (.ref x4), none, some (.int (x6)), some (.int (x7)), some (.int (x8)), some (.int ((0 : Int32)))], [])) rfl ⟨(Nat.le_of_ble_eq_true rfl), trivial, trivial, trivial⟩ ?_
        rw [if_pos (by decide)]
        refine sm_w.run t90 sr90 78 2 (M2 := M) (f2 := (82, [some (.ref x0), none, some (.int (x2)), none, some (.ref x4), none, some (.int (x6)), some (.int (x7)), some (.int (x8 + (1 : Int32))), some (.int ((0 : Int32)))], [])) rfl ⟨(Nat.le_of_ble_eq_true rfl), trivial, trivial⟩ ?_
        refine sm_w.weak (ls := [some (.ref x0), none, some (.int (x2)), none, some (.ref x4), none, some (.int (x6)), some (.int (x7)), some (.int (x8 + (1 : Int32))), none]) (sm_leI [true, false, true, false, true, false, true, true, true, false] rfl) ?_
        exact h
