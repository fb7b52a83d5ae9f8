/-! METHODS by their segments. -/
-- 97 LineSetter$Breaks.fill([ILLineSetter$Font;)V
theorem t97 : sP 97 = (6, sp_97, sh_97) := rfl
theorem sr97 : sm_srt sp_97 = true := by decide +kernel
theorem g97_0 {M : sm_M} {x0 : Nat} {x1 : Nat} {nx1 : Nat} {x2 : Nat} {K : sm_M → Prop} (hS : SH M) (hx0 : fK x0) (hx1 : sA x1 0 nx1) (hx2 : fF x2) (h : ∀ M1, SH M1 → M1 = sm_wI M x0 3 (0 : Int32) → ∀ M3, SH M3 → M3 = sm_wJ M1 x0 12 (0 : Int64) → sm_w 97 (15, [some (.ref x0), some (.ref x1), some (.ref x2), some (.int ((0 : Int32))), some (.int ((1 : Int32))), none], []) M3 (rV K)) : sm_w 97 (sm_in sP 97 [.ref x0, .ref x1, .ref x2]) M (rV K) := by
  show sm_w 97 (0, [some (.ref x0), some (.ref x1), some (.ref x2), none, none, none], []) M (rV K)
  refine sm_w.run t97 sr97 0 3 (M2 := sm_wI M x0 3 (0 : Int32)) (f2 := (5, [some (.ref x0), some (.ref x1), some (.ref x2), none, none, none], [])) rfl ⟨trivial, trivial, ⟨(sm_K.p (kK_0 hS hx0) (sm_sh.rf _)).1, (sm_K.p (kK_0 hS hx0) (sm_sh.rf _)).2.1, (sm_K.p (kK_0 hS hx0) (sm_sh.rf _)).2.2, Or.inl rfl⟩, trivial⟩ ?_
  have hS2 : SH (sm_wI M x0 3 (0 : Int32)) := SH.wI hS _ _ _
  have h := h _ hS2 rfl
  generalize sm_wI M x0 3 (0 : Int32) = M1 at h hS2 ⊢
  refine sm_w.run t97 sr97 3 3 (M2 := sm_wJ M1 x0 12 (0 : Int64)) (f2 := (10, [some (.ref x0), some (.ref x1), some (.ref x2), none, none, none], [])) rfl ⟨trivial, trivial, ⟨(sm_K.p (kK_0 hS2 hx0) (sm_sh.rf _)).1, (sm_K.p (kK_0 hS2 hx0) (sm_sh.rf _)).2.1, (sm_K.p (kK_0 hS2 hx0) (sm_sh.rf _)).2.2, rfl⟩, trivial⟩ ?_
  have hS4 : SH (sm_wJ M1 x0 12 (0 : Int64)) := SH.wJ hS2 _ _ _
  have h := h _ hS4 rfl
  generalize sm_wJ M1 x0 12 (0 : Int64) = M3 at h hS4 ⊢
  refine sm_w.run t97 sr97 6 4 (M2 := M3) (f2 := (15, [some (.ref x0), some (.ref x1), some (.ref x2), some (.int ((0 : Int32))), some (.int ((1 : Int32))), none], [])) rfl ⟨trivial, (Nat.le_of_ble_eq_true rfl), trivial, (Nat.le_of_ble_eq_true rfl), trivial⟩ ?_
  exact h
theorem g97_1 {M : sm_M} {x0 : Nat} {x1 : Nat} {nx1 : Nat} {x2 : Nat} {x3 : Int32} {x4 : Int32} {K : sm_M → Prop} (hS : SH M) (hx0 : fK x0) (hx1 : sA x1 0 nx1) (hx2 : fF x2) (h : (((iV M x0 1) < x4 → K M) ∧ (¬ (iV M x0 1) < x4 → (((Int32.ofNat nx1) < x4 → K M) ∧ (¬ (Int32.ofNat nx1) < x4 → (vp_in x4 4001) ∧ (((iV M (x0 + 2) x4.toNatClampNeg) = (-1 : Int32) → sm_w 97 (15, [some (.ref x0), some (.ref x1), some (.ref x2), some (.int (x3)), some (.int (x4 + (1 : Int32))), none], []) M (rV K)) ∧ (¬ (iV M (x0 + 2) x4.toNatClampNeg) = (-1 : Int32) → (vp_in x4 4001) ∧ (((iV M (x0 + 2) x4.toNatClampNeg) = (1 : Int32) → (vp_in (x4 - (1 : Int32)) nx1) ∧ (q98_0 M x2 (45 : Int32) (iV M x1 (x4 - (1 : Int32)).toNatClampNeg)) ∧ (vp_in x4 4001) ∧ sm_cJ 100 [.ref x2, .ref (x0 + 1), .ref x1, .int (x3), .int (x4)] M (fun v7 M6 => SH M6 → sm_cV 102 [.ref x0, .int (iV M (x0 + 2) x4.toNatClampNeg), .int (x4), .long (v7), .int (p98_0 M x2 (45 : Int32) (iV M x1 (x4 - (1 : Int32)).toNatClampNeg))] M6 (fun M9 => SH M9 → (vp_in x4 4001) ∧ (((iV M9 (x0 + 2) x4.toNatClampNeg) = 0 → (((Int32.ofNat nx1) ≤ x4 → sm_w 97 (15, [some (.ref x0), some (.ref x1), some (.ref x2), some (.int (x4)), some (.int (x4 + (1 : Int32))), none], []) M9 (rV K)) ∧ (¬ (Int32.ofNat nx1) ≤ x4 → (vp_in x4 nx1) ∧ (q98_0 M9 x2 (32 : Int32) (iV M9 x1 x4.toNatClampNeg)) ∧ (vp_in (iV M9 x0 3) 601) ∧ ∀ M19, SH M19 → M19 = sm_wI M9 (x0 + 6) (iV M9 x0 3).toNatClampNeg ((iV M9 (x0 + 6) (iV M9 x0 3).toNatClampNeg) + (1 : Int32)) → (vp_in (iV M19 x0 3) 601) ∧ ∀ M22, SH M22 → M22 = sm_wJ M19 (x0 + 8) (iV M19 x0 3).toNatClampNeg ((jV M19 (x0 + 8) (iV M19 x0 3).toNatClampNeg) + ((p98_0 M9 x2 (32 : Int32) (iV M9 x1 x4.toNatClampNeg)).toInt64)) → (vp_in (iV M22 x0 3) 601) ∧ ∀ M25, SH M25 → M25 = sm_wJ M22 (x0 + 9) (iV M22 x0 3).toNatClampNeg ((jV M22 (x0 + 9) (iV M22 x0 3).toNatClampNeg) + (((p98_0 M9 x2 (32 : Int32) (iV M9 x1 x4.toNatClampNeg)) / (2 : Int32)).toInt64)) → (vp_in (iV M25 x0 3) 601) ∧ ∀ M28, SH M28 → M28 = sm_wJ M25 (x0 + 10) (iV M25 x0 3).toNatClampNeg ((jV M25 (x0 + 10) (iV M25 x0 3).toNatClampNeg) + (((p98_0 M9 x2 (32 : Int32) (iV M9 x1 x4.toNatClampNeg)) / (3 : Int32)).toInt64)) → sm_w 97 (15, [some (.ref x0), some (.ref x1), some (.ref x2), some (.int (x4 + (1 : Int32))), some (.int (x4 + (1 : Int32))), none], []) M28 (rV K)))) ∧ (¬ (iV M9 (x0 + 2) x4.toNatClampNeg) = 0 → sm_w 97 (15, [some (.ref x0), some (.ref x1), some (.ref x2), some (.int (x4)), some (.int (x4 + (1 : Int32))), none], []) M9 (rV K)))))) ∧ (¬ (iV M (x0 + 2) x4.toNatClampNeg) = (1 : Int32) → (vp_in x4 4001) ∧ sm_cJ 100 [.ref x2, .ref (x0 + 1), .ref x1, .int (x3), .int (x4)] M (fun v32 M31 => SH M31 → sm_cV 102 [.ref x0, .int (iV M (x0 + 2) x4.toNatClampNeg), .int (x4), .long (v32), .int ((0 : Int32))] M31 (fun M34 => SH M34 → (vp_in x4 4001) ∧ (((iV M34 (x0 + 2) x4.toNatClampNeg) = 0 → (((Int32.ofNat nx1) ≤ x4 → sm_w 97 (15, [some (.ref x0), some (.ref x1), some (.ref x2), some (.int (x4)), some (.int (x4 + (1 : Int32))), none], []) M34 (rV K)) ∧ (¬ (Int32.ofNat nx1) ≤ x4 → (vp_in x4 nx1) ∧ (q98_0 M34 x2 (32 : Int32) (iV M34 x1 x4.toNatClampNeg)) ∧ (vp_in (iV M34 x0 3) 601) ∧ ∀ M44, SH M44 → M44 = sm_wI M34 (x0 + 6) (iV M34 x0 3).toNatClampNeg ((iV M34 (x0 + 6) (iV M34 x0 3).toNatClampNeg) + (1 : Int32)) → (vp_in (iV M44 x0 3) 601) ∧ ∀ M47, SH M47 → M47 = sm_wJ M44 (x0 + 8) (iV M44 x0 3).toNatClampNeg ((jV M44 (x0 + 8) (iV M44 x0 3).toNatClampNeg) + ((p98_0 M34 x2 (32 : Int32) (iV M34 x1 x4.toNatClampNeg)).toInt64)) → (vp_in (iV M47 x0 3) 601) ∧ ∀ M50, SH M50 → M50 = sm_wJ M47 (x0 + 9) (iV M47 x0 3).toNatClampNeg ((jV M47 (x0 + 9) (iV M47 x0 3).toNatClampNeg) + (((p98_0 M34 x2 (32 : Int32) (iV M34 x1 x4.toNatClampNeg)) / (2 : Int32)).toInt64)) → (vp_in (iV M50 x0 3) 601) ∧ ∀ M53, SH M53 → M53 = sm_wJ M50 (x0 + 10) (iV M50 x0 3).toNatClampNeg ((jV M50 (x0 + 10) (iV M50 x0 3).toNatClampNeg) + (((p98_0 M34 x2 (32 : Int32) (iV M34 x1 x4.toNatClampNeg)) / (3 : Int32)).toInt64)) → sm_w 97 (15, [some (.ref x0), some (.ref x1), some (.ref x2), some (.int (x4 + (1 : Int32))), some (.int (x4 + (1 : Int32))), none], []) M53 (rV K)))) ∧ (¬ (iV M34 (x0 + 2) x4.toNatClampNeg) = 0 → sm_w 97 (15, [some (.ref x0), some (.ref x1), some (.ref x2), some (.int (x4)), some (.int (x4 + (1 : Int32))), none], []) M34 (rV K)))))))))))))) : sm_w 97 (15, [some (.ref x0), some (.ref x1), some (.ref x2), some (.int (x3)), some (.int (x4)), none], []) M (rV K) := by
  refine sm_w.run t97 sr97 10 4 (M2 := M) (f2 := (if (iV M x0 1) < x4 then 143 else 24, [some (.ref x0), some (.ref x1), some (.ref x2), some (.int (x3)), some (.int (x4)), none], [])) rfl ⟨trivial, trivial, sm_K.g (kK_0 hS hx0) (sm_sh.rf _), trivial, trivial⟩ ?_
  refine sm_w.ite (fun hc => ?_) (fun hc => ?_)
  · have h := h.1 hc
    exact sm_w.end t97 sr97 81 (o := .returned none) (M2 := M) rfl trivial (by decide) (⟨rfl, h⟩)
  · have h := h.2 hc
    refine sm_w.run t97 sr97 14 3 (M2 := M) (f2 := (28, [some (.ref x0), some (.ref x1), some (.ref x2), some (.int (x3)), some (.int (x4)), none], [.int (Int32.ofNat (sm_ln M x1)), .int (x4)])) rfl ⟨trivial, trivial, sm_K.l (hx1.K hS) (sm_sh.rf _) (by decide), trivial⟩ ?_
    refine sm_w.aln (hx1.L hS) ?_
    refine sm_w.run t97 sr97 17 1 (M2 := M) (f2 := (if (Int32.ofNat nx1) < x4 then 143 else 31, [some (.ref x0), some (.ref x1), some (.ref x2), some (.int (x3)), some (.int (x4)), none], [])) rfl ⟨trivial, trivial⟩ ?_
    refine sm_w.ite (fun hc => ?_) (fun hc => ?_)
    · have h := h.1 hc
      exact sm_w.end t97 sr97 81 (o := .returned none) (M2 := M) rfl trivial (by decide) (⟨rfl, h⟩)
    · have h := h.2 hc
      refine sm_w.run t97 sr97 18 2 (M2 := M) (f2 := (35, [some (.ref x0), some (.ref x1), some (.ref x2), some (.int (x3)), some (.int (x4)), none], [va_rf (sm_rv M x0 2)])) rfl ⟨trivial, sm_K.g (kK_0 hS hx0) (sm_sh.rf _), trivial⟩ ?_
      refine sm_w.fld (rK_2 hS hx0) ?_
      obtain ⟨c1, h⟩ := h
      refine sm_w.run t97 sr97 20 4 (M2 := M) (f2 := (if (iV M (x0 + 2) x4.toNatClampNeg) = (-1 : Int32) then 137 else 42, [some (.ref x0), some (.ref x1), some (.ref x2), some (.int (x3)), some (.int (x4)), none], [])) rfl ⟨trivial, sm_K.a2 (kK_2 hS hx0) (lK_2 hS hx0) c1, trivial, trivial, trivial⟩ ?_
      refine sm_w.ite (fun hc => ?_) (fun hc => ?_)
      · have h := h.1 hc
        refine sm_w.run t97 sr97 79 2 (M2 := M) (f2 := (15, [some (.ref x0), some (.ref x1), some (.ref x2), some (.int (x3)), some (.int (x4 + (1 : Int32))), none], [])) rfl ⟨(Nat.le_of_ble_eq_true rfl), trivial, trivial⟩ ?_
        exact h
      · have h := h.2 hc
        refine sm_w.run t97 sr97 24 2 (M2 := M) (f2 := (46, [some (.ref x0), some (.ref x1), some (.ref x2), some (.int (x3)), some (.int (x4)), none], [va_rf (sm_rv M x0 2)])) rfl ⟨trivial, sm_K.g (kK_0 hS hx0) (sm_sh.rf _), trivial⟩ ?_
        refine sm_w.fld (rK_2 hS hx0) ?_
        obtain ⟨c2, h⟩ := h
        refine sm_w.run t97 sr97 26 4 (M2 := M) (f2 := (if (iV M (x0 + 2) x4.toNatClampNeg) = (1 : Int32) then 53 else 68, [some (.ref x0), some (.ref x1), some (.ref x2), some (.int (x3)), some (.int (x4)), none], [])) rfl ⟨trivial, sm_K.a2 (kK_2 hS hx0) (lK_2 hS hx0) c2, trivial, trivial, trivial⟩ ?_
        refine sm_w.ite (fun hc => ?_) (fun hc => ?_)
        · have h := h.1 hc
          obtain ⟨c3, c4, h⟩ := h
          refine sm_w.run t97 sr97 30 7 (M2 := M) (f2 := (62, [some (.ref x0), some (.ref x1), some (.ref x2), some (.int (x3)), some (.int (x4)), none], [.int (iV M x1 (x4 - (1 : Int32)).toNatClampNeg), .int ((45 : Int32)), .ref x2])) rfl ⟨trivial, trivial, trivial, trivial, trivial, trivial, sm_K.a2 (hx1.K hS) (hx1.L hS) c3, trivial⟩ ?_
          refine sm_w.cI t97 sr97 37 (i := 98) (as := [.ref x2, .int ((45 : Int32)), .int (iV M x1 (x4 - (1 : Int32)).toNatClampNeg)]) (g := (62, [some (.ref x0), some (.ref x1), some (.ref x2), some (.int (x3)), some (.int (x4)), none], [])) rfl ⟨by decide, by decide, (Nat.le_of_ble_eq_true rfl), (sm_K.g (kF_0 hS hx2) (sm_sh.rf _)).1, (sm_K.g (kF_0 hS hx2) (sm_sh.rf _)).2, (Nat.le_of_ble_eq_true rfl)⟩ (Nat.le_of_ble_eq_true rfl) (by decide) (p98_c hS hx2 c4) (fun vz M2 hz => ?_)
          obtain ⟨hz1, hz2⟩ := hz
          subst hz1
          have hz2 := hz2.symm
          subst hz2
          refine sm_w.run t97 sr97 38 1 (M2 := M) (f2 := (69, [some (.ref x0), some (.ref x1), some (.ref x2), some (.int (x3)), some (.int (x4)), none], [.int (p98_0 M x2 (45 : Int32) (iV M x1 (x4 - (1 : Int32)).toNatClampNeg))])) rfl ⟨trivial, trivial⟩ ?_
          refine sm_w.run t97 sr97 40 4 (M2 := M) (f2 := (76, [some (.ref x0), some (.ref x1), some (.ref x2), some (.int (x3)), some (.int (x4)), some (.int (p98_0 M x2 (45 : Int32) (iV M x1 (x4 - (1 : Int32)).toNatClampNeg)))], [va_rf (sm_rv M x0 2), .ref x0])) rfl ⟨(Nat.le_of_ble_eq_true rfl), trivial, trivial, sm_K.g (kK_0 hS hx0) (sm_sh.rf _), trivial⟩ ?_
          refine sm_w.fld (rK_2 hS hx0) ?_
          obtain ⟨c5, h⟩ := h
          refine sm_w.run t97 sr97 44 6 (M2 := M) (f2 := (86, [some (.ref x0), some (.ref x1), some (.ref x2), some (.int (x3)), some (.int (x4)), some (.int (p98_0 M x2 (45 : Int32) (iV M x1 (x4 - (1 : Int32)).toNatClampNeg)))], [va_rf (sm_rv M x0 0), .ref x2, .int (x4), .int (iV M (x0 + 2) x4.toNatClampNeg), .ref x0])) rfl ⟨trivial, sm_K.a2 (kK_2 hS hx0) (lK_2 hS hx0) c5, trivial, trivial, trivial, sm_K.g (kK_0 hS hx0) (sm_sh.rf _), trivial⟩ ?_
          refine sm_w.fld (rK_0 hS hx0) ?_
          refine sm_w.run t97 sr97 50 3 (M2 := M) (f2 := (90, [some (.ref x0), some (.ref x1), some (.ref x2), some (.int (x3)), some (.int (x4)), some (.int (p98_0 M x2 (45 : Int32) (iV M x1 (x4 - (1 : Int32)).toNatClampNeg)))], [.int (x4), .int (x3), .ref x1, .ref (x0 + 1), .ref x2, .int (x4), .int (iV M (x0 + 2) x4.toNatClampNeg), .ref x0])) rfl ⟨trivial, trivial, trivial, trivial⟩ ?_
          refine sm_w.cJ t97 sr97 53 (i := 100) (as := [.ref x2, .ref (x0 + 1), .ref x1, .int (x3), .int (x4)]) (g := (90, [some (.ref x0), some (.ref x1), some (.ref x2), some (.int (x3)), some (.int (x4)), some (.int (p98_0 M x2 (45 : Int32) (iV M x1 (x4 - (1 : Int32)).toNatClampNeg)))], [.int (x4), .int (iV M (x0 + 2) x4.toNatClampNeg), .ref x0])) rfl ⟨by decide, by decide, (Nat.le_of_ble_eq_true rfl), (sm_K.g (kF_0 hS hx2) (sm_sh.rf _)).1, (sm_K.g (kF_0 hS hx2) (sm_sh.rf _)).2, (Nat.le_of_ble_eq_true rfl)⟩ (Nat.le_of_ble_eq_true rfl) (by decide) (sm_cJ.s (by decide) hS h) (fun v7 M6 h => ?_)
          obtain ⟨hS8, h⟩ := h
          refine sm_w.run t97 sr97 54 1 (M2 := M6) (f2 := (95, [some (.ref x0), some (.ref x1), some (.ref x2), some (.int (x3)), some (.int (x4)), some (.int (p98_0 M x2 (45 : Int32) (iV M x1 (x4 - (1 : Int32)).toNatClampNeg)))], [.int (p98_0 M x2 (45 : Int32) (iV M x1 (x4 - (1 : Int32)).toNatClampNeg)), .long (v7), .int (x4), .int (iV M (x0 + 2) x4.toNatClampNeg), .ref x0])) rfl ⟨trivial, trivial⟩ ?_
          refine sm_w.cV t97 sr97 55 (i := 102) (as := [.ref x0, .int (iV M (x0 + 2) x4.toNatClampNeg), .int (x4), .long (v7), .int (p98_0 M x2 (45 : Int32) (iV M x1 (x4 - (1 : Int32)).toNatClampNeg))]) (g := (95, [some (.ref x0), some (.ref x1), some (.ref x2), some (.int (x3)), some (.int (x4)), some (.int (p98_0 M x2 (45 : Int32) (iV M x1 (x4 - (1 : Int32)).toNatClampNeg)))], [])) rfl ⟨by decide, by decide, (Nat.le_of_ble_eq_true rfl), (sm_K.g (kK_0 hS8 hx0) (sm_sh.rf _)).1, (sm_K.g (kK_0 hS8 hx0) (sm_sh.rf _)).2, (Nat.le_of_ble_eq_true rfl)⟩ (Nat.le_of_ble_eq_true rfl) (by decide) (sm_cV.s (by decide) hS8 h) (fun M9 h => ?_)
          obtain ⟨hS11, h⟩ := h
          refine sm_w.run t97 sr97 56 4 (M2 := M9) (f2 := (105, [some (.ref x0), some (.ref x1), some (.ref x2), some (.int (x4)), some (.int (x4)), some (.int (p98_0 M x2 (45 : Int32) (iV M x1 (x4 - (1 : Int32)).toNatClampNeg)))], [va_rf (sm_rv M9 x0 2)])) rfl ⟨trivial, (Nat.le_of_ble_eq_true rfl), trivial, sm_K.g (kK_0 hS11 hx0) (sm_sh.rf _), trivial⟩ ?_
          refine sm_w.fld (rK_2 hS11 hx0) ?_
          obtain ⟨c12, h⟩ := h
          refine sm_w.run t97 sr97 60 3 (M2 := M9) (f2 := (if (iV M9 (x0 + 2) x4.toNatClampNeg) = 0 then 111 else 137, [some (.ref x0), some (.ref x1), some (.ref x2), some (.int (x4)), some (.int (x4)), some (.int (p98_0 M x2 (45 : Int32) (iV M x1 (x4 - (1 : Int32)).toNatClampNeg)))], [])) rfl ⟨trivial, sm_K.a2 (kK_2 hS11 hx0) (lK_2 hS11 hx0) c12, trivial, trivial⟩ ?_
          refine sm_w.ite (fun hc => ?_) (fun hc => ?_)
          · have h := h.1 hc
            refine sm_w.run t97 sr97 63 3 (M2 := M9) (f2 := (115, [some (.ref x0), some (.ref x1), some (.ref x2), some (.int (x4)), some (.int (x4)), some (.int (p98_0 M x2 (45 : Int32) (iV M x1 (x4 - (1 : Int32)).toNatClampNeg)))], [.int (Int32.ofNat (sm_ln M9 x1)), .int (x4)])) rfl ⟨trivial, trivial, sm_K.l (hx1.K hS11) (sm_sh.rf _) (by decide), trivial⟩ ?_
            refine sm_w.aln (hx1.L hS11) ?_
            refine sm_w.run t97 sr97 66 1 (M2 := M9) (f2 := (if (Int32.ofNat nx1) ≤ x4 then 137 else 118, [some (.ref x0), some (.ref x1), some (.ref x2), some (.int (x4)), some (.int (x4)), some (.int (p98_0 M x2 (45 : Int32) (iV M x1 (x4 - (1 : Int32)).toNatClampNeg)))], [])) rfl ⟨trivial, trivial⟩ ?_
            refine sm_w.ite (fun hc => ?_) (fun hc => ?_)
            · have h := h.1 hc
              refine sm_w.run t97 sr97 79 2 (M2 := M9) (f2 := (15, [some (.ref x0), some (.ref x1), some (.ref x2), some (.int (x4)), some (.int (x4 + (1 : Int32))), some (.int (p98_0 M x2 (45 : Int32) (iV M x1 (x4 - (1 : Int32)).toNatClampNeg)))], [])) rfl ⟨(Nat.le_of_ble_eq_true rfl), trivial, trivial⟩ ?_
              refine sm_w.weak (ls := [some (.ref x0), some (.ref x1), some (.ref x2), some (.int (x4)), some (.int (x4 + (1 : Int32))), none]) (sm_leI [true, true, true, true, true, false] rfl) ?_
              exact h
            · have h := h.2 hc
              obtain ⟨c13, c14, h⟩ := h
              refine sm_w.run t97 sr97 67 6 (M2 := M9) (f2 := (126, [some (.ref x0), some (.ref x1), some (.ref x2), some (.int (x4)), some (.int (x4)), some (.int (p98_0 M x2 (45 : Int32) (iV M x1 (x4 - (1 : Int32)).toNatClampNeg)))], [.int (iV M9 x1 x4.toNatClampNeg), .int ((32 : Int32)), .ref x2, .ref x0])) rfl ⟨trivial, trivial, trivial, trivial, trivial, sm_K.a2 (hx1.K hS11) (hx1.L hS11) c13, trivial⟩ ?_
              refine sm_w.cI t97 sr97 73 (i := 98) (as := [.ref x2, .int ((32 : Int32)), .int (iV M9 x1 x4.toNatClampNeg)]) (g := (126, [some (.ref x0), some (.ref x1), some (.ref x2), some (.int (x4)), some (.int (x4)), some (.int (p98_0 M x2 (45 : Int32) (iV M x1 (x4 - (1 : Int32)).toNatClampNeg)))], [.ref x0])) rfl ⟨by decide, by decide, (Nat.le_of_ble_eq_true rfl), (sm_K.g (kF_0 hS11 hx2) (sm_sh.rf _)).1, (sm_K.g (kF_0 hS11 hx2) (sm_sh.rf _)).2, (Nat.le_of_ble_eq_true rfl)⟩ (Nat.le_of_ble_eq_true rfl) (by decide) (p98_c hS11 hx2 c14) (fun vz M2 hz => ?_)
              obtain ⟨hz1, hz2⟩ := hz
              subst hz1
              have hz2 := hz2.symm
              subst hz2
              refine sm_w.cV t97 sr97 74 (i := 103) (as := [.ref x0, .int (p98_0 M9 x2 (32 : Int32) (iV M9 x1 x4.toNatClampNeg))]) (g := (129, [some (.ref x0), some (.ref x1), some (.ref x2), some (.int (x4)), some (.int (x4)), some (.int (p98_0 M x2 (45 : Int32) (iV M x1 (x4 - (1 : Int32)).toNatClampNeg)))], [])) rfl ⟨by decide, by decide, (Nat.le_of_ble_eq_true rfl), (sm_K.g (kK_0 hS11 hx0) (sm_sh.rf _)).1, (sm_K.g (kK_0 hS11 hx0) (sm_sh.rf _)).2, (Nat.le_of_ble_eq_true rfl)⟩ (Nat.le_of_ble_eq_true rfl) (by decide) (sm_cV.s2 (by decide) hS11 (g103_0 (K := fun M15 => sm_w 97 (15, [some (.ref x0), some (.ref x1), some (.ref x2), some (.int (x4 + (1 : Int32))), some (.int (x4 + (1 : Int32))), none], []) M15 (rV K)) hS11 hx0 h)) (fun M15 h => ?_)
              obtain ⟨hS17, h⟩ := h
              refine sm_w.run t97 sr97 75 6 (M2 := M15) (f2 := (15, [some (.ref x0), some (.ref x1), some (.ref x2), some (.int (x4 + (1 : Int32))), some (.int (x4 + (1 : Int32))), some (.int (p98_0 M x2 (45 : Int32) (iV M x1 (x4 - (1 : Int32)).toNatClampNeg)))], [])) rfl ⟨trivial, trivial, trivial, (Nat.le_of_ble_eq_true rfl), (Nat.le_of_ble_eq_true rfl), trivial, trivial⟩ ?_
              refine sm_w.weak (ls := [some (.ref x0), some (.ref x1), some (.ref x2), some (.int (x4 + (1 : Int32))), some (.int (x4 + (1 : Int32))), none]) (sm_leI [true, true, true, true, true, false] rfl) ?_
              exact h
          · have h := h.2 hc
            refine sm_w.run t97 sr97 79 2 (M2 := M9) (f2 := (15, [some (.ref x0), some (.ref x1), some (.ref x2), some (.int (x4)), some (.int (x4 + (1 : Int32))), some (.int (p98_0 M x2 (45 : Int32) (iV M x1 (x4 - (1 : Int32)).toNatClampNeg)))], [])) rfl ⟨(Nat.le_of_ble_eq_true rfl), trivial, trivial⟩ ?_
            refine sm_w.weak (ls := [some (.ref x0), some (.ref x1), some (.ref x2), some (.int (x4)), some (.int (x4 + (1 : Int32))), none]) (sm_leI [true, true, true, true, true, false] rfl) ?_
            exact h
        · have h := h.2 hc
          refine sm_w.run t97 sr97 39 5 (M2 := M) (f2 := (76, [some (.ref x0), some (.ref x1), some (.ref x2), some (.int (x3)), some (.int (x4)), some (.int ((0 : Int32)))], [va_rf (sm_rv M x0 2), .ref x0])) rfl ⟨trivial, (Nat.le_of_ble_eq_true rfl), trivial, trivial, sm_K.g (kK_0 hS hx0) (sm_sh.rf _), trivial⟩ ?_
          refine sm_w.fld (rK_2 hS hx0) ?_
          obtain ⟨c30, h⟩ := h
          refine sm_w.run t97 sr97 44 6 (M2 := M) (f2 := (86, [some (.ref x0), some (.ref x1), some (.ref x2), some (.int (x3)), some (.int (x4)), some (.int ((0 : Int32)))], [va_rf (sm_rv M x0 0), .ref x2, .int (x4), .int (iV M (x0 + 2) x4.toNatClampNeg), .ref x0])) rfl ⟨trivial, sm_K.a2 (kK_2 hS hx0) (lK_2 hS hx0) c30, trivial, trivial, trivial, sm_K.g (kK_0 hS hx0) (sm_sh.rf _), trivial⟩ ?_
          refine sm_w.fld (rK_0 hS hx0) ?_
          refine sm_w.run t97 sr97 50 3 (M2 := M) (f2 := (90, [some (.ref x0), some (.ref x1), some (.ref x2), some (.int (x3)), some (.int (x4)), some (.int ((0 : Int32)))], [.int (x4), .int (x3), .ref x1, .ref (x0 + 1), .ref x2, .int (x4), .int (iV M (x0 + 2) x4.toNatClampNeg), .ref x0])) rfl ⟨trivial, trivial, trivial, trivial⟩ ?_
          refine sm_w.cJ t97 sr97 53 (i := 100) (as := [.ref x2, .ref (x0 + 1), .ref x1, .int (x3), .int (x4)]) (g := (90, [some (.ref x0), some (.ref x1), some (.ref x2), some (.int (x3)), some (.int (x4)), some (.int ((0 : Int32)))], [.int (x4), .int (iV M (x0 + 2) x4.toNatClampNeg), .ref x0])) rfl ⟨by decide, by decide, (Nat.le_of_ble_eq_true rfl), (sm_K.g (kF_0 hS hx2) (sm_sh.rf _)).1, (sm_K.g (kF_0 hS hx2) (sm_sh.rf _)).2, (Nat.le_of_ble_eq_true rfl)⟩ (Nat.le_of_ble_eq_true rfl) (by decide) (sm_cJ.s (by decide) hS h) (fun v32 M31 h => ?_)
          obtain ⟨hS33, h⟩ := h
          refine sm_w.run t97 sr97 54 1 (M2 := M31) (f2 := (95, [some (.ref x0), some (.ref x1), some (.ref x2), some (.int (x3)), some (.int (x4)), some (.int ((0 : Int32)))], [.int ((0 : Int32)), .long (v32), .int (x4), .int (iV M (x0 + 2) x4.toNatClampNeg), .ref x0])) rfl ⟨trivial, trivial⟩ ?_
          refine sm_w.cV t97 sr97 55 (i := 102) (as := [.ref x0, .int (iV M (x0 + 2) x4.toNatClampNeg), .int (x4), .long (v32), .int ((0 : Int32))]) (g := (95, [some (.ref x0), some (.ref x1), some (.ref x2), some (.int (x3)), some (.int (x4)), some (.int ((0 : Int32)))], [])) rfl ⟨by decide, by decide, (Nat.le_of_ble_eq_true rfl), (sm_K.g (kK_0 hS33 hx0) (sm_sh.rf _)).1, (sm_K.g (kK_0 hS33 hx0) (sm_sh.rf _)).2, (Nat.le_of_ble_eq_true rfl)⟩ (Nat.le_of_ble_eq_true rfl) (by decide) (sm_cV.s (by decide) hS33 h) (fun M34 h => ?_)
          obtain ⟨hS36, h⟩ := h
          refine sm_w.run t97 sr97 56 4 (M2 := M34) (f2 := (105, [some (.ref x0), some (.ref x1), some (.ref x2), some (.int (x4)), some (.int (x4)), some (.int ((0 : Int32)))], [va_rf (sm_rv M34 x0 2)])) rfl ⟨trivial, (Nat.le_of_ble_eq_true rfl), trivial, sm_K.g (kK_0 hS36 hx0) (sm_sh.rf _), trivial⟩ ?_
          refine sm_w.fld (rK_2 hS36 hx0) ?_
          obtain ⟨c37, h⟩ := h
          refine sm_w.run t97 sr97 60 3 (M2 := M34) (f2 := (if (iV M34 (x0 + 2) x4.toNatClampNeg) = 0 then 111 else 137, [some (.ref x0), some (.ref x1), some (.ref x2), some (.int (x4)), some (.int (x4)), some (.int ((0 : Int32)))], [])) rfl ⟨trivial, sm_K.a2 (kK_2 hS36 hx0) (lK_2 hS36 hx0) c37, trivial, trivial⟩ ?_
          refine sm_w.ite (fun hc => ?_) (fun hc => ?_)
          · have h := h.1 hc
            refine sm_w.run t97 sr97 63 3 (M2 := M34) (f2 := (115, [some (.ref x0), some (.ref x1), some (.ref x2), some (.int (x4)), some (.int (x4)), some (.int ((0 : Int32)))], [.int (Int32.ofNat (sm_ln M34 x1)), .int (x4)])) rfl ⟨trivial, trivial, sm_K.l (hx1.K hS36) (sm_sh.rf _) (by decide), trivial⟩ ?_
            refine sm_w.aln (hx1.L hS36) ?_
            refine sm_w.run t97 sr97 66 1 (M2 := M34) (f2 := (if (Int32.ofNat nx1) ≤ x4 then 137 else 118, [some (.ref x0), some (.ref x1), some (.ref x2), some (.int (x4)), some (.int (x4)), some (.int ((0 : Int32)))], [])) rfl ⟨trivial, trivial⟩ ?_
            refine sm_w.ite (fun hc => ?_) (fun hc => ?_)
            · have h := h.1 hc
              refine sm_w.run t97 sr97 79 2 (M2 := M34) (f2 := (15, [some (.ref x0), some (.ref x1), some (.ref x2), some (.int (x4)), some (.int (x4 + (1 : Int32))), some (.int ((0 : Int32)))], [])) rfl ⟨(Nat.le_of_ble_eq_true rfl), trivial, trivial⟩ ?_
              refine sm_w.weak (ls := [some (.ref x0), some (.ref x1), some (.ref x2), some (.int (x4)), some (.int (x4 + (1 : Int32))), none]) (sm_leI [true, true, true, true, true, false] rfl) ?_
              exact h
            · have h := h.2 hc
              obtain ⟨c38, c39, h⟩ := h
              refine sm_w.run t97 sr97 67 6 (M2 := M34) (f2 := (126, [some (.ref x0), some (.ref x1), some (.ref x2), some (.int (x4)), some (.int (x4)), some (.int ((0 : Int32)))], [.int (iV M34 x1 x4.toNatClampNeg), .int ((32 : Int32)), .ref x2, .ref x0])) rfl ⟨trivial, trivial, trivial, trivial, trivial, sm_K.a2 (hx1.K hS36) (hx1.L hS36) c38, trivial⟩ ?_
              refine sm_w.cI t97 sr97 73 (i := 98) (as := [.ref x2, .int ((32 : Int32)), .int (iV M34 x1 x4.toNatClampNeg)]) (g := (126, [some (.ref x0), some (.ref x1), some (.ref x2), some (.int (x4)), some (.int (x4)), some (.int ((0 : Int32)))], [.ref x0])) rfl ⟨by decide, by decide, (Nat.le_of_ble_eq_true rfl), (sm_K.g (kF_0 hS36 hx2) (sm_sh.rf _)).1, (sm_K.g (kF_0 hS36 hx2) (sm_sh.rf _)).2, (Nat.le_of_ble_eq_true rfl)⟩ (Nat.le_of_ble_eq_true rfl) (by decide) (p98_c hS36 hx2 c39) (fun vz M2 hz => ?_)
              obtain ⟨hz1, hz2⟩ := hz
              subst hz1
              have hz2 := hz2.symm
              subst hz2
              refine sm_w.cV t97 sr97 74 (i := 103) (as := [.ref x0, .int (p98_0 M34 x2 (32 : Int32) (iV M34 x1 x4.toNatClampNeg))]) (g := (129, [some (.ref x0), some (.ref x1), some (.ref x2), some (.int (x4)), some (.int (x4)), some (.int ((0 : Int32)))], [])) rfl ⟨by decide, by decide, (Nat.le_of_ble_eq_true rfl), (sm_K.g (kK_0 hS36 hx0) (sm_sh.rf _)).1, (sm_K.g (kK_0 hS36 hx0) (sm_sh.rf _)).2, (Nat.le_of_ble_eq_true rfl)⟩ (Nat.le_of_ble_eq_true rfl) (by decide) (sm_cV.s2 (by decide) hS36 (g103_0 (K := fun M40 => sm_w 97 (15, [some (.ref x0), some (.ref x1), some (.ref x2), some (.int (x4 + (1 : Int32))), some (.int (x4 + (1 : Int32))), none], []) M40 (rV K)) hS36 hx0 h)) (fun M40 h => ?_)
              obtain ⟨hS42, h⟩ := h
              refine sm_w.run t97 sr97 75 6 (M2 := M40) (f2 := (15, [some (.ref x0), some (.ref x1), some (.ref x2), some (.int (x4 + (1 : Int32))), some (.int (x4 + (1 : Int32))), some (.int ((0 : Int32)))], [])) rfl ⟨trivial, trivial, trivial, (Nat.le_of_ble_eq_true rfl), (Nat.le_of_ble_eq_true rfl), trivial, trivial⟩ ?_
              refine sm_w.weak (ls := [some (.ref x0), some (.ref x1), some (.ref x2), some (.int (x4 + (1 : Int32))), some (.int (x4 + (1 : Int32))), none]) (sm_leI [true, true, true, true, true, false] rfl) ?_
              exact h
          · have h := h.2 hc
            refine sm_w.run t97 sr97 79 2 (M2 := M34) (f2 := (15, [some (.ref x0), some (.ref x1), some (.ref x2), some (.int (x4)), some (.int (x4 + (1 : Int32))), some (.int ((0 : Int32)))], [])) rfl ⟨(Nat.le_of_ble_eq_true rfl), trivial, trivial⟩ ?_
            refine sm_w.weak (ls := [some (.ref x0), some (.ref x1), some (.ref x2), some (.int (x4)), some (.int (x4 + (1 : Int32))), none]) (sm_leI [true, true, true, true, true, false] rfl) ?_
            exact h
-- 104 LineSetter$Setting.shape(III)V
theorem t104 : sP 104 = (4, sp_104, sh_104) := rfl
theorem sr104 : sm_srt sp_104 = true := by decide +kernel
theorem g104_0 {M : sm_M} {x0 : Nat} {x1 : Int32} {x2 : Int32} {x3 : Int32} {K : sm_M → Prop} (hS : SH M) (hx0 : fS x0) (h : ∀ M1, SH M1 → M1 = sm_wI M x0 1 x1 → ∀ M3, SH M3 → M3 = sm_wI M1 x0 2 x2 → ∀ M5, SH M5 → M5 = sm_wI M3 x0 3 x3 → K M5) : sm_w 104 (sm_in sP 104 [.ref x0, .int (x1), .int (x2), .int (x3)]) M (rV K) := by
  show sm_w 104 (0, [some (.ref x0), some (.int (x1)), some (.int (x2)), some (.int (x3))], []) M (rV K)
  refine sm_w.run t104 sr104 0 3 (M2 := sm_wI M x0 1 x1) (f2 := (5, [some (.ref x0), some (.int (x1)), some (.int (x2)), some (.int (x3))], [])) rfl ⟨trivial, trivial, ⟨(sm_K.p (kS_0 hS hx0) (sm_sh.rf _)).1, (sm_K.p (kS_0 hS hx0) (sm_sh.rf _)).2.1, (sm_K.p (kS_0 hS hx0) (sm_sh.rf _)).2.2, Or.inl rfl⟩, trivial⟩ ?_
  have hS2 : SH (sm_wI M x0 1 x1) := SH.wI hS _ _ _
  have h := h _ hS2 rfl
  generalize sm_wI M x0 1 x1 = M1 at h hS2 ⊢
  refine sm_w.run t104 sr104 3 3 (M2 := sm_wI M1 x0 2 x2) (f2 := (10, [some (.ref x0), some (.int (x1)), some (.int (x2)), some (.int (x3))], [])) rfl ⟨trivial, trivial, ⟨(sm_K.p (kS_0 hS2 hx0) (sm_sh.rf _)).1, (sm_K.p (kS_0 hS2 hx0) (sm_sh.rf _)).2.1, (sm_K.p (kS_0 hS2 hx0) (sm_sh.rf _)).2.2, Or.inl rfl⟩, trivial⟩ ?_
  have hS4 : SH (sm_wI M1 x0 2 x2) := SH.wI hS2 _ _ _
  have h := h _ hS4 rfl
  generalize sm_wI M1 x0 2 x2 = M3 at h hS4 ⊢
  refine sm_w.run t104 sr104 6 3 (M2 := sm_wI M3 x0 3 x3) (f2 := (15, [some (.ref x0), some (.int (x1)), some (.int (x2)), some (.int (x3))], [])) rfl ⟨trivial, trivial, ⟨(sm_K.p (kS_0 hS4 hx0) (sm_sh.rf _)).1, (sm_K.p (kS_0 hS4 hx0) (sm_sh.rf _)).2.1, (sm_K.p (kS_0 hS4 hx0) (sm_sh.rf _)).2.2, Or.inl rfl⟩, trivial⟩ ?_
  have hS6 : SH (sm_wI M3 x0 3 x3) := SH.wI hS4 _ _ _
  have h := h _ hS6 rfl
  generalize sm_wI M3 x0 3 x3 = M5 at h hS6 ⊢
  exact sm_w.end t104 sr104 9 (o := .returned none) (M2 := M5) rfl trivial (by decide) (⟨rfl, h⟩)
-- 107 java/util/Arrays.fill([JIIJ)V
theorem t107 : sP 107 = (6, sp_107, sh_107) := rfl
theorem sr107 : sm_srt sp_107 = true := by decide +kernel
theorem g107_0 {M : sm_M} {x0 : Nat} {nx0 : Nat} {x1 : Int32} {x2 : Int32} {x3 : Int64} {K : sm_M → Prop} (hS : SH M) (hx0 : sA x0 2 nx0) (h : (q93_0 M (Int32.ofNat nx0) x1 x2) ∧ sm_w 107 (10, [some (.ref x0), none, some (.int (x2)), some (.long (x3)), none, some (.int (x1))], []) M (rV K)) : sm_w 107 (sm_in sP 107 [.ref x0, .int (x1), .int (x2), .long (x3)]) M (rV K) := by
  show sm_w 107 (0, [some (.ref x0), some (.int (x1)), some (.int (x2)), some (.long (x3)), none, none], []) M (rV K)
  refine sm_w.run t107 sr107 0 2 (M2 := M) (f2 := (2, [some (.ref x0), some (.int (x1)), some (.int (x2)), some (.long (x3)), none, none], [.int (Int32.ofNat (sm_ln M x0))])) rfl ⟨trivial, sm_K.l (hx0.K hS) (sm_sh.rf _) (by decide), trivial⟩ ?_
  refine sm_w.aln (hx0.L hS) ?_
  obtain ⟨c1, h⟩ := h
  refine sm_w.run t107 sr107 2 2 (M2 := M) (f2 := (4, [some (.ref x0), some (.int (x1)), some (.int (x2)), some (.long (x3)), none, none], [.int (x2), .int (x1), .int (Int32.ofNat nx0)])) rfl ⟨trivial, trivial, trivial⟩ ?_
  refine sm_w.cV t107 sr107 4 (i := 93) (as := [.int (Int32.ofNat nx0), .int (x1), .int (x2)]) (g := (4, [some (.ref x0), some (.int (x1)), some (.int (x2)), some (.long (x3)), none, none], [])) rfl ⟨(Nat.le_of_ble_eq_true rfl), (Nat.le_of_ble_eq_true rfl)⟩ (Nat.le_of_ble_eq_true rfl) (by decide) (p93_c hS c1) (fun M2 hz => ?_)
  have hz := hz.symm
  subst hz
  refine sm_w.run t107 sr107 5 2 (M2 := M) (f2 := (10, [some (.ref x0), some (.int (x1)), some (.int (x2)), some (.long (x3)), none, some (.int (x1))], [])) rfl ⟨trivial, (Nat.le_of_ble_eq_true rfl), trivial⟩ ?_
  refine sm_w.weak (ls := [some (.ref x0), none, some (.int (x2)), some (.long (x3)), none, some (.int (x1))]) (sm_leI [true, false, true, true, false, true] rfl) ?_
  exact h
theorem g107_1 {M : sm_M} {x0 : Nat} {nx0 : Nat} {x2 : Int32} {x3 : Int64} {x5 : Int32} {K : sm_M → Prop} (hS : SH M) (hx0 : sA x0 2 nx0) (h : ((x2 ≤ x5 → K M) ∧ (¬ x2 ≤ x5 → (vp_in x5 nx0) ∧ ∀ M2, SH M2 → M2 = sm_wJ M x0 x5.toNatClampNeg x3 → sm_w 107 (10, [some (.ref x0), none, some (.int (x2)), some (.long (x3)), none, some (.int (x5 + (1 : Int32)))], []) M2 (rV K)))) : sm_w 107 (10, [some (.ref x0), none, some (.int (x2)), some (.long (x3)), none, some (.int (x5))], []) M (rV K) := by
  refine sm_w.run t107 sr107 7 3 (M2 := M) (f2 := (if x2 ≤ x5 then 27 else 16, [some (.ref x0), none, some (.int (x2)), some (.long (x3)), none, some (.int (x5))], [])) rfl ⟨trivial, trivial, trivial, trivial⟩ ?_
  refine sm_w.ite (fun hc => ?_) (fun hc => ?_)
  · have h := h.1 hc
    exact sm_w.end t107 sr107 16 (o := .returned none) (M2 := M) rfl trivial (by decide) (⟨rfl, h⟩)
  · have h := h.2 hc
    obtain ⟨c1, h⟩ := h
    refine sm_w.run t107 sr107 10 4 (M2 := sm_wJ M x0 x5.toNatClampNeg x3) (f2 := (21, [some (.ref x0), none, some (.int (x2)), some (.long (x3)), none, some (.int (x5))], [])) rfl ⟨trivial, trivial, trivial, sm_K.s2 (hx0.K hS) (hx0.L hS) c1, trivial⟩ ?_
    have hS3 : SH (sm_wJ M x0 x5.toNatClampNeg x3) := SH.wJ hS _ _ _
    have h := h _ hS3 rfl
    generalize sm_wJ M x0 x5.toNatClampNeg x3 = M2 at h hS3 ⊢
    refine sm_w.run t107 sr107 14 2 (M2 := M2) (f2 := (10, [some (.ref x0), none, some (.int (x2)), some (.long (x3)), none, some (.int (x5 + (1 : Int32)))], [])) rfl ⟨(Nat.le_of_ble_eq_true rfl), trivial, trivial⟩ ?_
    exact h
-- 110 LineSetter$Chooser.isLess(II)Z
theorem t110 : sP 110 = (3, sp_110, sh_110) := rfl
theorem sr110 : sm_srt sp_110 = true := by decide +kernel
theorem g110_0 {M : sm_M} {x1 : Int32} {x2 : Int32} {K : Int32 → sm_M → Prop} (hS : SH M)  (h : (vp_in x1 2404) ∧ (vp_in x2 2404) ∧ (((jV M 37 x1.toNatClampNeg) = (jV M 37 x2.toNatClampNeg) → (vp_in x1 2404) ∧ (vp_in x2 2404) ∧ (((iV M 38 x2.toNatClampNeg) ≤ (iV M 38 x1.toNatClampNeg) → K (0 : Int32) M) ∧ (¬ (iV M 38 x2.toNatClampNeg) ≤ (iV M 38 x1.toNatClampNeg) → K (1 : Int32) M))) ∧ (¬ (jV M 37 x1.toNatClampNeg) = (jV M 37 x2.toNatClampNeg) → (vp_in x1 2404) ∧ (vp_in x2 2404) ∧ (((jV M 37 x2.toNatClampNeg) ≤ (jV M 37 x1.toNatClampNeg) → K (0 : Int32) M) ∧ (¬ (jV M 37 x2.toNatClampNeg) ≤ (jV M 37 x1.toNatClampNeg) → K (1 : Int32) M))))) : sm_w 110 (sm_in sP 110 [.ref 36, .int (x1), .int (x2)]) M (rI K) := by
  show sm_w 110 (0, [some (.ref 36), some (.int (x1)), some (.int (x2))], []) M (rI K)
  refine sm_w.run t110 sr110 0 2 (M2 := M) (f2 := (4, [some (.ref 36), some (.int (x1)), some (.int (x2))], [va_rf (sm_rv M 36 0)])) rfl ⟨trivial, sm_K.g (k_36 hS) (sm_sh.rf _), trivial⟩ ?_
  refine sm_w.fld (r_36_0 hS) ?_
  obtain ⟨c1, h⟩ := h
  refine sm_w.run t110 sr110 2 4 (M2 := M) (f2 := (10, [some (.ref 36), some (.int (x1)), some (.int (x2))], [va_rf (sm_rv M 36 0), .long (jV M 37 x1.toNatClampNeg)])) rfl ⟨trivial, sm_K.a2 (k_37 hS) (l_37 hS) c1, trivial, sm_K.g (k_36 hS) (sm_sh.rf _), trivial⟩ ?_
  refine sm_w.fld (r_36_0 hS) ?_
  obtain ⟨c2, h⟩ := h
  refine sm_w.run t110 sr110 6 4 (M2 := M) (f2 := (if (lg_cmp (jV M 37 x1.toNatClampNeg) (jV M 37 x2.toNatClampNeg)) = 0 then 38 else 16, [some (.ref 36), some (.int (x1)), some (.int (x2))], [])) rfl ⟨trivial, sm_K.a2 (k_37 hS) (l_37 hS) c2, trivial, trivial, trivial⟩ ?_
  refine sm_w.ite (fun hc => ?_) (fun hc => ?_)
  · have h := h.1 (lc_e.mp hc)
    refine sm_w.run t110 sr110 24 2 (M2 := M) (f2 := (42, [some (.ref 36), some (.int (x1)), some (.int (x2))], [va_rf (sm_rv M 36 1)])) rfl ⟨trivial, sm_K.g (k_36 hS) (sm_sh.rf _), trivial⟩ ?_
    refine sm_w.fld (r_36_1 hS) ?_
    obtain ⟨c3, h⟩ := h
    refine sm_w.run t110 sr110 26 4 (M2 := M) (f2 := (48, [some (.ref 36), some (.int (x1)), some (.int (x2))], [va_rf (sm_rv M 36 1), .int (iV M 38 x1.toNatClampNeg)])) rfl ⟨trivial, sm_K.a2 (k_38 hS) (l_38 hS) c3, trivial, sm_K.g (k_36 hS) (sm_sh.rf _), trivial⟩ ?_
    refine sm_w.fld (r_36_1 hS) ?_
    obtain ⟨c4, h⟩ := h
    refine sm_w.run t110 sr110 30 3 (M2 := M) (f2 := (if (iV M 38 x2.toNatClampNeg) ≤ (iV M 38 x1.toNatClampNeg) then 57 else 53, [some (.ref 36), some (.int (x1)), some (.int (x2))], [])) rfl ⟨trivial, sm_K.a2 (k_38 hS) (l_38 hS) c4, trivial, trivial⟩ ?_
    refine sm_w.ite (fun hc => ?_) (fun hc => ?_)
    · have h := h.1 hc
      refine sm_w.run t110 sr110 35 1 (M2 := M) (f2 := (58, [some (.ref 36), some (.int (x1)), some (.int (x2))], [.int ((0 : Int32))])) rfl ⟨trivial, trivial⟩ ?_
      exact sm_w.end t110 sr110 36 (o := .returned (some (.int ((0 : Int32))))) (M2 := M) rfl rfl (by decide) (⟨_, rfl, h⟩)
    · have h := h.2 hc
      refine sm_w.run t110 sr110 33 2 (M2 := M) (f2 := (58, [some (.ref 36), some (.int (x1)), some (.int (x2))], [.int ((1 : Int32))])) rfl ⟨trivial, trivial, trivial⟩ ?_
      exact sm_w.end t110 sr110 36 (o := .returned (some (.int ((1 : Int32))))) (M2 := M) rfl rfl (by decide) (⟨_, rfl, h⟩)
  · have h := h.2 (fun z => hc (lc_e.mpr z))
    refine sm_w.run t110 sr110 10 2 (M2 := M) (f2 := (20, [some (.ref 36), some (.int (x1)), some (.int (x2))], [va_rf (sm_rv M 36 0)])) rfl ⟨trivial, sm_K.g (k_36 hS) (sm_sh.rf _), trivial⟩ ?_
    refine sm_w.fld (r_36_0 hS) ?_
    obtain ⟨c5, h⟩ := h
    refine sm_w.run t110 sr110 12 4 (M2 := M) (f2 := (26, [some (.ref 36), some (.int (x1)), some (.int (x2))], [va_rf (sm_rv M 36 0), .long (jV M 37 x1.toNatClampNeg)])) rfl ⟨trivial, sm_K.a2 (k_37 hS) (l_37 hS) c5, trivial, sm_K.g (k_36 hS) (sm_sh.rf _), trivial⟩ ?_
    refine sm_w.fld (r_36_0 hS) ?_
    obtain ⟨c6, h⟩ := h
    refine sm_w.run t110 sr110 16 4 (M2 := M) (f2 := (if 0 ≤ (lg_cmp (jV M 37 x1.toNatClampNeg) (jV M 37 x2.toNatClampNeg)) then 36 else 32, [some (.ref 36), some (.int (x1)), some (.int (x2))], [])) rfl ⟨trivial, sm_K.a2 (k_37 hS) (l_37 hS) c6, trivial, trivial, trivial⟩ ?_
    refine sm_w.ite (fun hc => ?_) (fun hc => ?_)
    · have h := h.1 (lc_ge.mp hc)
      refine sm_w.run t110 sr110 22 1 (M2 := M) (f2 := (37, [some (.ref 36), some (.int (x1)), some (.int (x2))], [.int ((0 : Int32))])) rfl ⟨trivial, trivial⟩ ?_
      exact sm_w.end t110 sr110 23 (o := .returned (some (.int ((0 : Int32))))) (M2 := M) rfl rfl (by decide) (⟨_, rfl, h⟩)
    · have h := h.2 (fun z => hc (lc_ge.mpr z))
      refine sm_w.run t110 sr110 20 2 (M2 := M) (f2 := (37, [some (.ref 36), some (.int (x1)), some (.int (x2))], [.int ((1 : Int32))])) rfl ⟨trivial, trivial, trivial⟩ ?_
      exact sm_w.end t110 sr110 23 (o := .returned (some (.int ((1 : Int32))))) (M2 := M) rfl rfl (by decide) (⟨_, rfl, h⟩)
def p110_0 (M : sm_M) (x1 : Int32) (x2 : Int32) : Int32 := if (jV M 37 x1.toNatClampNeg) = (jV M 37 x2.toNatClampNeg) then (if (iV M 38 x2.toNatClampNeg) ≤ (iV M 38 x1.toNatClampNeg) then (0 : Int32) else (1 : Int32)) else (if (jV M 37 x2.toNatClampNeg) ≤ (jV M 37 x1.toNatClampNeg) then (0 : Int32) else (1 : Int32))
def q110_0 (M : sm_M) (x1 : Int32) (x2 : Int32) : Prop := (vp_in x1 2404) ∧ (vp_in x2 2404) ∧ (((jV M 37 x1.toNatClampNeg) = (jV M 37 x2.toNatClampNeg) → (vp_in x1 2404) ∧ (vp_in x2 2404)) ∧ (¬ (jV M 37 x1.toNatClampNeg) = (jV M 37 x2.toNatClampNeg) → (vp_in x1 2404) ∧ (vp_in x2 2404)))
theorem p110_c {M : sm_M} {x1 : Int32} {x2 : Int32} (hS : SH M)  (hq : q110_0 M x1 x2) : sm_cI 110 [.ref 36, .int (x1), .int (x2)] M (fun v M2 => v = p110_0 M x1 x2 ∧ M2 = M) := by
  refine g110_0 (K := (fun v M2 => v = p110_0 M x1 x2 ∧ M2 = M)) hS ?_
  unfold q110_0 at hq
  obtain ⟨d1, hq⟩ := hq
  refine ⟨d1, ?_⟩
  obtain ⟨d2, hq⟩ := hq
  refine ⟨d2, ?_⟩
  refine ⟨fun e3 => ?_, fun e3 => ?_⟩
  · have hq := hq.1 e3
    obtain ⟨d4, hq⟩ := hq
    refine ⟨d4, ?_⟩
    have d5 := hq
    refine ⟨d5, ?_⟩
    refine ⟨fun e6 => ?_, fun e6 => ?_⟩
    · refine ⟨?_, rfl⟩
      unfold p110_0
      rw [if_pos e3, if_pos e6]
    · refine ⟨?_, rfl⟩
      unfold p110_0
      rw [if_pos e3, if_neg e6]
  · have hq := hq.2 e3
    obtain ⟨d7, hq⟩ := hq
    refine ⟨d7, ?_⟩
    have d8 := hq
    refine ⟨d8, ?_⟩
    refine ⟨fun e9 => ?_, fun e9 => ?_⟩
    · refine ⟨?_, rfl⟩
      unfold p110_0
      rw [if_neg e3, if_pos e9]
    · refine ⟨?_, rfl⟩
      unfold p110_0
      rw [if_neg e3, if_neg e9]
-- 109 LineSetter$Chooser.bestGrade(I)I
theorem t109 : sP 109 = (5, sp_109, sh_109) := rfl
theorem sr109 : sm_srt sp_109 = true := by decide +kernel
theorem g109_0 {M : sm_M} {x1 : Int32} {K : Int32 → sm_M → Prop} (hS : SH M)  (h : sm_w 109 (4, [some (.ref 36), some (.int (x1)), some (.int ((-1 : Int32))), some (.int ((0 : Int32))), none], []) M (rI K)) : sm_w 109 (sm_in sP 109 [.ref 36, .int (x1)]) M (rI K) := by
  show sm_w 109 (0, [some (.ref 36), some (.int (x1)), none, none, none], []) M (rI K)
  refine sm_w.run t109 sr109 0 4 (M2 := M) (f2 := (4, [some (.ref 36), some (.int (x1)), some (.int ((-1 : Int32))), some (.int ((0 : Int32))), none], [])) rfl ⟨trivial, (Nat.le_of_ble_eq_true rfl), trivial, (Nat.le_of_ble_eq_true rfl), trivial⟩ ?_
  exact h
theorem g109_1 {M : sm_M} {x1 : Int32} {x2 : Int32} {x3 : Int32} {K : Int32 → sm_M → Prop} (hS : SH M)  (h : (((4 : Int32) ≤ x3 → K x2 M) ∧ (¬ (4 : Int32) ≤ x3 → (vp_in ((x1 * (4 : Int32)) + x3) 2404) ∧ (((jV M 37 ((x1 * (4 : Int32)) + x3).toNatClampNeg) = (-1 : Int64) → sm_w 109 (4, [some (.ref 36), some (.int (x1)), some (.int (x2)), some (.int (x3 + (1 : Int32))), none], []) M (rI K)) ∧ (¬ (jV M 37 ((x1 * (4 : Int32)) + x3).toNatClampNeg) = (-1 : Int64) → ((x2 < 0 → sm_w 109 (4, [some (.ref 36), some (.int (x1)), some (.int (x3)), some (.int (x3 + (1 : Int32))), none], []) M (rI K)) ∧ (¬ x2 < 0 → (q110_0 M ((x1 * (4 : Int32)) + x3) ((x1 * (4 : Int32)) + x2)) ∧ (((p110_0 M ((x1 * (4 : Int32)) + x3) ((x1 * (4 : Int32)) + x2)) = 0 → sm_w 109 (4, [some (.ref 36), some (.int (x1)), some (.int (x2)), some (.int (x3 + (1 : Int32))), none], []) M (rI K)) ∧ (¬ (p110_0 M ((x1 * (4 : Int32)) + x3) ((x1 * (4 : Int32)) + x2)) = 0 → sm_w 109 (4, [some (.ref 36), some (.int (x1)), some (.int (x3)), some (.int (x3 + (1 : Int32))), none], []) M (rI K)))))))))) : sm_w 109 (4, [some (.ref 36), some (.int (x1)), some (.int (x2)), some (.int (x3)), none], []) M (rI K) := by
  refine sm_w.run t109 sr109 4 3 (M2 := M) (f2 := (if (4 : Int32) ≤ x3 then 56 else 9, [some (.ref 36), some (.int (x1)), some (.int (x2)), some (.int (x3)), none], [])) rfl ⟨trivial, trivial, trivial, trivial⟩ ?_
  refine sm_w.ite (fun hc => ?_) (fun hc => ?_)
  · have h := h.1 hc
    refine sm_w.run t109 sr109 35 1 (M2 := M) (f2 := (57, [some (.ref 36), some (.int (x1)), some (.int (x2)), some (.int (x3)), none], [.int (x2)])) rfl ⟨trivial, trivial⟩ ?_
    exact sm_w.end t109 sr109 36 (o := .returned (some (.int (x2)))) (M2 := M) rfl rfl (by decide) (⟨_, rfl, h⟩)
  · have h := h.2 hc
    refine sm_w.run t109 sr109 7 8 (M2 := M) (f2 := (20, [some (.ref 36), some (.int (x1)), some (.int (x2)), some (.int (x3)), some (.int ((x1 * (4 : Int32)) + x3))], [va_rf (sm_rv M 36 0)])) rfl ⟨trivial, trivial, trivial, trivial, trivial, (Nat.le_of_ble_eq_true rfl), trivial, sm_K.g (k_36 hS) (sm_sh.rf _), trivial⟩ ?_
    refine sm_w.fld (r_36_0 hS) ?_
    obtain ⟨c1, h⟩ := h
    refine sm_w.run t109 sr109 15 5 (M2 := M) (f2 := (if (lg_cmp (jV M 37 ((x1 * (4 : Int32)) + x3).toNatClampNeg) (-1 : Int64)) = 0 then 50 else 30, [some (.ref 36), some (.int (x1)), some (.int (x2)), some (.int (x3)), some (.int ((x1 * (4 : Int32)) + x3))], [])) rfl ⟨trivial, sm_K.a2 (k_37 hS) (l_37 hS) c1, trivial, trivial, trivial, trivial⟩ ?_
    refine sm_w.ite (fun hc => ?_) (fun hc => ?_)
    · have h := h.1 (lc_e.mp hc)
      refine sm_w.run t109 sr109 33 2 (M2 := M) (f2 := (4, [some (.ref 36), some (.int (x1)), some (.int (x2)), some (.int (x3 + (1 : Int32))), some (.int ((x1 * (4 : Int32)) + x3))], [])) rfl ⟨(Nat.le_of_ble_eq_true rfl), trivial, trivial⟩ ?_
      refine sm_w.weak (ls := [some (.ref 36), some (.int (x1)), some (.int (x2)), some (.int (x3 + (1 : Int32))), none]) (sm_leI [true, true, true, true, false] rfl) ?_
      exact h
    · have h := h.2 (fun z => hc (lc_e.mpr z))
      refine sm_w.run t109 sr109 20 2 (M2 := M) (f2 := (if x2 < 0 then 48 else 34, [some (.ref 36), some (.int (x1)), some (.int (x2)), some (.int (x3)), some (.int ((x1 * (4 : Int32)) + x3))], [])) rfl ⟨trivial, trivial, trivial⟩ ?_
      refine sm_w.ite (fun hc => ?_) (fun hc => ?_)
      · have h := h.1 hc
        refine sm_w.run t109 sr109 31 4 (M2 := M) (f2 := (4, [some (.ref 36), some (.int (x1)), some (.int (x3)), some (.int (x3 + (1 : Int32))), some (.int ((x1 * (4 : Int32)) + x3))], [])) rfl ⟨trivial, (Nat.le_of_ble_eq_true rfl), (Nat.le_of_ble_eq_true rfl), trivial, trivial⟩ ?_
        refine sm_w.weak (ls := [some (.ref 36), some (.int (x1)), some (.int (x3)), some (.int (x3 + (1 : Int32))), none]) (sm_leI [true, true, true, true, false] rfl) ?_
        exact h
      · have h := h.2 hc
        obtain ⟨c2, h⟩ := h
        refine sm_w.run t109 sr109 22 7 (M2 := M) (f2 := (42, [some (.ref 36), some (.int (x1)), some (.int (x2)), some (.int (x3)), some (.int ((x1 * (4 : Int32)) + x3))], [.int ((x1 * (4 : Int32)) + x2), .int ((x1 * (4 : Int32)) + x3), .ref 36])) rfl ⟨trivial, trivial, trivial, trivial, trivial, trivial, trivial, trivial⟩ ?_
        refine sm_w.cI t109 sr109 29 (i := 110) (as := [.ref 36, .int ((x1 * (4 : Int32)) + x3), .int ((x1 * (4 : Int32)) + x2)]) (g := (42, [some (.ref 36), some (.int (x1)), some (.int (x2)), some (.int (x3)), some (.int ((x1 * (4 : Int32)) + x3))], [])) rfl ⟨by decide, by decide, (Nat.le_of_ble_eq_true rfl), (sm_K.g (k_36 hS) (sm_sh.rf _)).1, (sm_K.g (k_36 hS) (sm_sh.rf _)).2, (Nat.le_of_ble_eq_true rfl)⟩ (Nat.le_of_ble_eq_true rfl) (by decide) (p110_c hS c2) (fun vz M2 hz => ?_)
        obtain ⟨hz1, hz2⟩ := hz
        subst hz1
        have hz2 := hz2.symm
        subst hz2
        refine sm_w.run t109 sr109 30 1 (M2 := M) (f2 := (if (p110_0 M ((x1 * (4 : Int32)) + x3) ((x1 * (4 : Int32)) + x2)) = 0 then 50 else 48, [some (.ref 36), some (.int (x1)), some (.int (x2)), some (.int (x3)), some (.int ((x1 * (4 : Int32)) + x3))], [])) rfl ⟨trivial, trivial⟩ ?_
        refine sm_w.ite (fun hc => ?_) (fun hc => ?_)
        · have h := h.1 hc
          refine sm_w.run t109 sr109 33 2 (M2 := M) (f2 := (4, [some (.ref 36), some (.int (x1)), some (.int (x2)), some (.int (x3 + (1 : Int32))), some (.int ((x1 * (4 : Int32)) + x3))], [])) rfl ⟨(Nat.le_of_ble_eq_true rfl), trivial, trivial⟩ ?_
          refine sm_w.weak (ls := [some (.ref 36), some (.int (x1)), some (.int (x2)), some (.int (x3 + (1 : Int32))), none]) (sm_leI [true, true, true, true, false] rfl) ?_
          exact h
        · have h := h.2 hc
          refine sm_w.run t109 sr109 31 4 (M2 := M) (f2 := (4, [some (.ref 36), some (.int (x1)), some (.int (x3)), some (.int (x3 + (1 : Int32))), some (.int ((x1 * (4 : Int32)) + x3))], [])) rfl ⟨trivial, (Nat.le_of_ble_eq_true rfl), (Nat.le_of_ble_eq_true rfl), trivial, trivial⟩ ?_
          refine sm_w.weak (ls := [some (.ref 36), some (.int (x1)), some (.int (x3)), some (.int (x3 + (1 : Int32))), none]) (sm_leI [true, true, true, true, false] rfl) ?_
          exact h
-- 108 LineSetter$Chooser.isReached(I)Z
theorem t108 : sP 108 = (2, sp_108, sh_108) := rfl
theorem sr108 : sm_srt sp_108 = true := by decide +kernel
theorem g108_0 {M : sm_M} {x1 : Int32} {K : Int32 → sm_M → Prop} (hS : SH M)  (h : sm_cI 109 [.ref 36, .int (x1)] M (fun v2 M1 => SH M1 → ((v2 < 0 → K (0 : Int32) M1) ∧ (¬ v2 < 0 → K (1 : Int32) M1)))) : sm_w 108 (sm_in sP 108 [.ref 36, .int (x1)]) M (rI K) := by
  show sm_w 108 (0, [some (.ref 36), some (.int (x1))], []) M (rI K)
  refine sm_w.run t108 sr108 0 2 (M2 := M) (f2 := (2, [some (.ref 36), some (.int (x1))], [.int (x1), .ref 36])) rfl ⟨trivial, trivial, trivial⟩ ?_
  refine sm_w.cI t108 sr108 2 (i := 109) (as := [.ref 36, .int (x1)]) (g := (2, [some (.ref 36), some (.int (x1))], [])) rfl ⟨by decide, by decide, (Nat.le_of_ble_eq_true rfl), (sm_K.g (k_36 hS) (sm_sh.rf _)).1, (sm_K.g (k_36 hS) (sm_sh.rf _)).2, (Nat.le_of_ble_eq_true rfl)⟩ (Nat.le_of_ble_eq_true rfl) (by decide) (sm_cI.s (by decide) hS h) (fun v2 M1 h => ?_)
  obtain ⟨hS3, h⟩ := h
  refine sm_w.run t108 sr108 3 1 (M2 := M1) (f2 := (if v2 < 0 then 12 else 8, [some (.ref 36), some (.int (x1))], [])) rfl ⟨trivial, trivial⟩ ?_
  refine sm_w.ite (fun hc => ?_) (fun hc => ?_)
  · have h := h.1 hc
    refine sm_w.run t108 sr108 6 1 (M2 := M1) (f2 := (13, [some (.ref 36), some (.int (x1))], [.int ((0 : Int32))])) rfl ⟨trivial, trivial⟩ ?_
    exact sm_w.end t108 sr108 7 (o := .returned (some (.int ((0 : Int32))))) (M2 := M1) rfl rfl (by decide) (⟨_, rfl, h⟩)
  · have h := h.2 hc
    refine sm_w.run t108 sr108 4 2 (M2 := M1) (f2 := (13, [some (.ref 36), some (.int (x1))], [.int ((1 : Int32))])) rfl ⟨trivial, trivial, trivial⟩ ?_
    exact sm_w.end t108 sr108 7 (o := .returned (some (.int ((1 : Int32))))) (M2 := M1) rfl rfl (by decide) (⟨_, rfl, h⟩)
-- 113 LineSetter$Setting.roomBehind(I)J
theorem t113 : sP 113 = (2, sp_113, sh_113) := rfl
theorem sr113 : sm_srt sp_113 = true := by decide +kernel
theorem g113_0 {M : sm_M} {x0 : Nat} {x1 : Int32} {K : Int64 → sm_M → Prop} (hS : SH M) (hx0 : fS x0) (h : ((x1 = 0 → K ((if ((iV M x0 1) - (iV M x0 2)) < (1000 : Int32) then (1000 : Int32) else ((iV M x0 1) - (iV M x0 2))).toInt64) M) ∧ (¬ x1 = 0 → K ((iV M x0 1).toInt64) M))) : sm_w 113 (sm_in sP 113 [.ref x0, .int (x1)]) M (rJ K) := by
  show sm_w 113 (0, [some (.ref x0), some (.int (x1))], []) M (rJ K)
  refine sm_w.run t113 sr113 0 2 (M2 := M) (f2 := (if x1 = 0 then 4 else 23, [some (.ref x0), some (.int (x1))], [])) rfl ⟨trivial, trivial, trivial⟩ ?_
  refine sm_w.ite (fun hc => ?_) (fun hc => ?_)
  · have h := h.1 hc
    refine sm_w.run t113 sr113 2 9 (M2 := M) (f2 := (28, [some (.ref x0), some (.int (x1))], [.long ((if ((iV M x0 1) - (iV M x0 2)) < (1000 : Int32) then (1000 : Int32) else ((iV M x0 1) - (iV M x0 2))).toInt64)])) rfl ⟨trivial, sm_K.g (kS_0 hS hx0) (sm_sh.rf _), trivial, sm_K.g (kS_0 hS hx0) (sm_sh.rf _), trivial, trivial, (Nat.le_of_ble_eq_true rfl), trivial, trivial, trivial⟩ ?_
    exact sm_w.end t113 sr113 14 (o := .returned (some (.long ((if ((iV M x0 1) - (iV M x0 2)) < (1000 : Int32) then (1000 : Int32) else ((iV M x0 1) - (iV M x0 2))).toInt64)))) (M2 := M) rfl trivial (by decide) (⟨_, rfl, h⟩)
  · have h := h.2 hc
    refine sm_w.run t113 sr113 11 3 (M2 := M) (f2 := (28, [some (.ref x0), some (.int (x1))], [.long ((iV M x0 1).toInt64)])) rfl ⟨trivial, sm_K.g (kS_0 hS hx0) (sm_sh.rf _), trivial, trivial⟩ ?_
    exact sm_w.end t113 sr113 14 (o := .returned (some (.long ((iV M x0 1).toInt64)))) (M2 := M) rfl trivial (by decide) (⟨_, rfl, h⟩)
def p113_0 (M : sm_M) (x0 : Nat) (x1 : Int32) : Int64 := if x1 = 0 then ((if ((iV M x0 1) - (iV M x0 2)) < (1000 : Int32) then (1000 : Int32) else ((iV M x0 1) - (iV M x0 2))).toInt64) else ((iV M x0 1).toInt64)
theorem p113_c {M : sm_M} {x0 : Nat} {x1 : Int32} (hS : SH M) (hx0 : fS x0) : sm_cJ 113 [.ref x0, .int (x1)] M (fun v M2 => v = p113_0 M x0 x1 ∧ M2 = M) := by
  refine g113_0 (K := (fun v M2 => v = p113_0 M x0 x1 ∧ M2 = M)) hS hx0 ?_
  refine ⟨fun e1 => ?_, fun e1 => ?_⟩
  · refine ⟨?_, rfl⟩
    unfold p113_0
    rw [if_pos e1]
  · refine ⟨?_, rfl⟩
    unfold p113_0
    rw [if_neg e1]
