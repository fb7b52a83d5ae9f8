/-! METHODS by their segments. -/
-- 112 LineSetter$Setting.measure(LLineSetter$Line;II)V
theorem t112 : sP 112 = (4, sp_112, sh_112) := rfl
theorem sr112 : sm_srt sp_112 = true := by decide +kernel
theorem g112_0 {M : sm_M} {x0 : Nat} {x1 : Nat} {x2 : Int32} {x3 : Int32} {K : sm_M → Prop} (hS : SH M) (hx0 : fS x0) (hx1 : fL x1) (h : ∀ M1, SH M1 → M1 = sm_wI M x1 0 x2 → ∀ M3, SH M3 → M3 = sm_wI M1 x1 1 x3 → ∀ M5, SH M5 → M5 = sm_wJ M3 x1 5 (p113_0 M3 x0 x2) → (q114_0 M5 x0 x2 x3) ∧ (vp_in x3 601) ∧ ∀ M9, SH M9 → M9 = sm_wJ M5 x1 2 ((p114_0 M5 x0 x2 x3) + ((iV M5 (x0 + 1 + 5) x3.toNatClampNeg).toInt64)) → (((iV M9 x0 3) = 0 → (vp_in (x3 - (1 : Int32)) 601) ∧ (vp_in x2 601) ∧ ∀ M13, SH M13 → M13 = sm_wJ M9 x1 3 ((jV M9 (x0 + 1 + 9) (x3 - (1 : Int32)).toNatClampNeg) - (jV M9 (x0 + 1 + 9) x2.toNatClampNeg)) → (vp_in (x3 - (1 : Int32)) 601) ∧ (vp_in x2 601) ∧ ∀ M17, SH M17 → M17 = sm_wJ M13 x1 4 ((jV M13 (x0 + 1 + 10) (x3 - (1 : Int32)).toNatClampNeg) - (jV M13 (x0 + 1 + 10) x2.toNatClampNeg)) → ((x3 = (iV M17 (x0 + 1) 3) → ∀ M19, SH M19 → M19 = sm_wI M17 x1 6 (1 : Int32) → sm_cV 115 [.ref x1] M19 (fun M21 => SH M21 → K M21)) ∧ (¬ x3 = (iV M17 (x0 + 1) 3) → ∀ M24, SH M24 → M24 = sm_wI M17 x1 6 (0 : Int32) → sm_cV 115 [.ref x1] M24 (fun M26 => SH M26 → K M26)))) ∧ (¬ (iV M9 x0 3) = 0 → ∀ M29, SH M29 → M29 = sm_wJ M9 x1 3 (jV M9 x1 5) → ∀ M31, SH M31 → M31 = sm_wJ M29 x1 4 (0 : Int64) → ((x3 = (iV M31 (x0 + 1) 3) → ∀ M33, SH M33 → M33 = sm_wI M31 x1 6 (1 : Int32) → sm_cV 115 [.ref x1] M33 (fun M35 => SH M35 → K M35)) ∧ (¬ x3 = (iV M31 (x0 + 1) 3) → ∀ M38, SH M38 → M38 = sm_wI M31 x1 6 (0 : Int32) → sm_cV 115 [.ref x1] M38 (fun M40 => SH M40 → K M40)))))) : sm_w 112 (sm_in sP 112 [.ref x0, .ref x1, .int (x2), .int (x3)]) M (rV K) := by
  show sm_w 112 (0, [some (.ref x0), some (.ref x1), some (.int (x2)), some (.int (x3))], []) M (rV K)
  refine sm_w.run t112 sr112 0 3 (M2 := sm_wI M x1 0 x2) (f2 := (5, [some (.ref x0), some (.ref x1), some (.int (x2)), some (.int (x3))], [])) rfl ⟨trivial, trivial, ⟨(sm_K.p (kL_0 hS hx1) (sm_sh.rf _)).1, (sm_K.p (kL_0 hS hx1) (sm_sh.rf _)).2.1, (sm_K.p (kL_0 hS hx1) (sm_sh.rf _)).2.2, Or.inl rfl⟩, trivial⟩ ?_
  have hS2 : SH (sm_wI M x1 0 x2) := SH.wI hS _ _ _
  have h := h _ hS2 rfl
  generalize sm_wI M x1 0 x2 = M1 at h hS2 ⊢
  refine sm_w.run t112 sr112 3 3 (M2 := sm_wI M1 x1 1 x3) (f2 := (10, [some (.ref x0), some (.ref x1), some (.int (x2)), some (.int (x3))], [])) rfl ⟨trivial, trivial, ⟨(sm_K.p (kL_0 hS2 hx1) (sm_sh.rf _)).1, (sm_K.p (kL_0 hS2 hx1) (sm_sh.rf _)).2.1, (sm_K.p (kL_0 hS2 hx1) (sm_sh.rf _)).2.2, Or.inl rfl⟩, trivial⟩ ?_
  have hS4 : SH (sm_wI M1 x1 1 x3) := SH.wI hS2 _ _ _
  have h := h _ hS4 rfl
  generalize sm_wI M1 x1 1 x3 = M3 at h hS4 ⊢
  refine sm_w.run t112 sr112 6 3 (M2 := M3) (f2 := (13, [some (.ref x0), some (.ref x1), some (.int (x2)), some (.int (x3))], [.int (x2), .ref x0, .ref x1])) rfl ⟨trivial, trivial, trivial, trivial⟩ ?_
  refine sm_w.cJ t112 sr112 9 (i := 113) (as := [.ref x0, .int (x2)]) (g := (13, [some (.ref x0), some (.ref x1), some (.int (x2)), some (.int (x3))], [.ref x1])) rfl ⟨by decide, by decide, (Nat.le_of_ble_eq_true rfl), (sm_K.g (kS_0 hS4 hx0) (sm_sh.rf _)).1, (sm_K.g (kS_0 hS4 hx0) (sm_sh.rf _)).2, (Nat.le_of_ble_eq_true rfl)⟩ (Nat.le_of_ble_eq_true rfl) (by decide) (p113_c hS4 hx0) (fun vz M2 hz => ?_)
  obtain ⟨hz1, hz2⟩ := hz
  subst hz1
  have hz2 := hz2.symm
  subst hz2
  refine sm_w.run t112 sr112 10 1 (M2 := sm_wJ M3 x1 5 (p113_0 M3 x0 x2)) (f2 := (19, [some (.ref x0), some (.ref x1), some (.int (x2)), some (.int (x3))], [])) rfl ⟨⟨(sm_K.p (kL_0 hS4 hx1) (sm_sh.rf _)).1, (sm_K.p (kL_0 hS4 hx1) (sm_sh.rf _)).2.1, (sm_K.p (kL_0 hS4 hx1) (sm_sh.rf _)).2.2, rfl⟩, trivial⟩ ?_
  have hS6 : SH (sm_wJ M3 x1 5 (p113_0 M3 x0 x2)) := SH.wJ hS4 _ _ _
  have h := h _ hS6 rfl
  generalize sm_wJ M3 x1 5 (p113_0 M3 x0 x2) = M5 at h hS6 ⊢
  obtain ⟨c7, h⟩ := h
  refine sm_w.run t112 sr112 11 4 (M2 := M5) (f2 := (23, [some (.ref x0), some (.ref x1), some (.int (x2)), some (.int (x3))], [.int (x3), .int (x2), .ref x0, .ref x1])) rfl ⟨trivial, trivial, trivial, trivial, trivial⟩ ?_
  refine sm_w.cJ t112 sr112 15 (i := 114) (as := [.ref x0, .int (x2), .int (x3)]) (g := (23, [some (.ref x0), some (.ref x1), some (.int (x2)), some (.int (x3))], [.ref x1])) rfl ⟨by decide, by decide, (Nat.le_of_ble_eq_true rfl), (sm_K.g (kS_0 hS6 hx0) (sm_sh.rf _)).1, (sm_K.g (kS_0 hS6 hx0) (sm_sh.rf _)).2, (Nat.le_of_ble_eq_true rfl)⟩ (Nat.le_of_ble_eq_true rfl) (by decide) (p114_c hS6 hx0 c7) (fun vz M2 hz => ?_)
  obtain ⟨hz1, hz2⟩ := hz
  subst hz1
  have hz2 := hz2.symm
  subst hz2
  refine sm_w.run t112 sr112 16 2 (M2 := M5) (f2 := (30, [some (.ref x0), some (.ref x1), some (.int (x2)), some (.int (x3))], [va_rf (sm_rv M5 x0 0), .long (p114_0 M5 x0 x2 x3), .ref x1])) rfl ⟨trivial, sm_K.g (kS_0 hS6 hx0) (sm_sh.rf _), trivial⟩ ?_
  refine sm_w.fld (rS_0 hS6 hx0) ?_
  refine sm_w.run t112 sr112 18 1 (M2 := M5) (f2 := (33, [some (.ref x0), some (.ref x1), some (.int (x2)), some (.int (x3))], [va_rf (sm_rv M5 (x0 + 1) 6), .long (p114_0 M5 x0 x2 x3), .ref x1])) rfl ⟨sm_K.g (kK_0 hS6 (fS_1 hx0)) (sm_sh.rf _), trivial⟩ ?_
  refine sm_w.fld (rK_6 hS6 (fS_1 hx0)) ?_
  obtain ⟨c8, h⟩ := h
  refine sm_w.run t112 sr112 19 5 (M2 := sm_wJ M5 x1 2 ((p114_0 M5 x0 x2 x3) + ((iV M5 (x0 + 1 + 5) x3.toNatClampNeg).toInt64))) (f2 := (40, [some (.ref x0), some (.ref x1), some (.int (x2)), some (.int (x3))], [])) rfl ⟨trivial, sm_K.a2 (kK_5 hS6 (fS_1 hx0)) (lK_5 hS6 (fS_1 hx0)) c8, trivial, trivial, ⟨(sm_K.p (kL_0 hS6 hx1) (sm_sh.rf _)).1, (sm_K.p (kL_0 hS6 hx1) (sm_sh.rf _)).2.1, (sm_K.p (kL_0 hS6 hx1) (sm_sh.rf _)).2.2, rfl⟩, trivial⟩ ?_
  have hS10 : SH (sm_wJ M5 x1 2 ((p114_0 M5 x0 x2 x3) + ((iV M5 (x0 + 1 + 5) x3.toNatClampNeg).toInt64))) := SH.wJ hS6 _ _ _
  have h := h _ hS10 rfl
  generalize sm_wJ M5 x1 2 ((p114_0 M5 x0 x2 x3) + ((iV M5 (x0 + 1 + 5) x3.toNatClampNeg).toInt64)) = M9 at h hS10 ⊢
  refine sm_w.run t112 sr112 24 3 (M2 := M9) (f2 := (if (iV M9 x0 3) = 0 then 47 else 100, [some (.ref x0), some (.ref x1), some (.int (x2)), some (.int (x3))], [])) rfl ⟨trivial, sm_K.g (kS_0 hS10 hx0) (sm_sh.rf _), trivial, trivial⟩ ?_
  refine sm_w.ite (fun hc => ?_) (fun hc => ?_)
  · have h := h.1 hc
    refine sm_w.run t112 sr112 27 3 (M2 := M9) (f2 := (52, [some (.ref x0), some (.ref x1), some (.int (x2)), some (.int (x3))], [va_rf (sm_rv M9 x0 0), .ref x1])) rfl ⟨trivial, trivial, sm_K.g (kS_0 hS10 hx0) (sm_sh.rf _), trivial⟩ ?_
    refine sm_w.fld (rS_0 hS10 hx0) ?_
    refine sm_w.run t112 sr112 30 1 (M2 := M9) (f2 := (55, [some (.ref x0), some (.ref x1), some (.int (x2)), some (.int (x3))], [va_rf (sm_rv M9 (x0 + 1) 10), .ref x1])) rfl ⟨sm_K.g (kK_0 hS10 (fS_1 hx0)) (sm_sh.rf _), trivial⟩ ?_
    refine sm_w.fld (rK_10 hS10 (fS_1 hx0)) ?_
    obtain ⟨c11, h⟩ := h
    refine sm_w.run t112 sr112 31 6 (M2 := M9) (f2 := (63, [some (.ref x0), some (.ref x1), some (.int (x2)), some (.int (x3))], [va_rf (sm_rv M9 x0 0), .long (jV M9 (x0 + 1 + 9) (x3 - (1 : Int32)).toNatClampNeg), .ref x1])) rfl ⟨trivial, trivial, trivial, sm_K.a2 (kK_9 hS10 (fS_1 hx0)) (lK_9 hS10 (fS_1 hx0)) c11, trivial, sm_K.g (kS_0 hS10 hx0) (sm_sh.rf _), trivial⟩ ?_
    refine sm_w.fld (rS_0 hS10 hx0) ?_
    refine sm_w.run t112 sr112 37 1 (M2 := M9) (f2 := (66, [some (.ref x0), some (.ref x1), some (.int (x2)), some (.int (x3))], [va_rf (sm_rv M9 (x0 + 1) 10), .long (jV M9 (x0 + 1 + 9) (x3 - (1 : Int32)).toNatClampNeg), .ref x1])) rfl ⟨sm_K.g (kK_0 hS10 (fS_1 hx0)) (sm_sh.rf _), trivial⟩ ?_
    refine sm_w.fld (rK_10 hS10 (fS_1 hx0)) ?_
    obtain ⟨c12, h⟩ := h
    refine sm_w.run t112 sr112 38 4 (M2 := sm_wJ M9 x1 3 ((jV M9 (x0 + 1 + 9) (x3 - (1 : Int32)).toNatClampNeg) - (jV M9 (x0 + 1 + 9) x2.toNatClampNeg))) (f2 := (72, [some (.ref x0), some (.ref x1), some (.int (x2)), some (.int (x3))], [])) rfl ⟨trivial, sm_K.a2 (kK_9 hS10 (fS_1 hx0)) (lK_9 hS10 (fS_1 hx0)) c12, trivial, ⟨(sm_K.p (kL_0 hS10 hx1) (sm_sh.rf _)).1, (sm_K.p (kL_0 hS10 hx1) (sm_sh.rf _)).2.1, (sm_K.p (kL_0 hS10 hx1) (sm_sh.rf _)).2.2, rfl⟩, trivial⟩ ?_
    have hS14 : SH (sm_wJ M9 x1 3 ((jV M9 (x0 + 1 + 9) (x3 - (1 : Int32)).toNatClampNeg) - (jV M9 (x0 + 1 + 9) x2.toNatClampNeg))) := SH.wJ hS10 _ _ _
    have h := h _ hS14 rfl
    generalize sm_wJ M9 x1 3 ((jV M9 (x0 + 1 + 9) (x3 - (1 : Int32)).toNatClampNeg) - (jV M9 (x0 + 1 + 9) x2.toNatClampNeg)) = M13 at h hS14 ⊢
    refine sm_w.run t112 sr112 42 3 (M2 := M13) (f2 := (77, [some (.ref x0), some (.ref x1), some (.int (x2)), some (.int (x3))], [va_rf (sm_rv M13 x0 0), .ref x1])) rfl ⟨trivial, trivial, sm_K.g (kS_0 hS14 hx0) (sm_sh.rf _), trivial⟩ ?_
    refine sm_w.fld (rS_0 hS14 hx0) ?_
    refine sm_w.run t112 sr112 45 1 (M2 := M13) (f2 := (80, [some (.ref x0), some (.ref x1), some (.int (x2)), some (.int (x3))], [va_rf (sm_rv M13 (x0 + 1) 11), .ref x1])) rfl ⟨sm_K.g (kK_0 hS14 (fS_1 hx0)) (sm_sh.rf _), trivial⟩ ?_
    refine sm_w.fld (rK_11 hS14 (fS_1 hx0)) ?_
    obtain ⟨c15, h⟩ := h
    refine sm_w.run t112 sr112 46 6 (M2 := M13) (f2 := (88, [some (.ref x0), some (.ref x1), some (.int (x2)), some (.int (x3))], [va_rf (sm_rv M13 x0 0), .long (jV M13 (x0 + 1 + 10) (x3 - (1 : Int32)).toNatClampNeg), .ref x1])) rfl ⟨trivial, trivial, trivial, sm_K.a2 (kK_10 hS14 (fS_1 hx0)) (lK_10 hS14 (fS_1 hx0)) c15, trivial, sm_K.g (kS_0 hS14 hx0) (sm_sh.rf _), trivial⟩ ?_
    refine sm_w.fld (rS_0 hS14 hx0) ?_
    refine sm_w.run t112 sr112 52 1 (M2 := M13) (f2 := (91, [some (.ref x0), some (.ref x1), some (.int (x2)), some (.int (x3))], [va_rf (sm_rv M13 (x0 + 1) 11), .long (jV M13 (x0 + 1 + 10) (x3 - (1 : Int32)).toNatClampNeg), .ref x1])) rfl ⟨sm_K.g (kK_0 hS14 (fS_1 hx0)) (sm_sh.rf _), trivial⟩ ?_
    refine sm_w.fld (rK_11 hS14 (fS_1 hx0)) ?_
    obtain ⟨c16, h⟩ := h
    refine sm_w.run t112 sr112 53 4 (M2 := sm_wJ M13 x1 4 ((jV M13 (x0 + 1 + 10) (x3 - (1 : Int32)).toNatClampNeg) - (jV M13 (x0 + 1 + 10) x2.toNatClampNeg))) (f2 := (97, [some (.ref x0), some (.ref x1), some (.int (x2)), some (.int (x3))], [])) rfl ⟨trivial, sm_K.a2 (kK_10 hS14 (fS_1 hx0)) (lK_10 hS14 (fS_1 hx0)) c16, trivial, ⟨(sm_K.p (kL_0 hS14 hx1) (sm_sh.rf _)).1, (sm_K.p (kL_0 hS14 hx1) (sm_sh.rf _)).2.1, (sm_K.p (kL_0 hS14 hx1) (sm_sh.rf _)).2.2, rfl⟩, trivial⟩ ?_
    have hS18 : SH (sm_wJ M13 x1 4 ((jV M13 (x0 + 1 + 10) (x3 - (1 : Int32)).toNatClampNeg) - (jV M13 (x0 + 1 + 10) x2.toNatClampNeg))) := SH.wJ hS14 _ _ _
    have h := h _ hS18 rfl
    generalize sm_wJ M13 x1 4 ((jV M13 (x0 + 1 + 10) (x3 - (1 : Int32)).toNatClampNeg) - (jV M13 (x0 + 1 + 10) x2.toNatClampNeg)) = M17 at h hS18 ⊢
    refine sm_w.run t112 sr112 57 1 (M2 := M17) (f2 := (113, [some (.ref x0), some (.ref x1), some (.int (x2)), some (.int (x3))], [])) rfl ⟨trivial, trivial⟩ ?_
    refine sm_w.run t112 sr112 65 4 (M2 := M17) (f2 := (119, [some (.ref x0), some (.ref x1), some (.int (x2)), some (.int (x3))], [va_rf (sm_rv M17 x0 0), .int (x3), .ref x1])) rfl ⟨trivial, trivial, trivial, sm_K.g (kS_0 hS18 hx0) (sm_sh.rf _), trivial⟩ ?_
    refine sm_w.fld (rS_0 hS18 hx0) ?_
    refine sm_w.run t112 sr112 69 2 (M2 := M17) (f2 := (if x3 = (iV M17 (x0 + 1) 3) then 125 else 129, [some (.ref x0), some (.ref x1), some (.int (x2)), some (.int (x3))], [.ref x1])) rfl ⟨sm_K.g (kK_0 hS18 (fS_1 hx0)) (sm_sh.rf _), trivial, trivial⟩ ?_
    refine sm_w.ite (fun hc => ?_) (fun hc => ?_)
    · have h := h.1 hc
      refine sm_w.run t112 sr112 71 2 (M2 := M17) (f2 := (130, [some (.ref x0), some (.ref x1), some (.int (x2)), some (.int (x3))], [.int ((1 : Int32)), .ref x1])) rfl ⟨trivial, trivial, trivial⟩ ?_
      refine sm_w.run t112 sr112 74 1 (M2 := sm_wI M17 x1 6 (1 : Int32)) (f2 := (133, [some (.ref x0), some (.ref x1), some (.int (x2)), some (.int (x3))], [])) rfl ⟨⟨(sm_K.p (kL_0 hS18 hx1) (sm_sh.rf _)).1, (sm_K.p (kL_0 hS18 hx1) (sm_sh.rf _)).2.1, (sm_K.p (kL_0 hS18 hx1) (sm_sh.rf _)).2.2, Or.inr ⟨rfl, Or.inr rfl⟩⟩, trivial⟩ ?_
      have hS20 : SH (sm_wI M17 x1 6 (1 : Int32)) := SH.wI hS18 _ _ _
      have h := h _ hS20 rfl
      generalize sm_wI M17 x1 6 (1 : Int32) = M19 at h hS20 ⊢
      refine sm_w.run t112 sr112 75 1 (M2 := M19) (f2 := (134, [some (.ref x0), some (.ref x1), some (.int (x2)), some (.int (x3))], [.ref x1])) rfl ⟨trivial, trivial⟩ ?_
      refine sm_w.cV t112 sr112 76 (i := 115) (as := [.ref x1]) (g := (134, [some (.ref x0), some (.ref x1), some (.int (x2)), some (.int (x3))], [])) rfl ⟨by decide, by decide, (Nat.le_of_ble_eq_true rfl), (sm_K.g (kL_0 hS20 hx1) (sm_sh.rf _)).1, (sm_K.g (kL_0 hS20 hx1) (sm_sh.rf _)).2, (Nat.le_of_ble_eq_true rfl)⟩ (Nat.le_of_ble_eq_true rfl) (by decide) (sm_cV.s (by decide) hS20 h) (fun M21 h => ?_)
      obtain ⟨hS23, h⟩ := h
      exact sm_w.end t112 sr112 77 (o := .returned none) (M2 := M21) rfl trivial (by decide) (⟨rfl, h⟩)
    · have h := h.2 hc
      refine sm_w.run t112 sr112 73 2 (M2 := sm_wI M17 x1 6 (0 : Int32)) (f2 := (133, [some (.ref x0), some (.ref x1), some (.int (x2)), some (.int (x3))], [])) rfl ⟨trivial, ⟨(sm_K.p (kL_0 hS18 hx1) (sm_sh.rf _)).1, (sm_K.p (kL_0 hS18 hx1) (sm_sh.rf _)).2.1, (sm_K.p (kL_0 hS18 hx1) (sm_sh.rf _)).2.2, Or.inr ⟨rfl, Or.inl rfl⟩⟩, trivial⟩ ?_
      have hS25 : SH (sm_wI M17 x1 6 (0 : Int32)) := SH.wI hS18 _ _ _
      have h := h _ hS25 rfl
      generalize sm_wI M17 x1 6 (0 : Int32) = M24 at h hS25 ⊢
      refine sm_w.run t112 sr112 75 1 (M2 := M24) (f2 := (134, [some (.ref x0), some (.ref x1), some (.int (x2)), some (.int (x3))], [.ref x1])) rfl ⟨trivial, trivial⟩ ?_
      refine sm_w.cV t112 sr112 76 (i := 115) (as := [.ref x1]) (g := (134, [some (.ref x0), some (.ref x1), some (.int (x2)), some (.int (x3))], [])) rfl ⟨by decide, by decide, (Nat.le_of_ble_eq_true rfl), (sm_K.g (kL_0 hS25 hx1) (sm_sh.rf _)).1, (sm_K.g (kL_0 hS25 hx1) (sm_sh.rf _)).2, (Nat.le_of_ble_eq_true rfl)⟩ (Nat.le_of_ble_eq_true rfl) (by decide) (sm_cV.s (by decide) hS25 h) (fun M26 h => ?_)
      obtain ⟨hS28, h⟩ := h
      exact sm_w.end t112 sr112 77 (o := .returned none) (M2 := M26) rfl trivial (by decide) (⟨rfl, h⟩)
  · have h := h.2 hc
    refine sm_w.run t112 sr112 58 4 (M2 := sm_wJ M9 x1 3 (jV M9 x1 5)) (f2 := (108, [some (.ref x0), some (.ref x1), some (.int (x2)), some (.int (x3))], [])) rfl ⟨trivial, trivial, sm_K.g (kL_0 hS10 hx1) (sm_sh.rf _), ⟨(sm_K.p (kL_0 hS10 hx1) (sm_sh.rf _)).1, (sm_K.p (kL_0 hS10 hx1) (sm_sh.rf _)).2.1, (sm_K.p (kL_0 hS10 hx1) (sm_sh.rf _)).2.2, rfl⟩, trivial⟩ ?_
    have hS30 : SH (sm_wJ M9 x1 3 (jV M9 x1 5)) := SH.wJ hS10 _ _ _
    have h := h _ hS30 rfl
    generalize sm_wJ M9 x1 3 (jV M9 x1 5) = M29 at h hS30 ⊢
    refine sm_w.run t112 sr112 62 3 (M2 := sm_wJ M29 x1 4 (0 : Int64)) (f2 := (113, [some (.ref x0), some (.ref x1), some (.int (x2)), some (.int (x3))], [])) rfl ⟨trivial, trivial, ⟨(sm_K.p (kL_0 hS30 hx1) (sm_sh.rf _)).1, (sm_K.p (kL_0 hS30 hx1) (sm_sh.rf _)).2.1, (sm_K.p (kL_0 hS30 hx1) (sm_sh.rf _)).2.2, rfl⟩, trivial⟩ ?_
    have hS32 : SH (sm_wJ M29 x1 4 (0 : Int64)) := SH.wJ hS30 _ _ _
    have h := h _ hS32 rfl
    generalize sm_wJ M29 x1 4 (0 : Int64) = M31 at h hS32 ⊢
    refine sm_w.run t112 sr112 65 4 (M2 := M31) (f2 := (119, [some (.ref x0), some (.ref x1), some (.int (x2)), some (.int (x3))], [va_rf (sm_rv M31 x0 0), .int (x3), .ref x1])) rfl ⟨trivial, trivial, trivial, sm_K.g (kS_0 hS32 hx0) (sm_sh.rf _), trivial⟩ ?_
    refine sm_w.fld (rS_0 hS32 hx0) ?_
    refine sm_w.run t112 sr112 69 2 (M2 := M31) (f2 := (if x3 = (iV M31 (x0 + 1) 3) then 125 else 129, [some (.ref x0), some (.ref x1), some (.int (x2)), some (.int (x3))], [.ref x1])) rfl ⟨sm_K.g (kK_0 hS32 (fS_1 hx0)) (sm_sh.rf _), trivial, trivial⟩ ?_
    refine sm_w.ite (fun hc => ?_) (fun hc => ?_)
    · have h := h.1 hc
      refine sm_w.run t112 sr112 71 2 (M2 := M31) (f2 := (130, [some (.ref x0), some (.ref x1), some (.int (x2)), some (.int (x3))], [.int ((1 : Int32)), .ref x1])) rfl ⟨trivial, trivial, trivial⟩ ?_
      refine sm_w.run t112 sr112 74 1 (M2 := sm_wI M31 x1 6 (1 : Int32)) (f2 := (133, [some (.ref x0), some (.ref x1), some (.int (x2)), some (.int (x3))], [])) rfl ⟨⟨(sm_K.p (kL_0 hS32 hx1) (sm_sh.rf _)).1, (sm_K.p (kL_0 hS32 hx1) (sm_sh.rf _)).2.1, (sm_K.p (kL_0 hS32 hx1) (sm_sh.rf _)).2.2, Or.inr ⟨rfl, Or.inr rfl⟩⟩, trivial⟩ ?_
      have hS34 : SH (sm_wI M31 x1 6 (1 : Int32)) := SH.wI hS32 _ _ _
      have h := h _ hS34 rfl
      generalize sm_wI M31 x1 6 (1 : Int32) = M33 at h hS34 ⊢
      refine sm_w.run t112 sr112 75 1 (M2 := M33) (f2 := (134, [some (.ref x0), some (.ref x1), some (.int (x2)), some (.int (x3))], [.ref x1])) rfl ⟨trivial, trivial⟩ ?_
      refine sm_w.cV t112 sr112 76 (i := 115) (as := [.ref x1]) (g := (134, [some (.ref x0), some (.ref x1), some (.int (x2)), some (.int (x3))], [])) rfl ⟨by decide, by decide, (Nat.le_of_ble_eq_true rfl), (sm_K.g (kL_0 hS34 hx1) (sm_sh.rf _)).1, (sm_K.g (kL_0 hS34 hx1) (sm_sh.rf _)).2, (Nat.le_of_ble_eq_true rfl)⟩ (Nat.le_of_ble_eq_true rfl) (by decide) (sm_cV.s (by decide) hS34 h) (fun M35 h => ?_)
      obtain ⟨hS37, h⟩ := h
      exact sm_w.end t112 sr112 77 (o := .returned none) (M2 := M35) rfl trivial (by decide) (⟨rfl, h⟩)
    · have h := h.2 hc
      refine sm_w.run t112 sr112 73 2 (M2 := sm_wI M31 x1 6 (0 : Int32)) (f2 := (133, [some (.ref x0), some (.ref x1), some (.int (x2)), some (.int (x3))], [])) rfl ⟨trivial, ⟨(sm_K.p (kL_0 hS32 hx1) (sm_sh.rf _)).1, (sm_K.p (kL_0 hS32 hx1) (sm_sh.rf _)).2.1, (sm_K.p (kL_0 hS32 hx1) (sm_sh.rf _)).2.2, Or.inr ⟨rfl, Or.inl rfl⟩⟩, trivial⟩ ?_
      have hS39 : SH (sm_wI M31 x1 6 (0 : Int32)) := SH.wI hS32 _ _ _
      have h := h _ hS39 rfl
      generalize sm_wI M31 x1 6 (0 : Int32) = M38 at h hS39 ⊢
      refine sm_w.run t112 sr112 75 1 (M2 := M38) (f2 := (134, [some (.ref x0), some (.ref x1), some (.int (x2)), some (.int (x3))], [.ref x1])) rfl ⟨trivial, trivial⟩ ?_
      refine sm_w.cV t112 sr112 76 (i := 115) (as := [.ref x1]) (g := (134, [some (.ref x0), some (.ref x1), some (.int (x2)), some (.int (x3))], [])) rfl ⟨by decide, by decide, (Nat.le_of_ble_eq_true rfl), (sm_K.g (kL_0 hS39 hx1) (sm_sh.rf _)).1, (sm_K.g (kL_0 hS39 hx1) (sm_sh.rf _)).2, (Nat.le_of_ble_eq_true rfl)⟩ (Nat.le_of_ble_eq_true rfl) (by decide) (sm_cV.s (by decide) hS39 h) (fun M40 h => ?_)
      obtain ⟨hS42, h⟩ := h
      exact sm_w.end t112 sr112 77 (o := .returned none) (M2 := M40) rfl trivial (by decide) (⟨rfl, h⟩)
-- 119 LineSetter$Line.isAllowed(I)Z
theorem t119 : sP 119 = (2, sp_119, sh_119) := rfl
theorem sr119 : sm_srt sp_119 = true := by decide +kernel
theorem g119_0 {M : sm_M} {x0 : Nat} {x1 : Int32} {K : Int32 → sm_M → Prop} (hS : SH M) (hx0 : fL x0) (h : ((x1 < (iV M x0 9) → K (0 : Int32) M) ∧ (¬ x1 < (iV M x0 9) → (((iV M x0 7) = 0 → K (1 : Int32) M) ∧ (¬ (iV M x0 7) = 0 → ((x1 = (10001 : Int32) → K (1 : Int32) M) ∧ (¬ x1 = (10001 : Int32) → K (0 : Int32) M))))))) : sm_w 119 (sm_in sP 119 [.ref x0, .int (x1)]) M (rI K) := by
  show sm_w 119 (0, [some (.ref x0), some (.int (x1))], []) M (rI K)
  refine sm_w.run t119 sr119 0 4 (M2 := M) (f2 := (if x1 < (iV M x0 9) then 26 else 8, [some (.ref x0), some (.int (x1))], [])) rfl ⟨trivial, sm_K.g (kL_0 hS hx0) (sm_sh.rf _), trivial, trivial, trivial⟩ ?_
  refine sm_w.ite (fun hc => ?_) (fun hc => ?_)
  · have h := h.1 hc
    refine sm_w.run t119 sr119 12 1 (M2 := M) (f2 := (27, [some (.ref x0), some (.int (x1))], [.int ((0 : Int32))])) rfl ⟨trivial, trivial⟩ ?_
    exact sm_w.end t119 sr119 13 (o := .returned (some (.int ((0 : Int32))))) (M2 := M) rfl rfl (by decide) (⟨_, rfl, h⟩)
  · have h := h.2 hc
    refine sm_w.run t119 sr119 4 3 (M2 := M) (f2 := (if (iV M x0 7) = 0 then 22 else 15, [some (.ref x0), some (.int (x1))], [])) rfl ⟨trivial, sm_K.g (kL_0 hS hx0) (sm_sh.rf _), trivial, trivial⟩ ?_
    refine sm_w.ite (fun hc => ?_) (fun hc => ?_)
    · have h := h.1 hc
      refine sm_w.run t119 sr119 10 2 (M2 := M) (f2 := (27, [some (.ref x0), some (.int (x1))], [.int ((1 : Int32))])) rfl ⟨trivial, trivial, trivial⟩ ?_
      exact sm_w.end t119 sr119 13 (o := .returned (some (.int ((1 : Int32))))) (M2 := M) rfl rfl (by decide) (⟨_, rfl, h⟩)
    · have h := h.2 hc
      refine sm_w.run t119 sr119 7 3 (M2 := M) (f2 := (if x1 = (10001 : Int32) then 22 else 26, [some (.ref x0), some (.int (x1))], [])) rfl ⟨trivial, trivial, trivial, trivial⟩ ?_
      refine sm_w.ite (fun hc => ?_) (fun hc => ?_)
      · have h := h.1 hc
        refine sm_w.run t119 sr119 10 2 (M2 := M) (f2 := (27, [some (.ref x0), some (.int (x1))], [.int ((1 : Int32))])) rfl ⟨trivial, trivial, trivial⟩ ?_
        exact sm_w.end t119 sr119 13 (o := .returned (some (.int ((1 : Int32))))) (M2 := M) rfl rfl (by decide) (⟨_, rfl, h⟩)
      · have h := h.2 hc
        refine sm_w.run t119 sr119 12 1 (M2 := M) (f2 := (27, [some (.ref x0), some (.int (x1))], [.int ((0 : Int32))])) rfl ⟨trivial, trivial⟩ ?_
        exact sm_w.end t119 sr119 13 (o := .returned (some (.int ((0 : Int32))))) (M2 := M) rfl rfl (by decide) (⟨_, rfl, h⟩)
def p119_0 (M : sm_M) (x0 : Nat) (x1 : Int32) : Int32 := if x1 < (iV M x0 9) then (0 : Int32) else (if (iV M x0 7) = 0 then (1 : Int32) else (if x1 = (10001 : Int32) then (1 : Int32) else (0 : Int32)))
theorem p119_c {M : sm_M} {x0 : Nat} {x1 : Int32} (hS : SH M) (hx0 : fL x0) : sm_cI 119 [.ref x0, .int (x1)] M (fun v M2 => v = p119_0 M x0 x1 ∧ M2 = M) := by
  refine g119_0 (K := (fun v M2 => v = p119_0 M x0 x1 ∧ M2 = M)) hS hx0 ?_
  refine ⟨fun e1 => ?_, fun e1 => ?_⟩
  · refine ⟨?_, rfl⟩
    unfold p119_0
    rw [if_pos e1]
  · refine ⟨fun e2 => ?_, fun e2 => ?_⟩
    · refine ⟨?_, rfl⟩
      unfold p119_0
      rw [if_neg e1, if_pos e2]
    · refine ⟨fun e3 => ?_, fun e3 => ?_⟩
      · refine ⟨?_, rfl⟩
        unfold p119_0
        rw [if_neg e1, if_neg e2, if_pos e3]
      · refine ⟨?_, rfl⟩
        unfold p119_0
        rw [if_neg e1, if_neg e2, if_neg e3]
-- 122 LineSetter$Breaks.isParted(I)Z
theorem t122 : sP 122 = (2, sp_122, sh_122) := rfl
theorem sr122 : sm_srt sp_122 = true := by decide +kernel
theorem g122_0 {M : sm_M} {x0 : Nat} {x1 : Int32} {K : Int32 → sm_M → Prop} (hS : SH M) (hx0 : fK x0) (h : (vp_in x1 601) ∧ (((iV M (x0 + 3) x1.toNatClampNeg) = (1 : Int32) → K (1 : Int32) M) ∧ (¬ (iV M (x0 + 3) x1.toNatClampNeg) = (1 : Int32) → (vp_in x1 601) ∧ (((iV M (x0 + 3) x1.toNatClampNeg) = (2 : Int32) → K (1 : Int32) M) ∧ (¬ (iV M (x0 + 3) x1.toNatClampNeg) = (2 : Int32) → K (0 : Int32) M))))) : sm_w 122 (sm_in sP 122 [.ref x0, .int (x1)]) M (rI K) := by
  show sm_w 122 (0, [some (.ref x0), some (.int (x1))], []) M (rI K)
  refine sm_w.run t122 sr122 0 2 (M2 := M) (f2 := (4, [some (.ref x0), some (.int (x1))], [va_rf (sm_rv M x0 4)])) rfl ⟨trivial, sm_K.g (kK_0 hS hx0) (sm_sh.rf _), trivial⟩ ?_
  refine sm_w.fld (rK_4 hS hx0) ?_
  obtain ⟨c1, h⟩ := h
  refine sm_w.run t122 sr122 2 4 (M2 := M) (f2 := (if (iV M (x0 + 3) x1.toNatClampNeg) = (1 : Int32) then 20 else 10, [some (.ref x0), some (.int (x1))], [])) rfl ⟨trivial, sm_K.a2 (kK_3 hS hx0) (lK_3 hS hx0) c1, trivial, trivial, trivial⟩ ?_
  refine sm_w.ite (fun hc => ?_) (fun hc => ?_)
  · have h := h.1 hc
    refine sm_w.run t122 sr122 12 2 (M2 := M) (f2 := (25, [some (.ref x0), some (.int (x1))], [.int ((1 : Int32))])) rfl ⟨trivial, trivial, trivial⟩ ?_
    exact sm_w.end t122 sr122 15 (o := .returned (some (.int ((1 : Int32))))) (M2 := M) rfl rfl (by decide) (⟨_, rfl, h⟩)
  · have h := h.2 hc
    refine sm_w.run t122 sr122 6 2 (M2 := M) (f2 := (14, [some (.ref x0), some (.int (x1))], [va_rf (sm_rv M x0 4)])) rfl ⟨trivial, sm_K.g (kK_0 hS hx0) (sm_sh.rf _), trivial⟩ ?_
    refine sm_w.fld (rK_4 hS hx0) ?_
    obtain ⟨c2, h⟩ := h
    refine sm_w.run t122 sr122 8 4 (M2 := M) (f2 := (if (iV M (x0 + 3) x1.toNatClampNeg) = (2 : Int32) then 20 else 24, [some (.ref x0), some (.int (x1))], [])) rfl ⟨trivial, sm_K.a2 (kK_3 hS hx0) (lK_3 hS hx0) c2, trivial, trivial, trivial⟩ ?_
    refine sm_w.ite (fun hc => ?_) (fun hc => ?_)
    · have h := h.1 hc
      refine sm_w.run t122 sr122 12 2 (M2 := M) (f2 := (25, [some (.ref x0), some (.int (x1))], [.int ((1 : Int32))])) rfl ⟨trivial, trivial, trivial⟩ ?_
      exact sm_w.end t122 sr122 15 (o := .returned (some (.int ((1 : Int32))))) (M2 := M) rfl rfl (by decide) (⟨_, rfl, h⟩)
    · have h := h.2 hc
      refine sm_w.run t122 sr122 14 1 (M2 := M) (f2 := (25, [some (.ref x0), some (.int (x1))], [.int ((0 : Int32))])) rfl ⟨trivial, trivial⟩ ?_
      exact sm_w.end t122 sr122 15 (o := .returned (some (.int ((0 : Int32))))) (M2 := M) rfl rfl (by decide) (⟨_, rfl, h⟩)
def p122_0 (M : sm_M) (x0 : Nat) (x1 : Int32) : Int32 := if (iV M (x0 + 3) x1.toNatClampNeg) = (1 : Int32) then (1 : Int32) else (if (iV M (x0 + 3) x1.toNatClampNeg) = (2 : Int32) then (1 : Int32) else (0 : Int32))
def q122_0 (M : sm_M) (x0 : Nat) (x1 : Int32) : Prop := (vp_in x1 601) ∧ (((iV M (x0 + 3) x1.toNatClampNeg) = (1 : Int32) → True) ∧ (¬ (iV M (x0 + 3) x1.toNatClampNeg) = (1 : Int32) → (vp_in x1 601)))
theorem p122_c {M : sm_M} {x0 : Nat} {x1 : Int32} (hS : SH M) (hx0 : fK x0) (hq : q122_0 M x0 x1) : sm_cI 122 [.ref x0, .int (x1)] M (fun v M2 => v = p122_0 M x0 x1 ∧ M2 = M) := by
  refine g122_0 (K := (fun v M2 => v = p122_0 M x0 x1 ∧ M2 = M)) hS hx0 ?_
  unfold q122_0 at hq
  obtain ⟨d1, hq⟩ := hq
  refine ⟨d1, ?_⟩
  refine ⟨fun e2 => ?_, fun e2 => ?_⟩
  · refine ⟨?_, rfl⟩
    unfold p122_0
    rw [if_pos e2]
  · have hq := hq.2 e2
    have d3 := hq
    refine ⟨d3, ?_⟩
    refine ⟨fun e4 => ?_, fun e4 => ?_⟩
    · refine ⟨?_, rfl⟩
      unfold p122_0
      rw [if_neg e2, if_pos e4]
    · refine ⟨?_, rfl⟩
      unfold p122_0
      rw [if_neg e2, if_neg e4]
-- 121 LineSetter$Setting.costAlone(LLineSetter$Line;)J
theorem t121 : sP 121 = (5, sp_121, sh_121) := rfl
theorem sr121 : sm_srt sp_121 = true := by decide +kernel
theorem g121_0 {M : sm_M} {x0 : Nat} {x1 : Nat} {K : Int64 → sm_M → Prop} (hS : SH M) (hx0 : fS x0) (hx1 : fL x1) (h : (((iV M x1 0) ≤ 0 → sm_w 121 (45, [some (.ref x0), some (.ref x1), some (.long (((10 : Int64) + ((iV M x1 9).toInt64)) * ((10 : Int64) + ((iV M x1 9).toInt64)))), none, none], []) M (rJ K)) ∧ (¬ (iV M x1 0) ≤ 0 → (q122_0 M (x0 + 1) (iV M x1 0)) ∧ (((p122_0 M (x0 + 1) (iV M x1 0)) = 0 → sm_w 121 (45, [some (.ref x0), some (.ref x1), some (.long (((10 : Int64) + ((iV M x1 9).toInt64)) * ((10 : Int64) + ((iV M x1 9).toInt64)))), none, none], []) M (rJ K)) ∧ (¬ (p122_0 M (x0 + 1) (iV M x1 0)) = 0 → sm_w 121 (46, [some (.ref x0), some (.ref x1), some (.long (((10 : Int64) + ((iV M x1 9).toInt64)) * ((10 : Int64) + ((iV M x1 9).toInt64)))), none, none], [.int ((1 : Int32))]) M (rJ K)))))) : sm_w 121 (sm_in sP 121 [.ref x0, .ref x1]) M (rJ K) := by
  show sm_w 121 (0, [some (.ref x0), some (.ref x1), none, none, none], []) M (rJ K)
  refine sm_w.run t121 sr121 0 15 (M2 := M) (f2 := (if (iV M x1 0) ≤ 0 then 45 else 27, [some (.ref x0), some (.ref x1), some (.long (((10 : Int64) + ((iV M x1 9).toInt64)) * ((10 : Int64) + ((iV M x1 9).toInt64)))), none, none], [])) rfl ⟨trivial, trivial, sm_K.g (kL_0 hS hx1) (sm_sh.rf _), trivial, trivial, trivial, trivial, sm_K.g (kL_0 hS hx1) (sm_sh.rf _), trivial, trivial, trivial, (Nat.le_of_ble_eq_true rfl), trivial, sm_K.g (kL_0 hS hx1) (sm_sh.rf _), trivial, trivial⟩ ?_
  refine sm_w.ite (fun hc => ?_) (fun hc => ?_)
  · have h := h.1 hc
    exact h
  · have h := h.2 hc
    refine sm_w.run t121 sr121 15 2 (M2 := M) (f2 := (31, [some (.ref x0), some (.ref x1), some (.long (((10 : Int64) + ((iV M x1 9).toInt64)) * ((10 : Int64) + ((iV M x1 9).toInt64)))), none, none], [va_rf (sm_rv M x0 0)])) rfl ⟨trivial, sm_K.g (kS_0 hS hx0) (sm_sh.rf _), trivial⟩ ?_
    refine sm_w.fld (rS_0 hS hx0) ?_
    obtain ⟨c1, h⟩ := h
    refine sm_w.run t121 sr121 17 2 (M2 := M) (f2 := (35, [some (.ref x0), some (.ref x1), some (.long (((10 : Int64) + ((iV M x1 9).toInt64)) * ((10 : Int64) + ((iV M x1 9).toInt64)))), none, none], [.int (iV M x1 0), .ref (x0 + 1)])) rfl ⟨trivial, sm_K.g (kL_0 hS hx1) (sm_sh.rf _), trivial⟩ ?_
    refine sm_w.cI t121 sr121 19 (i := 122) (as := [.ref (x0 + 1), .int (iV M x1 0)]) (g := (35, [some (.ref x0), some (.ref x1), some (.long (((10 : Int64) + ((iV M x1 9).toInt64)) * ((10 : Int64) + ((iV M x1 9).toInt64)))), none, none], [])) rfl ⟨by decide, by decide, (Nat.le_of_ble_eq_true rfl), (sm_K.g (kK_0 hS (fS_1 hx0)) (sm_sh.rf _)).1, (sm_K.g (kK_0 hS (fS_1 hx0)) (sm_sh.rf _)).2, (Nat.le_of_ble_eq_true rfl)⟩ (Nat.le_of_ble_eq_true rfl) (by decide) (p122_c hS (fS_1 hx0) c1) (fun vz M2 hz => ?_)
    obtain ⟨hz1, hz2⟩ := hz
    subst hz1
    have hz2 := hz2.symm
    subst hz2
    refine sm_w.run t121 sr121 20 1 (M2 := M) (f2 := (if (p122_0 M (x0 + 1) (iV M x1 0)) = 0 then 45 else 41, [some (.ref x0), some (.ref x1), some (.long (((10 : Int64) + ((iV M x1 9).toInt64)) * ((10 : Int64) + ((iV M x1 9).toInt64)))), none, none], [])) rfl ⟨trivial, trivial⟩ ?_
    refine sm_w.ite (fun hc => ?_) (fun hc => ?_)
    · have h := h.1 hc
      exact h
    · have h := h.2 hc
      refine sm_w.run t121 sr121 21 2 (M2 := M) (f2 := (46, [some (.ref x0), some (.ref x1), some (.long (((10 : Int64) + ((iV M x1 9).toInt64)) * ((10 : Int64) + ((iV M x1 9).toInt64)))), none, none], [.int ((1 : Int32))])) rfl ⟨trivial, trivial, trivial⟩ ?_
      exact h
theorem g121_1 {M : sm_M} {x0 : Nat} {x1 : Nat} {x2 : Int64} {K : Int64 → sm_M → Prop} (hS : SH M) (hx0 : fS x0) (hx1 : fL x1) (h : sm_w 121 (46, [some (.ref x0), some (.ref x1), some (.long (x2)), none, none], [.int ((0 : Int32))]) M (rJ K)) : sm_w 121 (45, [some (.ref x0), some (.ref x1), some (.long (x2)), none, none], []) M (rJ K) := by
  refine sm_w.run t121 sr121 23 1 (M2 := M) (f2 := (46, [some (.ref x0), some (.ref x1), some (.long (x2)), none, none], [.int ((0 : Int32))])) rfl ⟨trivial, trivial⟩ ?_
  exact h
theorem g121_2 {M : sm_M} {x0 : Nat} {x1 : Nat} {x2 : Int64} {s0 : Int32} {K : Int64 → sm_M → Prop} (hS : SH M) (hx0 : fS x0) (hx1 : fL x1) (h : (q122_0 M (x0 + 1) (iV M x1 1)) ∧ (((p122_0 M (x0 + 1) (iV M x1 1)) = 0 → (((iV M x1 6) = 0 → sm_w 121 (126, [none, some (.ref x1), some (.long (x2)), none, none], []) M (rJ K)) ∧ (¬ (iV M x1 6) = 0 → ((s0 = 0 → sm_w 121 (126, [none, some (.ref x1), some (.long (x2)), none, none], []) M (rJ K)) ∧ (¬ s0 = 0 → sm_w 121 (126, [none, some (.ref x1), some (.long (x2 + (5000 : Int64))), none, none], []) M (rJ K)))))) ∧ (¬ (p122_0 M (x0 + 1) (iV M x1 1)) = 0 → (vp_in (iV M x1 1) 601) ∧ (((iV M (x0 + 1 + 3) (iV M x1 1).toNatClampNeg) = (1 : Int32) → ((s0 = 0 → sm_w 121 (126, [none, some (.ref x1), some (.long ((x2 + (2500 : Int64)) + (0 : Int64))), none, none], []) M (rJ K)) ∧ (¬ s0 = 0 → sm_w 121 (126, [none, some (.ref x1), some (.long ((x2 + (2500 : Int64)) + (3000 : Int64))), none, none], []) M (rJ K)))) ∧ (¬ (iV M (x0 + 1 + 3) (iV M x1 1).toNatClampNeg) = (1 : Int32) → ((s0 = 0 → sm_w 121 (126, [none, some (.ref x1), some (.long ((x2 + (900 : Int64)) + (0 : Int64))), none, none], []) M (rJ K)) ∧ (¬ s0 = 0 → sm_w 121 (126, [none, some (.ref x1), some (.long ((x2 + (900 : Int64)) + (3000 : Int64))), none, none], []) M (rJ K)))))))) : sm_w 121 (46, [some (.ref x0), some (.ref x1), some (.long (x2)), none, none], [.int (s0)]) M (rJ K) := by
  refine sm_w.run t121 sr121 24 3 (M2 := M) (f2 := (52, [some (.ref x0), some (.ref x1), some (.long (x2)), none, some (.int (s0))], [va_rf (sm_rv M x0 0)])) rfl ⟨(Nat.le_of_ble_eq_true rfl), trivial, sm_K.g (kS_0 hS hx0) (sm_sh.rf _), trivial⟩ ?_
  refine sm_w.fld (rS_0 hS hx0) ?_
  obtain ⟨c1, h⟩ := h
  refine sm_w.run t121 sr121 27 2 (M2 := M) (f2 := (56, [some (.ref x0), some (.ref x1), some (.long (x2)), none, some (.int (s0))], [.int (iV M x1 1), .ref (x0 + 1)])) rfl ⟨trivial, sm_K.g (kL_0 hS hx1) (sm_sh.rf _), trivial⟩ ?_
  refine sm_w.cI t121 sr121 29 (i := 122) (as := [.ref (x0 + 1), .int (iV M x1 1)]) (g := (56, [some (.ref x0), some (.ref x1), some (.long (x2)), none, some (.int (s0))], [])) rfl ⟨by decide, by decide, (Nat.le_of_ble_eq_true rfl), (sm_K.g (kK_0 hS (fS_1 hx0)) (sm_sh.rf _)).1, (sm_K.g (kK_0 hS (fS_1 hx0)) (sm_sh.rf _)).2, (Nat.le_of_ble_eq_true rfl)⟩ (Nat.le_of_ble_eq_true rfl) (by decide) (p122_c hS (fS_1 hx0) c1) (fun vz M2 hz => ?_)
  obtain ⟨hz1, hz2⟩ := hz
  subst hz1
  have hz2 := hz2.symm
  subst hz2
  refine sm_w.run t121 sr121 30 1 (M2 := M) (f2 := (if (p122_0 M (x0 + 1) (iV M x1 1)) = 0 then 108 else 62, [some (.ref x0), some (.ref x1), some (.long (x2)), none, some (.int (s0))], [])) rfl ⟨trivial, trivial⟩ ?_
  refine sm_w.ite (fun hc => ?_) (fun hc => ?_)
  · have h := h.1 hc
    refine sm_w.run t121 sr121 54 3 (M2 := M) (f2 := (if (iV M x1 6) = 0 then 126 else 115, [some (.ref x0), some (.ref x1), some (.long (x2)), none, some (.int (s0))], [])) rfl ⟨trivial, sm_K.g (kL_0 hS hx1) (sm_sh.rf _), trivial, trivial⟩ ?_
    refine sm_w.ite (fun hc => ?_) (fun hc => ?_)
    · have h := h.1 hc
      refine sm_w.weak (ls := [none, some (.ref x1), some (.long (x2)), none, none]) (sm_leI [false, true, true, false, false] rfl) ?_
      exact h
    · have h := h.2 hc
      refine sm_w.run t121 sr121 57 2 (M2 := M) (f2 := (if s0 = 0 then 126 else 120, [some (.ref x0), some (.ref x1), some (.long (x2)), none, some (.int (s0))], [])) rfl ⟨trivial, trivial, trivial⟩ ?_
      refine sm_w.ite (fun hc => ?_) (fun hc => ?_)
      · have h := h.1 hc
        refine sm_w.weak (ls := [none, some (.ref x1), some (.long (x2)), none, none]) (sm_leI [false, true, true, false, false] rfl) ?_
        exact h
      · have h := h.2 hc
        refine sm_w.run t121 sr121 59 4 (M2 := M) (f2 := (126, [some (.ref x0), some (.ref x1), some (.long (x2 + (5000 : Int64))), none, some (.int (s0))], [])) rfl ⟨trivial, trivial, trivial, (Nat.le_of_ble_eq_true rfl), trivial⟩ ?_
        refine sm_w.weak (ls := [none, some (.ref x1), some (.long (x2 + (5000 : Int64))), none, none]) (sm_leI [false, true, true, false, false] rfl) ?_
        exact h
  · have h := h.2 hc
    refine sm_w.run t121 sr121 31 3 (M2 := M) (f2 := (67, [some (.ref x0), some (.ref x1), some (.long (x2)), none, some (.int (s0))], [va_rf (sm_rv M x0 0), .long (x2)])) rfl ⟨trivial, trivial, sm_K.g (kS_0 hS hx0) (sm_sh.rf _), trivial⟩ ?_
    refine sm_w.fld (rS_0 hS hx0) ?_
    refine sm_w.run t121 sr121 34 1 (M2 := M) (f2 := (70, [some (.ref x0), some (.ref x1), some (.long (x2)), none, some (.int (s0))], [va_rf (sm_rv M (x0 + 1) 4), .long (x2)])) rfl ⟨sm_K.g (kK_0 hS (fS_1 hx0)) (sm_sh.rf _), trivial⟩ ?_
    refine sm_w.fld (rK_4 hS (fS_1 hx0)) ?_
    obtain ⟨c2, h⟩ := h
    refine sm_w.run t121 sr121 35 5 (M2 := M) (f2 := (if (iV M (x0 + 1 + 3) (iV M x1 1).toNatClampNeg) = (1 : Int32) then 79 else 85, [some (.ref x0), some (.ref x1), some (.long (x2)), none, some (.int (s0))], [.long (x2)])) rfl ⟨trivial, sm_K.g (kL_0 hS hx1) (sm_sh.rf _), sm_K.a2 (kK_3 hS (fS_1 hx0)) (lK_3 hS (fS_1 hx0)) c2, trivial, trivial, trivial⟩ ?_
    refine sm_w.ite (fun hc => ?_) (fun hc => ?_)
    · have h := h.1 hc
      refine sm_w.run t121 sr121 40 2 (M2 := M) (f2 := (88, [some (.ref x0), some (.ref x1), some (.long (x2)), none, some (.int (s0))], [.long ((2500 : Int64)), .long (x2)])) rfl ⟨trivial, trivial, trivial⟩ ?_
      refine sm_w.run t121 sr121 43 5 (M2 := M) (f2 := (if s0 = 0 then 102 else 96, [some (.ref x0), some (.ref x1), some (.long (x2 + (2500 : Int64))), none, some (.int (s0))], [.long (x2 + (2500 : Int64))])) rfl ⟨trivial, (Nat.le_of_ble_eq_true rfl), trivial, trivial, trivial, trivial⟩ ?_
      refine sm_w.ite (fun hc => ?_) (fun hc => ?_)
      · have h := h.1 hc
        refine sm_w.run t121 sr121 50 4 (M2 := M) (f2 := (126, [some (.ref x0), some (.ref x1), some (.long ((x2 + (2500 : Int64)) + (0 : Int64))), none, some (.int (s0))], [])) rfl ⟨trivial, trivial, (Nat.le_of_ble_eq_true rfl), trivial, trivial⟩ ?_
        refine sm_w.weak (ls := [none, some (.ref x1), some (.long ((x2 + (2500 : Int64)) + (0 : Int64))), none, none]) (sm_leI [false, true, true, false, false] rfl) ?_
        exact h
      · have h := h.2 hc
        refine sm_w.run t121 sr121 48 2 (M2 := M) (f2 := (103, [some (.ref x0), some (.ref x1), some (.long (x2 + (2500 : Int64))), none, some (.int (s0))], [.long ((3000 : Int64)), .long (x2 + (2500 : Int64))])) rfl ⟨trivial, trivial, trivial⟩ ?_
        refine sm_w.run t121 sr121 51 3 (M2 := M) (f2 := (126, [some (.ref x0), some (.ref x1), some (.long ((x2 + (2500 : Int64)) + (3000 : Int64))), none, some (.int (s0))], [])) rfl ⟨trivial, (Nat.le_of_ble_eq_true rfl), trivial, trivial⟩ ?_
        refine sm_w.weak (ls := [none, some (.ref x1), some (.long ((x2 + (2500 : Int64)) + (3000 : Int64))), none, none]) (sm_leI [false, true, true, false, false] rfl) ?_
        exact h
    · have h := h.2 hc
      refine sm_w.run t121 sr121 42 6 (M2 := M) (f2 := (if s0 = 0 then 102 else 96, [some (.ref x0), some (.ref x1), some (.long (x2 + (900 : Int64))), none, some (.int (s0))], [.long (x2 + (900 : Int64))])) rfl ⟨trivial, trivial, (Nat.le_of_ble_eq_true rfl), trivial, trivial, trivial, trivial⟩ ?_
      refine sm_w.ite (fun hc => ?_) (fun hc => ?_)
      · have h := h.1 hc
        refine sm_w.run t121 sr121 50 4 (M2 := M) (f2 := (126, [some (.ref x0), some (.ref x1), some (.long ((x2 + (900 : Int64)) + (0 : Int64))), none, some (.int (s0))], [])) rfl ⟨trivial, trivial, (Nat.le_of_ble_eq_true rfl), trivial, trivial⟩ ?_
        refine sm_w.weak (ls := [none, some (.ref x1), some (.long ((x2 + (900 : Int64)) + (0 : Int64))), none, none]) (sm_leI [false, true, true, false, false] rfl) ?_
        exact h
      · have h := h.2 hc
        refine sm_w.run t121 sr121 48 2 (M2 := M) (f2 := (103, [some (.ref x0), some (.ref x1), some (.long (x2 + (900 : Int64))), none, some (.int (s0))], [.long ((3000 : Int64)), .long (x2 + (900 : Int64))])) rfl ⟨trivial, trivial, trivial⟩ ?_
        refine sm_w.run t121 sr121 51 3 (M2 := M) (f2 := (126, [some (.ref x0), some (.ref x1), some (.long ((x2 + (900 : Int64)) + (3000 : Int64))), none, some (.int (s0))], [])) rfl ⟨trivial, (Nat.le_of_ble_eq_true rfl), trivial, trivial⟩ ?_
        refine sm_w.weak (ls := [none, some (.ref x1), some (.long ((x2 + (900 : Int64)) + (3000 : Int64))), none, none]) (sm_leI [false, true, true, false, false] rfl) ?_
        exact h
theorem g121_3 {M : sm_M} {x1 : Nat} {x2 : Int64} {K : Int64 → sm_M → Prop} (hS : SH M) (hx1 : fL x1) (h : (((iV M x1 7) = 0 → K x2 M) ∧ (¬ (iV M x1 7) = 0 → K (x2 + ((((1000000000 : Int64) + (jV M x1 2)) - (jV M x1 4)) - (jV M x1 5))) M))) : sm_w 121 (126, [none, some (.ref x1), some (.long (x2)), none, none], []) M (rJ K) := by
  refine sm_w.run t121 sr121 63 3 (M2 := M) (f2 := (if (iV M x1 7) = 0 then 154 else 133, [none, some (.ref x1), some (.long (x2)), none, none], [])) rfl ⟨trivial, sm_K.g (kL_0 hS hx1) (sm_sh.rf _), trivial, trivial⟩ ?_
  refine sm_w.ite (fun hc => ?_) (fun hc => ?_)
  · have h := h.1 hc
    refine sm_w.run t121 sr121 79 1 (M2 := M) (f2 := (155, [none, some (.ref x1), some (.long (x2)), none, none], [.long (x2)])) rfl ⟨trivial, trivial⟩ ?_
    exact sm_w.end t121 sr121 80 (o := .returned (some (.long (x2)))) (M2 := M) rfl trivial (by decide) (⟨_, rfl, h⟩)
  · have h := h.2 hc
    refine sm_w.run t121 sr121 66 14 (M2 := M) (f2 := (155, [none, some (.ref x1), some (.long (x2 + ((((1000000000 : Int64) + (jV M x1 2)) - (jV M x1 4)) - (jV M x1 5)))), none, none], [.long (x2 + ((((1000000000 : Int64) + (jV M x1 2)) - (jV M x1 4)) - (jV M x1 5)))])) rfl ⟨trivial, trivial, trivial, sm_K.g (kL_0 hS hx1) (sm_sh.rf _), trivial, trivial, sm_K.g (kL_0 hS hx1) (sm_sh.rf _), trivial, trivial, sm_K.g (kL_0 hS hx1) (sm_sh.rf _), trivial, trivial, (Nat.le_of_ble_eq_true rfl), trivial, trivial⟩ ?_
    exact sm_w.end t121 sr121 80 (o := .returned (some (.long (x2 + ((((1000000000 : Int64) + (jV M x1 2)) - (jV M x1 4)) - (jV M x1 5)))))) (M2 := M) rfl trivial (by decide) (⟨_, rfl, h⟩)
def p121_3 (M : sm_M) (x1 : Nat) (x2 : Int64) : Int64 := if (iV M x1 7) = 0 then x2 else (x2 + ((((1000000000 : Int64) + (jV M x1 2)) - (jV M x1 4)) - (jV M x1 5)))
theorem p121_3c {M : sm_M} {x1 : Nat} {x2 : Int64} (hS : SH M) (hx1 : fL x1) : sm_w 121 (126, [none, some (.ref x1), some (.long (x2)), none, none], []) M (rJ (fun v M2 => v = p121_3 M x1 x2 ∧ M2 = M)) := by
  refine g121_3 (K := (fun v M2 => v = p121_3 M x1 x2 ∧ M2 = M)) hS hx1 ?_
  refine ⟨fun e1 => ?_, fun e1 => ?_⟩
  · refine ⟨?_, rfl⟩
    unfold p121_3
    rw [if_pos e1]
  · refine ⟨?_, rfl⟩
    unfold p121_3
    rw [if_neg e1]
def p121_2 (M : sm_M) (x0 : Nat) (x1 : Nat) (x2 : Int64) (s0 : Int32) : Int64 := if (p122_0 M (x0 + 1) (iV M x1 1)) = 0 then (if (iV M x1 6) = 0 then (p121_3 M x1 x2) else (if s0 = 0 then (p121_3 M x1 x2) else (p121_3 M x1 (x2 + (5000 : Int64))))) else (if (iV M (x0 + 1 + 3) (iV M x1 1).toNatClampNeg) = (1 : Int32) then (if s0 = 0 then (p121_3 M x1 ((x2 + (2500 : Int64)) + (0 : Int64))) else (p121_3 M x1 ((x2 + (2500 : Int64)) + (3000 : Int64)))) else (if s0 = 0 then (p121_3 M x1 ((x2 + (900 : Int64)) + (0 : Int64))) else (p121_3 M x1 ((x2 + (900 : Int64)) + (3000 : Int64)))))
def q121_2 (M : sm_M) (x0 : Nat) (x1 : Nat) (x2 : Int64) (s0 : Int32) : Prop := (q122_0 M (x0 + 1) (iV M x1 1)) ∧ (((p122_0 M (x0 + 1) (iV M x1 1)) = 0 → True) ∧ (¬ (p122_0 M (x0 + 1) (iV M x1 1)) = 0 → (vp_in (iV M x1 1) 601)))
theorem p121_2c {M : sm_M} {x0 : Nat} {x1 : Nat} {x2 : Int64} {s0 : Int32} (hS : SH M) (hx0 : fS x0) (hx1 : fL x1) (hq : q121_2 M x0 x1 x2 s0) : sm_w 121 (46, [some (.ref x0), some (.ref x1), some (.long (x2)), none, none], [.int (s0)]) M (rJ (fun v M2 => v = p121_2 M x0 x1 x2 s0 ∧ M2 = M)) := by
  refine g121_2 (K := (fun v M2 => v = p121_2 M x0 x1 x2 s0 ∧ M2 = M)) hS hx0 hx1 ?_
  unfold q121_2 at hq
  obtain ⟨d1, hq⟩ := hq
  refine ⟨d1, ?_⟩
  refine ⟨fun e2 => ?_, fun e2 => ?_⟩
  · refine ⟨fun e3 => ?_, fun e3 => ?_⟩
    · refine (p121_3c hS hx1).mono (fun o M2 z => ?_)
      obtain ⟨v, z1, z2, z3⟩ := z
      refine ⟨v, z1, ?_, z3⟩
      rw [z2]
      unfold p121_2
      rw [if_pos e2, if_pos e3]
    · refine ⟨fun e4 => ?_, fun e4 => ?_⟩
      · refine (p121_3c hS hx1).mono (fun o M2 z => ?_)
        obtain ⟨v, z1, z2, z3⟩ := z
        refine ⟨v, z1, ?_, z3⟩
        rw [z2]
        unfold p121_2
        rw [if_pos e2, if_neg e3, if_pos e4]
      · refine (p121_3c hS hx1).mono (fun o M2 z => ?_)
        obtain ⟨v, z1, z2, z3⟩ := z
        refine ⟨v, z1, ?_, z3⟩
        rw [z2]
        unfold p121_2
        rw [if_pos e2, if_neg e3, if_neg e4]
  · have hq := hq.2 e2
    have d5 := hq
    refine ⟨d5, ?_⟩
    refine ⟨fun e6 => ?_, fun e6 => ?_⟩
    · refine ⟨fun e7 => ?_, fun e7 => ?_⟩
      · refine (p121_3c hS hx1).mono (fun o M2 z => ?_)
        obtain ⟨v, z1, z2, z3⟩ := z
        refine ⟨v, z1, ?_, z3⟩
        rw [z2]
        unfold p121_2
        rw [if_neg e2, if_pos e6, if_pos e7]
      · refine (p121_3c hS hx1).mono (fun o M2 z => ?_)
        obtain ⟨v, z1, z2, z3⟩ := z
        refine ⟨v, z1, ?_, z3⟩
        rw [z2]
        unfold p121_2
        rw [if_neg e2, if_pos e6, if_neg e7]
    · refine ⟨fun e8 => ?_, fun e8 => ?_⟩
      · refine (p121_3c hS hx1).mono (fun o M2 z => ?_)
        obtain ⟨v, z1, z2, z3⟩ := z
        refine ⟨v, z1, ?_, z3⟩
        rw [z2]
        unfold p121_2
        rw [if_neg e2, if_neg e6, if_pos e8]
      · refine (p121_3c hS hx1).mono (fun o M2 z => ?_)
        obtain ⟨v, z1, z2, z3⟩ := z
        refine ⟨v, z1, ?_, z3⟩
        rw [z2]
        unfold p121_2
        rw [if_neg e2, if_neg e6, if_neg e8]
def p121_1 (M : sm_M) (x0 : Nat) (x1 : Nat) (x2 : Int64) : Int64 := p121_2 M x0 x1 x2 (0 : Int32)
def q121_1 (M : sm_M) (x0 : Nat) (x1 : Nat) (x2 : Int64) : Prop := (q121_2 M x0 x1 x2 (0 : Int32))
theorem p121_1c {M : sm_M} {x0 : Nat} {x1 : Nat} {x2 : Int64} (hS : SH M) (hx0 : fS x0) (hx1 : fL x1) (hq : q121_1 M x0 x1 x2) : sm_w 121 (45, [some (.ref x0), some (.ref x1), some (.long (x2)), none, none], []) M (rJ (fun v M2 => v = p121_1 M x0 x1 x2 ∧ M2 = M)) := by
  refine g121_1 (K := (fun v M2 => v = p121_1 M x0 x1 x2 ∧ M2 = M)) hS hx0 hx1 ?_
  unfold q121_1 at hq
  refine (p121_2c hS hx0 hx1 hq).mono (fun o M2 z => ?_)
  obtain ⟨v, z1, z2, z3⟩ := z
  refine ⟨v, z1, ?_, z3⟩
  rw [z2]
  unfold p121_1
  rfl
def p121_0 (M : sm_M) (x0 : Nat) (x1 : Nat) : Int64 := if (iV M x1 0) ≤ 0 then (p121_1 M x0 x1 (((10 : Int64) + ((iV M x1 9).toInt64)) * ((10 : Int64) + ((iV M x1 9).toInt64)))) else (if (p122_0 M (x0 + 1) (iV M x1 0)) = 0 then (p121_1 M x0 x1 (((10 : Int64) + ((iV M x1 9).toInt64)) * ((10 : Int64) + ((iV M x1 9).toInt64)))) else (p121_2 M x0 x1 (((10 : Int64) + ((iV M x1 9).toInt64)) * ((10 : Int64) + ((iV M x1 9).toInt64))) (1 : Int32)))
def q121_0 (M : sm_M) (x0 : Nat) (x1 : Nat) : Prop := (((iV M x1 0) ≤ 0 → (q121_1 M x0 x1 (((10 : Int64) + ((iV M x1 9).toInt64)) * ((10 : Int64) + ((iV M x1 9).toInt64))))) ∧ (¬ (iV M x1 0) ≤ 0 → (q122_0 M (x0 + 1) (iV M x1 0)) ∧ (((p122_0 M (x0 + 1) (iV M x1 0)) = 0 → (q121_1 M x0 x1 (((10 : Int64) + ((iV M x1 9).toInt64)) * ((10 : Int64) + ((iV M x1 9).toInt64))))) ∧ (¬ (p122_0 M (x0 + 1) (iV M x1 0)) = 0 → (q121_2 M x0 x1 (((10 : Int64) + ((iV M x1 9).toInt64)) * ((10 : Int64) + ((iV M x1 9).toInt64))) (1 : Int32))))))
theorem p121_c {M : sm_M} {x0 : Nat} {x1 : Nat} (hS : SH M) (hx0 : fS x0) (hx1 : fL x1) (hq : q121_0 M x0 x1) : sm_cJ 121 [.ref x0, .ref x1] M (fun v M2 => v = p121_0 M x0 x1 ∧ M2 = M) := by
  refine g121_0 (K := (fun v M2 => v = p121_0 M x0 x1 ∧ M2 = M)) hS hx0 hx1 ?_
  unfold q121_0 at hq
  refine ⟨fun e1 => ?_, fun e1 => ?_⟩
  · have hq := hq.1 e1
    refine (p121_1c hS hx0 hx1 hq).mono (fun o M2 z => ?_)
    obtain ⟨v, z1, z2, z3⟩ := z
    refine ⟨v, z1, ?_, z3⟩
    rw [z2]
    unfold p121_0
    rw [if_pos e1]
  · have hq := hq.2 e1
    obtain ⟨d2, hq⟩ := hq
    refine ⟨d2, ?_⟩
    refine ⟨fun e3 => ?_, fun e3 => ?_⟩
    · have hq := hq.1 e3
      refine (p121_1c hS hx0 hx1 hq).mono (fun o M2 z => ?_)
      obtain ⟨v, z1, z2, z3⟩ := z
      refine ⟨v, z1, ?_, z3⟩
      rw [z2]
      unfold p121_0
      rw [if_neg e1, if_pos e3]
    · have hq := hq.2 e3
      refine (p121_2c hS hx0 hx1 hq).mono (fun o M2 z => ?_)
      obtain ⟨v, z1, z2, z3⟩ := z
      refine ⟨v, z1, ?_, z3⟩
      rw [z2]
      unfold p121_0
      rw [if_neg e1, if_neg e3]
-- 123 LineSetter$Setting.costBehind(ILLineSetter$Line;)J
theorem t123 : sP 123 = (3, sp_123, sh_123) := rfl
theorem sr123 : sm_srt sp_123 = true := by decide +kernel
theorem g123_0 {M : sm_M} {x0 : Nat} {x1 : Int32} {x2 : Nat} {K : Int64 → sm_M → Prop} (hS : SH M) (hx0 : fS x0) (hx2 : fL x2) (h : (((if 0 ≤ ((iV M x2 10) - x1) then ((iV M x2 10) - x1) else 0 - ((iV M x2 10) - x1)) ≤ (1 : Int32) → K (0 : Int64) M) ∧ (¬ (if 0 ≤ ((iV M x2 10) - x1) then ((iV M x2 10) - x1) else 0 - ((iV M x2 10) - x1)) ≤ (1 : Int32) → K (10000 : Int64) M))) : sm_w 123 (sm_in sP 123 [.ref x0, .int (x1), .ref x2]) M (rJ K) := by
  show sm_w 123 (0, [some (.ref x0), some (.int (x1)), some (.ref x2)], []) M (rJ K)
  refine sm_w.run t123 sr123 0 7 (M2 := M) (f2 := (if (if 0 ≤ ((iV M x2 10) - x1) then ((iV M x2 10) - x1) else 0 - ((iV M x2 10) - x1)) ≤ (1 : Int32) then 19 else 13, [some (.ref x0), some (.int (x1)), some (.ref x2)], [])) rfl ⟨trivial, sm_K.g (kL_0 hS hx2) (sm_sh.rf _), trivial, trivial, (Nat.le_of_ble_eq_true rfl), trivial, trivial, trivial⟩ ?_
  refine sm_w.ite (fun hc => ?_) (fun hc => ?_)
  · have h := h.1 hc
    refine sm_w.run t123 sr123 9 1 (M2 := M) (f2 := (20, [some (.ref x0), some (.int (x1)), some (.ref x2)], [.long ((0 : Int64))])) rfl ⟨trivial, trivial⟩ ?_
    exact sm_w.end t123 sr123 10 (o := .returned (some (.long ((0 : Int64))))) (M2 := M) rfl trivial (by decide) (⟨_, rfl, h⟩)
  · have h := h.2 hc
    refine sm_w.run t123 sr123 7 2 (M2 := M) (f2 := (20, [some (.ref x0), some (.int (x1)), some (.ref x2)], [.long ((10000 : Int64))])) rfl ⟨trivial, trivial, trivial⟩ ?_
    exact sm_w.end t123 sr123 10 (o := .returned (some (.long ((10000 : Int64))))) (M2 := M) rfl trivial (by decide) (⟨_, rfl, h⟩)
def p123_0 (M : sm_M) (x0 : Nat) (x1 : Int32) (x2 : Nat) : Int64 := if (if 0 ≤ ((iV M x2 10) - x1) then ((iV M x2 10) - x1) else 0 - ((iV M x2 10) - x1)) ≤ (1 : Int32) then (0 : Int64) else (10000 : Int64)
theorem p123_c {M : sm_M} {x0 : Nat} {x1 : Int32} {x2 : Nat} (hS : SH M) (hx0 : fS x0) (hx2 : fL x2) : sm_cJ 123 [.ref x0, .int (x1), .ref x2] M (fun v M2 => v = p123_0 M x0 x1 x2 ∧ M2 = M) := by
  refine g123_0 (K := (fun v M2 => v = p123_0 M x0 x1 x2 ∧ M2 = M)) hS hx0 hx2 ?_
  refine ⟨fun e1 => ?_, fun e1 => ?_⟩
  · refine ⟨?_, rfl⟩
    unfold p123_0
    rw [if_pos e1]
  · refine ⟨?_, rfl⟩
    unfold p123_0
    rw [if_neg e1]
