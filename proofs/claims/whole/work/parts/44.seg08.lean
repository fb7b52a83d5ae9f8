/-! METHODS by their segments. -/
-- 82 LineSetter$Paragraph.append([BII)V
theorem t82 : sP 82 = (5, sp_82, sh_82) := rfl
theorem sr82 : sm_srt sp_82 = true := by decide +kernel
theorem g82_0 {M : sm_M} {x1 : Nat} {nx1 : Nat} {x2 : Int32} {x3 : Int32} {K : sm_M → Prop} (hS : SH M) (hx1 : sA x1 1 nx1) (h : sm_w 82 (3, [some (.ref 30), some (.ref x1), some (.int (x2)), some (.int (x3)), some (.int ((0 : Int32)))], []) M (rV K)) : sm_w 82 (sm_in sP 82 [.ref 30, .ref x1, .int (x2), .int (x3)]) M (rV K) := by
  show sm_w 82 (0, [some (.ref 30), some (.ref x1), some (.int (x2)), some (.int (x3)), none], []) M (rV K)
  refine sm_w.run t82 sr82 0 2 (M2 := M) (f2 := (3, [some (.ref 30), some (.ref x1), some (.int (x2)), some (.int (x3)), some (.int ((0 : Int32)))], [])) rfl ⟨trivial, (Nat.le_of_ble_eq_true rfl), trivial⟩ ?_
  exact h
theorem g82_1 {M : sm_M} {x1 : Nat} {nx1 : Nat} {x2 : Int32} {x3 : Int32} {x4 : Int32} {K : sm_M → Prop} (hS : SH M) (hx1 : sA x1 1 nx1) (h : ((x2 ≤ x4 → K M) ∧ (¬ x2 ≤ x4 → (((Int32.ofNat nx1) ≤ x4 → K M) ∧ (¬ (Int32.ofNat nx1) ≤ x4 → (vp_in x4 nx1) ∧ (((p31_0 M (iV M x1 x4.toNatClampNeg)) = 0 → sm_cV 83 [.ref 30] M (fun M2 => SH M2 → (vp_in x4 nx1) ∧ sm_cV 84 [.ref 30, .int (iV M2 x1 x4.toNatClampNeg), .int (x3)] M2 (fun M6 => SH M6 → sm_w 82 (3, [some (.ref 30), some (.ref x1), some (.int (x2)), some (.int (x3)), some (.int (x4 + (1 : Int32)))], []) M6 (rV K)))) ∧ (¬ (p31_0 M (iV M x1 x4.toNatClampNeg)) = 0 → (((iV M 30 2) ≤ 0 → sm_w 82 (3, [some (.ref 30), some (.ref x1), some (.int (x2)), some (.int (x3)), some (.int (x4 + (1 : Int32)))], []) M (rV K)) ∧ (¬ (iV M 30 2) ≤ 0 → (((iV M 30 3) = 0 → ∀ M9, SH M9 → M9 = sm_wI M 30 3 x3 → sm_w 82 (3, [some (.ref 30), some (.ref x1), some (.int (x2)), some (.int (x3)), some (.int (x4 + (1 : Int32)))], []) M9 (rV K)) ∧ (¬ (iV M 30 3) = 0 → sm_w 82 (3, [some (.ref 30), some (.ref x1), some (.int (x2)), some (.int (x3)), some (.int (x4 + (1 : Int32)))], []) M (rV K)))))))))))) : sm_w 82 (3, [some (.ref 30), some (.ref x1), some (.int (x2)), some (.int (x3)), some (.int (x4))], []) M (rV K) := by
  refine sm_w.run t82 sr82 2 3 (M2 := M) (f2 := (if x2 ≤ x4 then 67 else 9, [some (.ref 30), some (.ref x1), some (.int (x2)), some (.int (x3)), some (.int (x4))], [])) rfl ⟨trivial, trivial, trivial, trivial⟩ ?_
  refine sm_w.ite (fun hc => ?_) (fun hc => ?_)
  · have h := h.1 hc
    exact sm_w.end t82 sr82 34 (o := .returned none) (M2 := M) rfl trivial (by decide) (⟨rfl, h⟩)
  · have h := h.2 hc
    refine sm_w.run t82 sr82 5 3 (M2 := M) (f2 := (13, [some (.ref 30), some (.ref x1), some (.int (x2)), some (.int (x3)), some (.int (x4))], [.int (Int32.ofNat (sm_ln M x1)), .int (x4)])) rfl ⟨trivial, trivial, sm_K.l (hx1.K hS) (sm_sh.rf _) (by decide), trivial⟩ ?_
    refine sm_w.aln (hx1.L hS) ?_
    refine sm_w.run t82 sr82 8 1 (M2 := M) (f2 := (if (Int32.ofNat nx1) ≤ x4 then 67 else 16, [some (.ref 30), some (.ref x1), some (.int (x2)), some (.int (x3)), some (.int (x4))], [])) rfl ⟨trivial, trivial⟩ ?_
    refine sm_w.ite (fun hc => ?_) (fun hc => ?_)
    · have h := h.1 hc
      exact sm_w.end t82 sr82 34 (o := .returned none) (M2 := M) rfl trivial (by decide) (⟨rfl, h⟩)
    · have h := h.2 hc
      obtain ⟨c1, h⟩ := h
      refine sm_w.run t82 sr82 9 3 (M2 := M) (f2 := (20, [some (.ref 30), some (.ref x1), some (.int (x2)), some (.int (x3)), some (.int (x4))], [.int (iV M x1 x4.toNatClampNeg)])) rfl ⟨trivial, trivial, sm_K.a2 (hx1.K hS) (hx1.L hS) c1, trivial⟩ ?_
      refine sm_w.cI t82 sr82 12 (i := 31) (as := [.int (iV M x1 x4.toNatClampNeg)]) (g := (20, [some (.ref 30), some (.ref x1), some (.int (x2)), some (.int (x3)), some (.int (x4))], [])) rfl ⟨(Nat.le_of_ble_eq_true rfl), (Nat.le_of_ble_eq_true rfl)⟩ (Nat.le_of_ble_eq_true rfl) (by decide) (p31_c hS) (fun vz M2 hz => ?_)
      obtain ⟨hz1, hz2⟩ := hz
      subst hz1
      have hz2 := hz2.symm
      subst hz2
      refine sm_w.run t82 sr82 13 1 (M2 := M) (f2 := (if (p31_0 M (iV M x1 x4.toNatClampNeg)) = 0 then 26 else 42, [some (.ref 30), some (.ref x1), some (.int (x2)), some (.int (x3)), some (.int (x4))], [])) rfl ⟨trivial, trivial⟩ ?_
      refine sm_w.ite (fun hc => ?_) (fun hc => ?_)
      · have h := h.1 hc
        refine sm_w.run t82 sr82 14 1 (M2 := M) (f2 := (27, [some (.ref 30), some (.ref x1), some (.int (x2)), some (.int (x3)), some (.int (x4))], [.ref 30])) rfl ⟨trivial, trivial⟩ ?_
        refine sm_w.cV t82 sr82 15 (i := 83) (as := [.ref 30]) (g := (27, [some (.ref 30), some (.ref x1), some (.int (x2)), some (.int (x3)), some (.int (x4))], [])) rfl ⟨by decide, by decide, (Nat.le_of_ble_eq_true rfl), (sm_K.g (k_30 hS) (sm_sh.rf _)).1, (sm_K.g (k_30 hS) (sm_sh.rf _)).2, (Nat.le_of_ble_eq_true rfl)⟩ (Nat.le_of_ble_eq_true rfl) (by decide) (sm_cV.s (by decide) hS h) (fun M2 h => ?_)
        obtain ⟨hS4, h⟩ := h
        obtain ⟨c5, h⟩ := h
        refine sm_w.run t82 sr82 16 5 (M2 := M2) (f2 := (36, [some (.ref 30), some (.ref x1), some (.int (x2)), some (.int (x3)), some (.int (x4))], [.int (x3), .int (iV M2 x1 x4.toNatClampNeg), .ref 30])) rfl ⟨trivial, trivial, trivial, sm_K.a2 (hx1.K hS4) (hx1.L hS4) c5, trivial, trivial⟩ ?_
        refine sm_w.cV t82 sr82 21 (i := 84) (as := [.ref 30, .int (iV M2 x1 x4.toNatClampNeg), .int (x3)]) (g := (36, [some (.ref 30), some (.ref x1), some (.int (x2)), some (.int (x3)), some (.int (x4))], [])) rfl ⟨by decide, by decide, (Nat.le_of_ble_eq_true rfl), (sm_K.g (k_30 hS4) (sm_sh.rf _)).1, (sm_K.g (k_30 hS4) (sm_sh.rf _)).2, (Nat.le_of_ble_eq_true rfl)⟩ (Nat.le_of_ble_eq_true rfl) (by decide) (sm_cV.s (by decide) hS4 h) (fun M6 h => ?_)
        obtain ⟨hS8, h⟩ := h
        refine sm_w.run t82 sr82 22 1 (M2 := M6) (f2 := (61, [some (.ref 30), some (.ref x1), some (.int (x2)), some (.int (x3)), some (.int (x4))], [])) rfl ⟨trivial, trivial⟩ ?_
        refine sm_w.run t82 sr82 32 2 (M2 := M6) (f2 := (3, [some (.ref 30), some (.ref x1), some (.int (x2)), some (.int (x3)), some (.int (x4 + (1 : Int32)))], [])) rfl ⟨(Nat.le_of_ble_eq_true rfl), trivial, trivial⟩ ?_
        exact h
      · have h := h.2 hc
        refine sm_w.run t82 sr82 23 3 (M2 := M) (f2 := (if (iV M 30 2) ≤ 0 then 61 else 49, [some (.ref 30), some (.ref x1), some (.int (x2)), some (.int (x3)), some (.int (x4))], [])) rfl ⟨trivial, sm_K.g (k_30 hS) (sm_sh.rf _), trivial, trivial⟩ ?_
        refine sm_w.ite (fun hc => ?_) (fun hc => ?_)
        · have h := h.1 hc
          refine sm_w.run t82 sr82 32 2 (M2 := M) (f2 := (3, [some (.ref 30), some (.ref x1), some (.int (x2)), some (.int (x3)), some (.int (x4 + (1 : Int32)))], [])) rfl ⟨(Nat.le_of_ble_eq_true rfl), trivial, trivial⟩ ?_
          exact h
        · have h := h.2 hc
          refine sm_w.run t82 sr82 26 3 (M2 := M) (f2 := (if (iV M 30 3) = 0 then 56 else 61, [some (.ref 30), some (.ref x1), some (.int (x2)), some (.int (x3)), some (.int (x4))], [])) rfl ⟨trivial, sm_K.g (k_30 hS) (sm_sh.rf _), trivial, trivial⟩ ?_
          refine sm_w.ite (fun hc => ?_) (fun hc => ?_)
          · have h := h.1 hc
            refine sm_w.run t82 sr82 29 3 (M2 := sm_wI M 30 3 x3) (f2 := (61, [some (.ref 30), some (.ref x1), some (.int (x2)), some (.int (x3)), some (.int (x4))], [])) rfl ⟨trivial, trivial, ⟨(sm_K.p (k_30 hS) (sm_sh.rf _)).1, (sm_K.p (k_30 hS) (sm_sh.rf _)).2.1, (sm_K.p (k_30 hS) (sm_sh.rf _)).2.2, Or.inl rfl⟩, trivial⟩ ?_
            have hS10 : SH (sm_wI M 30 3 x3) := SH.wI hS _ _ _
            have h := h _ hS10 rfl
            generalize sm_wI M 30 3 x3 = M9 at h hS10 ⊢
            refine sm_w.run t82 sr82 32 2 (M2 := M9) (f2 := (3, [some (.ref 30), some (.ref x1), some (.int (x2)), some (.int (x3)), some (.int (x4 + (1 : Int32)))], [])) rfl ⟨(Nat.le_of_ble_eq_true rfl), trivial, trivial⟩ ?_
            exact h
          · have h := h.2 hc
            refine sm_w.run t82 sr82 32 2 (M2 := M) (f2 := (3, [some (.ref 30), some (.ref x1), some (.int (x2)), some (.int (x3)), some (.int (x4 + (1 : Int32)))], [])) rfl ⟨(Nat.le_of_ble_eq_true rfl), trivial, trivial⟩ ?_
            exact h
-- 77 LineSetter.run(I)I
theorem t77 : sP 77 = (3, sp_77, sh_77) := rfl
theorem sr77 : sm_srt sp_77 = true := by decide +kernel
theorem g77_0 {M : sm_M} {x1 : Int32} {K : Int32 → sm_M → Prop} {X : Nat → sm_M → Prop} (hS : SH M)  (h : ∀ M1, SH M1 → M1 = sm_wI M 24 1 (0 : Int32) → ∀ M3, SH M3 → M3 = sm_wI M1 23 16 (-1 : Int32) → ((x1 < (1000 : Int32) → X M3.1 (sm_new M3 48 6)) ∧ (¬ x1 < (1000 : Int32) → ((x1 ≤ (100000 : Int32) → sm_cI 80 [.ref 25, .int (iV M 24 1)] M3 (fun v9 M8 => SH M8 → ∀ M11, SH M11 → M11 = sm_wI M8 23 16 v9 → (((iV M11 23 16) < 0 → sm_cI 81 [.ref 30, .ref 25, .int (iV M 24 1)] M11 (fun v14 M13 => SH M13 → ((v14 ≤ (4000 : Int32) → sm_cV 82 [.ref 30, .ref 25, .int (iV M 24 1), .int (x1)] M13 (fun M16 => SH M16 → K (iV M16 30 2) M16)) ∧ (¬ v14 ≤ (4000 : Int32) → X M13.1 (sm_new M13 51 6))))) ∧ (¬ (iV M11 23 16) < 0 → X M11.1 (sm_new M11 50 6))))) ∧ (¬ x1 ≤ (100000 : Int32) → X M3.1 (sm_new M3 48 6)))))) : sm_w 77 (sm_in sP 77 [.ref 23, .int (x1)]) M (yI X K) := by
  show sm_w 77 (0, [some (.ref 23), some (.int (x1)), none], []) M (yI X K)
  refine sm_w.run t77 sr77 0 2 (M2 := M) (f2 := (4, [some (.ref 23), some (.int (x1)), none], [va_rf (sm_rv M 23 0)])) rfl ⟨trivial, sm_K.g (k_23 hS) (sm_sh.rf _), trivial⟩ ?_
  refine sm_w.fld (r_23_0 hS) ?_
  refine sm_w.run t77 sr77 2 4 (M2 := M) (f2 := (12, [some (.ref 23), some (.int (x1)), some (.int (iV M 24 1))], [va_rf (sm_rv M 23 0)])) rfl ⟨sm_K.g (kB_0 hS fB_24) (sm_sh.rf _), (Nat.le_of_ble_eq_true rfl), trivial, sm_K.g (k_23 hS) (sm_sh.rf _), trivial⟩ ?_
  refine sm_w.fld (r_23_0 hS) ?_
  refine sm_w.run t77 sr77 6 2 (M2 := sm_wI M 24 1 (0 : Int32)) (f2 := (16, [some (.ref 23), some (.int (x1)), some (.int (iV M 24 1))], [])) rfl ⟨trivial, ⟨(sm_K.p (kB_0 hS fB_24) (sm_sh.rf _)).1, (sm_K.p (kB_0 hS fB_24) (sm_sh.rf _)).2.1, (sm_K.p (kB_0 hS fB_24) (sm_sh.rf _)).2.2, Or.inl rfl⟩, trivial⟩ ?_
  have hS2 : SH (sm_wI M 24 1 (0 : Int32)) := SH.wI hS _ _ _
  have h := h _ hS2 rfl
  generalize sm_wI M 24 1 (0 : Int32) = M1 at h hS2 ⊢
  refine sm_w.run t77 sr77 8 3 (M2 := sm_wI M1 23 16 (-1 : Int32)) (f2 := (21, [some (.ref 23), some (.int (x1)), some (.int (iV M 24 1))], [])) rfl ⟨trivial, trivial, ⟨(sm_K.p (k_23 hS2) (sm_sh.rf _)).1, (sm_K.p (k_23 hS2) (sm_sh.rf _)).2.1, (sm_K.p (k_23 hS2) (sm_sh.rf _)).2.2, Or.inl rfl⟩, trivial⟩ ?_
  have hS4 : SH (sm_wI M1 23 16 (-1 : Int32)) := SH.wI hS2 _ _ _
  have h := h _ hS4 rfl
  generalize sm_wI M1 23 16 (-1 : Int32) = M3 at h hS4 ⊢
  refine sm_w.run t77 sr77 11 2 (M2 := M3) (f2 := (23, [some (.ref 23), some (.int (x1)), some (.int (iV M 24 1))], [.int (x1), .ref 23])) rfl ⟨trivial, trivial, trivial⟩ ?_
  refine sm_w.zV t77 sr77 13 (i := 78) (as := [.ref 23, .int (x1)]) (g := (23, [some (.ref 23), some (.int (x1)), some (.int (iV M 24 1))], [])) rfl ⟨by decide, by decide, (Nat.le_of_ble_eq_true rfl), (sm_K.g (k_23 hS4) (sm_sh.rf _)).1, (sm_K.g (k_23 hS4) (sm_sh.rf _)).2, (Nat.le_of_ble_eq_true rfl)⟩ (Nat.le_of_ble_eq_true rfl) (by decide) rfl (fun r M2 h => Or.inl ⟨r, rfl, h⟩) (sm_xV.s2 (by decide) hS4 (g78_0 (K := fun M5 => sm_cI 80 [.ref 25, .int (iV M 24 1)] M5 (fun v9 M8 => SH M8 → ∀ M11, SH M11 → M11 = sm_wI M8 23 16 v9 → (((iV M11 23 16) < 0 → sm_cI 81 [.ref 30, .ref 25, .int (iV M 24 1)] M11 (fun v14 M13 => SH M13 → ((v14 ≤ (4000 : Int32) → sm_cV 82 [.ref 30, .ref 25, .int (iV M 24 1), .int (x1)] M13 (fun M16 => SH M16 → K (iV M16 30 2) M16)) ∧ (¬ v14 ≤ (4000 : Int32) → X M13.1 (sm_new M13 51 6))))) ∧ (¬ (iV M11 23 16) < 0 → X M11.1 (sm_new M11 50 6))))) hS4 h)) (fun M5 h => ?_)
  obtain ⟨hS7, h⟩ := h
  refine sm_w.run t77 sr77 14 3 (M2 := M5) (f2 := (31, [some (.ref 23), some (.int (x1)), some (.int (iV M 24 1))], [va_rf (sm_rv M5 23 0), .ref 23])) rfl ⟨trivial, trivial, sm_K.g (k_23 hS7) (sm_sh.rf _), trivial⟩ ?_
  refine sm_w.fld (r_23_0 hS7) ?_
  refine sm_w.run t77 sr77 17 1 (M2 := M5) (f2 := (34, [some (.ref 23), some (.int (x1)), some (.int (iV M 24 1))], [va_rf (sm_rv M5 24 0), .ref 23])) rfl ⟨sm_K.g (kB_0 hS7 fB_24) (sm_sh.rf _), trivial⟩ ?_
  refine sm_w.fld (r_24_0 hS7) ?_
  refine sm_w.run t77 sr77 18 1 (M2 := M5) (f2 := (35, [some (.ref 23), some (.int (x1)), some (.int (iV M 24 1))], [.int (iV M 24 1), .ref 25, .ref 23])) rfl ⟨trivial, trivial⟩ ?_
  refine sm_w.cI t77 sr77 19 (i := 80) (as := [.ref 25, .int (iV M 24 1)]) (g := (35, [some (.ref 23), some (.int (x1)), some (.int (iV M 24 1))], [.ref 23])) rfl ⟨(Nat.le_of_ble_eq_true rfl), (Nat.le_of_ble_eq_true rfl)⟩ (Nat.le_of_ble_eq_true rfl) (by decide) (sm_cI.s (by decide) hS7 h) (fun v9 M8 h => ?_)
  obtain ⟨hS10, h⟩ := h
  refine sm_w.run t77 sr77 20 1 (M2 := sm_wI M8 23 16 v9) (f2 := (41, [some (.ref 23), some (.int (x1)), some (.int (iV M 24 1))], [])) rfl ⟨⟨(sm_K.p (k_23 hS10) (sm_sh.rf _)).1, (sm_K.p (k_23 hS10) (sm_sh.rf _)).2.1, (sm_K.p (k_23 hS10) (sm_sh.rf _)).2.2, Or.inl rfl⟩, trivial⟩ ?_
  have hS12 : SH (sm_wI M8 23 16 v9) := SH.wI hS10 _ _ _
  have h := h _ hS12 rfl
  generalize sm_wI M8 23 16 v9 = M11 at h hS12 ⊢
  refine sm_w.run t77 sr77 21 3 (M2 := M11) (f2 := (if (iV M11 23 16) < 0 then 58 else 48, [some (.ref 23), some (.int (x1)), some (.int (iV M 24 1))], [])) rfl ⟨trivial, sm_K.g (k_23 hS12) (sm_sh.rf _), trivial, trivial⟩ ?_
  refine sm_w.ite (fun hc => ?_) (fun hc => ?_)
  · have h := h.1 hc
    refine sm_w.run t77 sr77 25 2 (M2 := M11) (f2 := (62, [some (.ref 23), some (.int (x1)), some (.int (iV M 24 1))], [va_rf (sm_rv M11 23 4)])) rfl ⟨trivial, sm_K.g (k_23 hS12) (sm_sh.rf _), trivial⟩ ?_
    refine sm_w.fld (r_23_4 hS12) ?_
    refine sm_w.run t77 sr77 27 2 (M2 := M11) (f2 := (66, [some (.ref 23), some (.int (x1)), some (.int (iV M 24 1))], [va_rf (sm_rv M11 23 0), .ref 30])) rfl ⟨trivial, sm_K.g (k_23 hS12) (sm_sh.rf _), trivial⟩ ?_
    refine sm_w.fld (r_23_0 hS12) ?_
    refine sm_w.run t77 sr77 29 1 (M2 := M11) (f2 := (69, [some (.ref 23), some (.int (x1)), some (.int (iV M 24 1))], [va_rf (sm_rv M11 24 0), .ref 30])) rfl ⟨sm_K.g (kB_0 hS12 fB_24) (sm_sh.rf _), trivial⟩ ?_
    refine sm_w.fld (r_24_0 hS12) ?_
    refine sm_w.run t77 sr77 30 1 (M2 := M11) (f2 := (70, [some (.ref 23), some (.int (x1)), some (.int (iV M 24 1))], [.int (iV M 24 1), .ref 25, .ref 30])) rfl ⟨trivial, trivial⟩ ?_
    refine sm_w.cI t77 sr77 31 (i := 81) (as := [.ref 30, .ref 25, .int (iV M 24 1)]) (g := (70, [some (.ref 23), some (.int (x1)), some (.int (iV M 24 1))], [])) rfl ⟨by decide, by decide, (Nat.le_of_ble_eq_true rfl), (sm_K.g (k_30 hS12) (sm_sh.rf _)).1, (sm_K.g (k_30 hS12) (sm_sh.rf _)).2, (Nat.le_of_ble_eq_true rfl)⟩ (Nat.le_of_ble_eq_true rfl) (by decide) (sm_cI.s (by decide) hS12 h) (fun v14 M13 h => ?_)
    obtain ⟨hS15, h⟩ := h
    refine sm_w.run t77 sr77 32 2 (M2 := M13) (f2 := (if v14 ≤ (4000 : Int32) then 89 else 79, [some (.ref 23), some (.int (x1)), some (.int (iV M 24 1))], [])) rfl ⟨trivial, trivial, trivial⟩ ?_
    refine sm_w.ite (fun hc => ?_) (fun hc => ?_)
    · have h := h.1 hc
      refine sm_w.run t77 sr77 35 2 (M2 := M13) (f2 := (93, [some (.ref 23), some (.int (x1)), some (.int (iV M 24 1))], [va_rf (sm_rv M13 23 4)])) rfl ⟨trivial, sm_K.g (k_23 hS15) (sm_sh.rf _), trivial⟩ ?_
      refine sm_w.fld (r_23_4 hS15) ?_
      refine sm_w.run t77 sr77 37 2 (M2 := M13) (f2 := (97, [some (.ref 23), some (.int (x1)), some (.int (iV M 24 1))], [va_rf (sm_rv M13 23 0), .ref 30])) rfl ⟨trivial, sm_K.g (k_23 hS15) (sm_sh.rf _), trivial⟩ ?_
      refine sm_w.fld (r_23_0 hS15) ?_
      refine sm_w.run t77 sr77 39 1 (M2 := M13) (f2 := (100, [some (.ref 23), some (.int (x1)), some (.int (iV M 24 1))], [va_rf (sm_rv M13 24 0), .ref 30])) rfl ⟨sm_K.g (kB_0 hS15 fB_24) (sm_sh.rf _), trivial⟩ ?_
      refine sm_w.fld (r_24_0 hS15) ?_
      refine sm_w.run t77 sr77 40 2 (M2 := M13) (f2 := (102, [some (.ref 23), some (.int (x1)), some (.int (iV M 24 1))], [.int (x1), .int (iV M 24 1), .ref 25, .ref 30])) rfl ⟨trivial, trivial, trivial⟩ ?_
      refine sm_w.cV t77 sr77 42 (i := 82) (as := [.ref 30, .ref 25, .int (iV M 24 1), .int (x1)]) (g := (102, [some (.ref 23), some (.int (x1)), some (.int (iV M 24 1))], [])) rfl ⟨by decide, by decide, (Nat.le_of_ble_eq_true rfl), (sm_K.g (k_30 hS15) (sm_sh.rf _)).1, (sm_K.g (k_30 hS15) (sm_sh.rf _)).2, (Nat.le_of_ble_eq_true rfl)⟩ (Nat.le_of_ble_eq_true rfl) (by decide) (sm_cV.s (by decide) hS15 h) (fun M16 h => ?_)
      obtain ⟨hS18, h⟩ := h
      refine sm_w.run t77 sr77 43 2 (M2 := M16) (f2 := (109, [some (.ref 23), some (.int (x1)), some (.int (iV M 24 1))], [va_rf (sm_rv M16 23 4)])) rfl ⟨trivial, sm_K.g (k_23 hS18) (sm_sh.rf _), trivial⟩ ?_
      refine sm_w.fld (r_23_4 hS18) ?_
      refine sm_w.run t77 sr77 45 1 (M2 := M16) (f2 := (112, [some (.ref 23), some (.int (x1)), some (.int (iV M 24 1))], [.int (iV M16 30 2)])) rfl ⟨sm_K.g (k_30 hS18) (sm_sh.rf _), trivial⟩ ?_
      exact sm_w.end t77 sr77 46 (o := .returned (some (.int (iV M16 30 2)))) (M2 := M16) rfl rfl (by decide) (Or.inr ⟨_, rfl, h⟩)
    · have h := h.2 hc
      exact sm_w.end t77 sr77 34 (o := .threw M13.1) (M2 := sm_new M13 51 6) rfl (Nat.le_of_ble_eq_true rfl) (by decide) (Or.inl ⟨_, rfl, h⟩)
  · have h := h.2 hc
    exact sm_w.end t77 sr77 24 (o := .threw M11.1) (M2 := sm_new M11 50 6) rfl (Nat.le_of_ble_eq_true rfl) (by decide) (Or.inl ⟨_, rfl, h⟩)
-- 76 LineSetterLaw.run(LLineSetter;I[J)I
theorem t76 : sP 76 = (4, sp_76, sh_76) := rfl
theorem sr76 : sm_srt sp_76 = true := by decide +kernel
theorem g76_0 {M : sm_M} {x1 : Int32} {K : Int32 → sm_M → Prop} (hS : SH M)  (h : sm_xI 77 [.ref 23, .int (x1)] M (fun r0 M0 => (sm_kd M0 r0 = 48 ∧ SH M0 ∧ K (1 : Int32) M0) ∨ (sm_kd M0 r0 = 50 ∧ SH M0 ∧ K (2 : Int32) M0) ∨ (sm_kd M0 r0 = 51 ∧ SH M0 ∧ K (3 : Int32) M0)) (fun v2 M1 => SH M1 → (vp_in (0 : Int32) 1) ∧ ∀ M5, SH M5 → M5 = sm_wJ M1 164 (0 : Int32).toNatClampNeg v2.toInt64 → K (0 : Int32) M5)) : sm_w 76 (sm_in sP 76 [.ref 23, .int (x1), .ref 164]) M (rI K) := by
  show sm_w 76 (0, [some (.ref 23), some (.int (x1)), some (.ref 164), none], []) M (rI K)
  refine sm_w.run t76 sr76 0 4 (M2 := M) (f2 := (4, [some (.ref 23), some (.int (x1)), some (.ref 164), none], [.int (x1), .ref 23, .int ((0 : Int32)), .ref 164])) rfl ⟨trivial, trivial, trivial, trivial, trivial⟩ ?_
  refine sm_w.yI t76 sr76 4 (i := 77) (as := [.ref 23, .int (x1)]) (g := (4, [some (.ref 23), some (.int (x1)), some (.ref 164), none], [.int ((0 : Int32)), .ref 164])) rfl ⟨by decide, by decide, (Nat.le_of_ble_eq_true rfl), (sm_K.g (k_23 hS) (sm_sh.rf _)).1, (sm_K.g (k_23 hS) (sm_sh.rf _)).2, (Nat.le_of_ble_eq_true rfl)⟩ (Nat.le_of_ble_eq_true rfl) (by decide) (sm_xI.s (by decide) hS h) (fun r0 M0 h => ?_) (fun v2 M1 h => ?_)
  · rcases h with ⟨hk, hS0, h⟩ | ⟨hk, hS0, h⟩ | ⟨hk, hS0, h⟩
    · refine ⟨12, by rw [hk]; rfl, ?_⟩
      refine sm_w.run t76 sr76 8 2 (M2 := M0) (f2 := (14, [some (.ref 23), some (.int (x1)), some (.ref 164), some (.ref r0)], [.int ((1 : Int32))])) rfl ⟨(Nat.le_of_ble_eq_true rfl), trivial, trivial⟩ ?_
      exact sm_w.end t76 sr76 10 (o := .returned (some (.int ((1 : Int32))))) (M2 := M0) rfl rfl (by decide) (⟨_, rfl, h⟩)
    · refine ⟨15, by rw [hk]; rfl, ?_⟩
      refine sm_w.run t76 sr76 11 2 (M2 := M0) (f2 := (17, [some (.ref 23), some (.int (x1)), some (.ref 164), some (.ref r0)], [.int ((2 : Int32))])) rfl ⟨(Nat.le_of_ble_eq_true rfl), trivial, trivial⟩ ?_
      exact sm_w.end t76 sr76 13 (o := .returned (some (.int ((2 : Int32))))) (M2 := M0) rfl rfl (by decide) (⟨_, rfl, h⟩)
    · refine ⟨18, by rw [hk]; rfl, ?_⟩
      refine sm_w.run t76 sr76 14 2 (M2 := M0) (f2 := (20, [some (.ref 23), some (.int (x1)), some (.ref 164), some (.ref r0)], [.int ((3 : Int32))])) rfl ⟨(Nat.le_of_ble_eq_true rfl), trivial, trivial⟩ ?_
      exact sm_w.end t76 sr76 16 (o := .returned (some (.int ((3 : Int32))))) (M2 := M0) rfl rfl (by decide) (⟨_, rfl, h⟩)
  · obtain ⟨hS3, h⟩ := h
    obtain ⟨c4, h⟩ := h
    refine sm_w.run t76 sr76 5 2 (M2 := sm_wJ M1 164 (0 : Int32).toNatClampNeg v2.toInt64) (f2 := (9, [some (.ref 23), some (.int (x1)), some (.ref 164), none], [])) rfl ⟨trivial, sm_K.s2 (k_164 hS3) (l_164 hS3) c4, trivial⟩ ?_
    have hS6 : SH (sm_wJ M1 164 (0 : Int32).toNatClampNeg v2.toInt64) := SH.wJ hS3 _ _ _
    have h := h _ hS6 rfl
    generalize sm_wJ M1 164 (0 : Int32).toNatClampNeg v2.toInt64 = M5 at h hS6 ⊢
    refine sm_w.run t76 sr76 7 1 (M2 := M5) (f2 := (21, [some (.ref 23), some (.int (x1)), some (.ref 164), none], [])) rfl ⟨trivial, trivial⟩ ?_
    refine sm_w.run t76 sr76 17 1 (M2 := M5) (f2 := (22, [some (.ref 23), some (.int (x1)), some (.ref 164), none], [.int ((0 : Int32))])) rfl ⟨trivial, trivial⟩ ?_
    exact sm_w.end t76 sr76 18 (o := .returned (some (.int ((0 : Int32))))) (M2 := M5) rfl rfl (by decide) (⟨_, rfl, h⟩)
-- 89 LineSetter.isLetter(I)Z
theorem t89 : sP 89 = (1, sp_89, sh_89) := rfl
theorem sr89 : sm_srt sp_89 = true := by decide +kernel
theorem g89_0 {M : sm_M} {x0 : Int32} {K : Int32 → sm_M → Prop} (hS : SH M)  (h : (((p41_0 M x0) = 0 → ((x0 < (65 : Int32) → K (0 : Int32) M) ∧ (¬ x0 < (65 : Int32) → (((90 : Int32) < x0 → K (0 : Int32) M) ∧ (¬ (90 : Int32) < x0 → K (1 : Int32) M))))) ∧ (¬ (p41_0 M x0) = 0 → K (1 : Int32) M))) : sm_w 89 (sm_in sP 89 [.int (x0)]) M (rI K) := by
  show sm_w 89 (0, [some (.int (x0))], []) M (rI K)
  refine sm_w.run t89 sr89 0 1 (M2 := M) (f2 := (1, [some (.int (x0))], [.int (x0)])) rfl ⟨trivial, trivial⟩ ?_
  refine sm_w.cI t89 sr89 1 (i := 41) (as := [.int (x0)]) (g := (1, [some (.int (x0))], [])) rfl ⟨(Nat.le_of_ble_eq_true rfl), (Nat.le_of_ble_eq_true rfl)⟩ (Nat.le_of_ble_eq_true rfl) (by decide) (p41_c hS) (fun vz M2 hz => ?_)
  obtain ⟨hz1, hz2⟩ := hz
  subst hz1
  have hz2 := hz2.symm
  subst hz2
  refine sm_w.run t89 sr89 2 1 (M2 := M) (f2 := (if (p41_0 M x0) = 0 then 7 else 19, [some (.int (x0))], [])) rfl ⟨trivial, trivial⟩ ?_
  refine sm_w.ite (fun hc => ?_) (fun hc => ?_)
  · have h := h.1 hc
    refine sm_w.run t89 sr89 3 3 (M2 := M) (f2 := (if x0 < (65 : Int32) then 23 else 13, [some (.int (x0))], [])) rfl ⟨trivial, trivial, trivial, trivial⟩ ?_
    refine sm_w.ite (fun hc => ?_) (fun hc => ?_)
    · have h := h.1 hc
      refine sm_w.run t89 sr89 11 1 (M2 := M) (f2 := (24, [some (.int (x0))], [.int ((0 : Int32))])) rfl ⟨trivial, trivial⟩ ?_
      exact sm_w.end t89 sr89 12 (o := .returned (some (.int ((0 : Int32))))) (M2 := M) rfl rfl (by decide) (⟨_, rfl, h⟩)
    · have h := h.2 hc
      refine sm_w.run t89 sr89 6 3 (M2 := M) (f2 := (if (90 : Int32) < x0 then 23 else 19, [some (.int (x0))], [])) rfl ⟨trivial, trivial, trivial, trivial⟩ ?_
      refine sm_w.ite (fun hc => ?_) (fun hc => ?_)
      · have h := h.1 hc
        refine sm_w.run t89 sr89 11 1 (M2 := M) (f2 := (24, [some (.int (x0))], [.int ((0 : Int32))])) rfl ⟨trivial, trivial⟩ ?_
        exact sm_w.end t89 sr89 12 (o := .returned (some (.int ((0 : Int32))))) (M2 := M) rfl rfl (by decide) (⟨_, rfl, h⟩)
      · have h := h.2 hc
        refine sm_w.run t89 sr89 9 2 (M2 := M) (f2 := (24, [some (.int (x0))], [.int ((1 : Int32))])) rfl ⟨trivial, trivial, trivial⟩ ?_
        exact sm_w.end t89 sr89 12 (o := .returned (some (.int ((1 : Int32))))) (M2 := M) rfl rfl (by decide) (⟨_, rfl, h⟩)
  · have h := h.2 hc
    refine sm_w.run t89 sr89 9 2 (M2 := M) (f2 := (24, [some (.int (x0))], [.int ((1 : Int32))])) rfl ⟨trivial, trivial, trivial⟩ ?_
    exact sm_w.end t89 sr89 12 (o := .returned (some (.int ((1 : Int32))))) (M2 := M) rfl rfl (by decide) (⟨_, rfl, h⟩)
def p89_0 (M : sm_M) (x0 : Int32) : Int32 := if (p41_0 M x0) = 0 then (if x0 < (65 : Int32) then (0 : Int32) else (if (90 : Int32) < x0 then (0 : Int32) else (1 : Int32))) else (1 : Int32)
theorem p89_c {M : sm_M} {x0 : Int32} (hS : SH M)  : sm_cI 89 [.int (x0)] M (fun v M2 => v = p89_0 M x0 ∧ M2 = M) := by
  refine g89_0 (K := (fun v M2 => v = p89_0 M x0 ∧ M2 = M)) hS ?_
  refine ⟨fun e1 => ?_, fun e1 => ?_⟩
  · refine ⟨fun e2 => ?_, fun e2 => ?_⟩
    · refine ⟨?_, rfl⟩
      unfold p89_0
      rw [if_pos e1, if_pos e2]
    · refine ⟨fun e3 => ?_, fun e3 => ?_⟩
      · refine ⟨?_, rfl⟩
        unfold p89_0
        rw [if_pos e1, if_neg e2, if_pos e3]
      · refine ⟨?_, rfl⟩
        unfold p89_0
        rw [if_pos e1, if_neg e2, if_neg e3]
  · refine ⟨?_, rfl⟩
    unfold p89_0
    rw [if_neg e1]
-- 93 java/util/Arrays.rangeCheck(III)V
theorem t93 : sP 93 = (3, sp_93, sh_93) := rfl
theorem sr93 : sm_srt sp_93 = true := by decide +kernel
theorem g93_0 {M : sm_M} {x0 : Int32} {x1 : Int32} {x2 : Int32} {K : sm_M → Prop} (hS : SH M)  (h : ((x1 ≤ x2 → ((0 ≤ x1 → ((x2 ≤ x0 → K M) ∧ (¬ x2 ≤ x0 → False))) ∧ (¬ 0 ≤ x1 → False))) ∧ (¬ x1 ≤ x2 → False))) : sm_w 93 (sm_in sP 93 [.int (x0), .int (x1), .int (x2)]) M (rV K) := by
  show sm_w 93 (0, [some (.int (x0)), some (.int (x1)), some (.int (x2))], []) M (rV K)
  refine sm_w.run t93 sr93 0 3 (M2 := M) (f2 := (if x1 ≤ x2 then 46 else 5, [some (.int (x0)), some (.int (x1)), some (.int (x2))], [])) rfl ⟨trivial, trivial, trivial, trivial⟩ ?_
  refine sm_w.ite (fun hc => ?_) (fun hc => ?_)
  · have h := h.1 hc
    refine sm_w.run t93 sr93 7 2 (M2 := M) (f2 := (if 0 ≤ x1 then 59 else 50, [some (.int (x0)), some (.int (x1)), some (.int (x2))], [])) rfl ⟨trivial, trivial, trivial⟩ ?_
    refine sm_w.ite (fun hc => ?_) (fun hc => ?_)
    · have h := h.1 hc
      refine sm_w.run t93 sr93 11 3 (M2 := M) (f2 := (if x2 ≤ x0 then 73 else 64, [some (.int (x0)), some (.int (x1)), some (.int (x2))], [])) rfl ⟨trivial, trivial, trivial, trivial⟩ ?_
      refine sm_w.ite (fun hc => ?_) (fun hc => ?_)
      · have h := h.1 hc
        exact sm_w.end t93 sr93 16 (o := .returned none) (M2 := M) rfl trivial (by decide) (⟨rfl, h⟩)
      · have h := h.2 hc
        exact h.elim
    · have h := h.2 hc
      exact h.elim
  · have h := h.2 hc
    exact h.elim
def q93_0 (M : sm_M) (x0 : Int32) (x1 : Int32) (x2 : Int32) : Prop := ((x1 ≤ x2 → ((0 ≤ x1 → ((x2 ≤ x0 → True) ∧ (¬ x2 ≤ x0 → (False)))) ∧ (¬ 0 ≤ x1 → (False)))) ∧ (¬ x1 ≤ x2 → (False)))
theorem p93_c {M : sm_M} {x0 : Int32} {x1 : Int32} {x2 : Int32} (hS : SH M)  (hq : q93_0 M x0 x1 x2) : sm_cV 93 [.int (x0), .int (x1), .int (x2)] M (fun M2 => M2 = M) := by
  refine g93_0 (K := (fun M2 => M2 = M)) hS ?_
  unfold q93_0 at hq
  refine ⟨fun e1 => ?_, fun e1 => ?_⟩
  · have hq := hq.1 e1
    refine ⟨fun e2 => ?_, fun e2 => ?_⟩
    · have hq := hq.1 e2
      refine ⟨fun e3 => ?_, fun e3 => ?_⟩
      · exact rfl
      · have hq := hq.2 e3
        exact hq
    · have hq := hq.2 e2
      exact hq
  · have hq := hq.2 e1
    exact hq
-- 92 java/util/Arrays.fill([IIII)V
theorem t92 : sP 92 = (5, sp_92, sh_92) := rfl
theorem sr92 : sm_srt sp_92 = true := by decide +kernel
theorem g92_0 {M : sm_M} {x0 : Nat} {nx0 : Nat} {x1 : Int32} {x2 : Int32} {x3 : Int32} {K : sm_M → Prop} (hS : SH M) (hx0 : sA x0 0 nx0) (h : (q93_0 M (Int32.ofNat nx0) x1 x2) ∧ sm_w 92 (10, [some (.ref x0), none, some (.int (x2)), some (.int (x3)), some (.int (x1))], []) M (rV K)) : sm_w 92 (sm_in sP 92 [.ref x0, .int (x1), .int (x2), .int (x3)]) M (rV K) := by
  show sm_w 92 (0, [some (.ref x0), some (.int (x1)), some (.int (x2)), some (.int (x3)), none], []) M (rV K)
  refine sm_w.run t92 sr92 0 2 (M2 := M) (f2 := (2, [some (.ref x0), some (.int (x1)), some (.int (x2)), some (.int (x3)), none], [.int (Int32.ofNat (sm_ln M x0))])) rfl ⟨trivial, sm_K.l (hx0.K hS) (sm_sh.rf _) (by decide), trivial⟩ ?_
  refine sm_w.aln (hx0.L hS) ?_
  obtain ⟨c1, h⟩ := h
  refine sm_w.run t92 sr92 2 2 (M2 := M) (f2 := (4, [some (.ref x0), some (.int (x1)), some (.int (x2)), some (.int (x3)), none], [.int (x2), .int (x1), .int (Int32.ofNat nx0)])) rfl ⟨trivial, trivial, trivial⟩ ?_
  refine sm_w.cV t92 sr92 4 (i := 93) (as := [.int (Int32.ofNat nx0), .int (x1), .int (x2)]) (g := (4, [some (.ref x0), some (.int (x1)), some (.int (x2)), some (.int (x3)), none], [])) rfl ⟨(Nat.le_of_ble_eq_true rfl), (Nat.le_of_ble_eq_true rfl)⟩ (Nat.le_of_ble_eq_true rfl) (by decide) (p93_c hS c1) (fun M2 hz => ?_)
  have hz := hz.symm
  subst hz
  refine sm_w.run t92 sr92 5 2 (M2 := M) (f2 := (10, [some (.ref x0), some (.int (x1)), some (.int (x2)), some (.int (x3)), some (.int (x1))], [])) rfl ⟨trivial, (Nat.le_of_ble_eq_true rfl), trivial⟩ ?_
  refine sm_w.weak (ls := [some (.ref x0), none, some (.int (x2)), some (.int (x3)), some (.int (x1))]) (sm_leI [true, false, true, true, true] rfl) ?_
  exact h
theorem g92_1 {M : sm_M} {x0 : Nat} {nx0 : Nat} {x2 : Int32} {x3 : Int32} {x4 : Int32} {K : sm_M → Prop} (hS : SH M) (hx0 : sA x0 0 nx0) (h : ((x2 ≤ x4 → K M) ∧ (¬ x2 ≤ x4 → (vp_in x4 nx0) ∧ ∀ M2, SH M2 → M2 = sm_wI M x0 x4.toNatClampNeg x3 → sm_w 92 (10, [some (.ref x0), none, some (.int (x2)), some (.int (x3)), some (.int (x4 + (1 : Int32)))], []) M2 (rV K)))) : sm_w 92 (10, [some (.ref x0), none, some (.int (x2)), some (.int (x3)), some (.int (x4))], []) M (rV K) := by
  refine sm_w.run t92 sr92 7 3 (M2 := M) (f2 := (if x2 ≤ x4 then 27 else 16, [some (.ref x0), none, some (.int (x2)), some (.int (x3)), some (.int (x4))], [])) rfl ⟨trivial, trivial, trivial, trivial⟩ ?_
  refine sm_w.ite (fun hc => ?_) (fun hc => ?_)
  · have h := h.1 hc
    exact sm_w.end t92 sr92 16 (o := .returned none) (M2 := M) rfl trivial (by decide) (⟨rfl, h⟩)
  · have h := h.2 hc
    obtain ⟨c1, h⟩ := h
    refine sm_w.run t92 sr92 10 4 (M2 := sm_wI M x0 x4.toNatClampNeg x3) (f2 := (21, [some (.ref x0), none, some (.int (x2)), some (.int (x3)), some (.int (x4))], [])) rfl ⟨trivial, trivial, trivial, sm_K.s2 (hx0.K hS) (hx0.L hS) c1, trivial⟩ ?_
    have hS3 : SH (sm_wI M x0 x4.toNatClampNeg x3) := SH.wI hS _ _ _
    have h := h _ hS3 rfl
    generalize sm_wI M x0 x4.toNatClampNeg x3 = M2 at h hS3 ⊢
    refine sm_w.run t92 sr92 14 2 (M2 := M2) (f2 := (10, [some (.ref x0), none, some (.int (x2)), some (.int (x3)), some (.int (x4 + (1 : Int32)))], [])) rfl ⟨(Nat.le_of_ble_eq_true rfl), trivial, trivial⟩ ?_
    exact h
-- 94 LineSetter$HyphenTable.raiseLevelsBy(JII)V
theorem t94 : sP 94 = (7, sp_94, sh_94) := rfl
theorem sr94 : sm_srt sp_94 = true := by decide +kernel
theorem g94_0 {M : sm_M} {x0 : Nat} {x1 : Int64} {x3 : Int32} {x4 : Int32} {K : sm_M → Prop} (hS : SH M) (hx0 : fH x0) (h : sm_w 94 (3, [some (.ref x0), some (.long (x1)), none, some (.int (x3)), some (.int (x4)), some (.int ((0 : Int32))), none], []) M (rV K)) : sm_w 94 (sm_in sP 94 [.ref x0, .long (x1), .int (x3), .int (x4)]) M (rV K) := by
  show sm_w 94 (0, [some (.ref x0), some (.long (x1)), none, some (.int (x3)), some (.int (x4)), none, none], []) M (rV K)
  refine sm_w.run t94 sr94 0 2 (M2 := M) (f2 := (3, [some (.ref x0), some (.long (x1)), none, some (.int (x3)), some (.int (x4)), some (.int ((0 : Int32))), none], [])) rfl ⟨trivial, (Nat.le_of_ble_eq_true rfl), trivial⟩ ?_
  exact h
theorem g94_1 {M : sm_M} {x0 : Nat} {x1 : Int64} {x3 : Int32} {x4 : Int32} {x5 : Int32} {K : sm_M → Prop} (hS : SH M) (hx0 : fH x0) (h : (((12 : Int32) < x5 → K M) ∧ (¬ (12 : Int32) < x5 → ((x4 < (x3 + x5) → K M) ∧ (¬ x4 < (x3 + x5) → (vp_in (x3 + x5) 4001) ∧ ∀ M2, SH M2 → M2 = sm_wI M (x0 + 9) (x3 + x5).toNatClampNeg (if (iV M (x0 + 9) (x3 + x5).toNatClampNeg) < (((x1 >>> (((4 : Int32) * x5).toInt64 &&& 63)).toInt32) &&& (15 : Int32)) then (((x1 >>> (((4 : Int32) * x5).toInt64 &&& 63)).toInt32) &&& (15 : Int32)) else (iV M (x0 + 9) (x3 + x5).toNatClampNeg)) → sm_w 94 (3, [some (.ref x0), some (.long (x1)), none, some (.int (x3)), some (.int (x4)), some (.int (x5 + (1 : Int32))), none], []) M2 (rV K)))))) : sm_w 94 (3, [some (.ref x0), some (.long (x1)), none, some (.int (x3)), some (.int (x4)), some (.int (x5)), none], []) M (rV K) := by
  refine sm_w.run t94 sr94 2 3 (M2 := M) (f2 := (if (12 : Int32) < x5 then 60 else 10, [some (.ref x0), some (.long (x1)), none, some (.int (x3)), some (.int (x4)), some (.int (x5)), none], [])) rfl ⟨trivial, trivial, trivial, trivial⟩ ?_
  refine sm_w.ite (fun hc => ?_) (fun hc => ?_)
  · have h := h.1 hc
    exact sm_w.end t94 sr94 35 (o := .returned none) (M2 := M) rfl trivial (by decide) (⟨rfl, h⟩)
  · have h := h.2 hc
    refine sm_w.run t94 sr94 5 5 (M2 := M) (f2 := (if x4 < (x3 + x5) then 60 else 19, [some (.ref x0), some (.long (x1)), none, some (.int (x3)), some (.int (x4)), some (.int (x5)), none], [])) rfl ⟨trivial, trivial, trivial, trivial, trivial, trivial⟩ ?_
    refine sm_w.ite (fun hc => ?_) (fun hc => ?_)
    · have h := h.1 hc
      exact sm_w.end t94 sr94 35 (o := .returned none) (M2 := M) rfl trivial (by decide) (⟨rfl, h⟩)
    · have h := h.2 hc
      refine sm_w.run t94 sr94 10 11 (M2 := M) (f2 := (35, [some (.ref x0), some (.long (x1)), none, some (.int (x3)), some (.int (x4)), some (.int (x5)), some (.int (((x1 >>> (((4 : Int32) * x5).toInt64 &&& 63)).toInt32) &&& (15 : Int32)))], [va_rf (sm_rv M x0 13)])) rfl ⟨trivial, trivial, trivial, trivial, trivial, trivial, trivial, trivial, (Nat.le_of_ble_eq_true rfl), trivial, sm_K.g (kH_0 hS hx0) (sm_sh.rf _), trivial⟩ ?_
      refine sm_w.fld (rH_13 hS hx0) ?_
      refine sm_w.run t94 sr94 21 5 (M2 := M) (f2 := (43, [some (.ref x0), some (.long (x1)), none, some (.int (x3)), some (.int (x4)), some (.int (x5)), some (.int (((x1 >>> (((4 : Int32) * x5).toInt64 &&& 63)).toInt32) &&& (15 : Int32)))], [va_rf (sm_rv M x0 13), .int (x3 + x5), .ref (x0 + 9)])) rfl ⟨trivial, trivial, trivial, trivial, sm_K.g (kH_0 hS hx0) (sm_sh.rf _), trivial⟩ ?_
      refine sm_w.fld (rH_13 hS hx0) ?_
      obtain ⟨c1, h⟩ := h
      refine sm_w.run t94 sr94 26 7 (M2 := sm_wI M (x0 + 9) (x3 + x5).toNatClampNeg (if (iV M (x0 + 9) (x3 + x5).toNatClampNeg) < (((x1 >>> (((4 : Int32) * x5).toInt64 &&& 63)).toInt32) &&& (15 : Int32)) then (((x1 >>> (((4 : Int32) * x5).toInt64 &&& 63)).toInt32) &&& (15 : Int32)) else (iV M (x0 + 9) (x3 + x5).toNatClampNeg))) (f2 := (54, [some (.ref x0), some (.long (x1)), none, some (.int (x3)), some (.int (x4)), some (.int (x5)), some (.int (((x1 >>> (((4 : Int32) * x5).toInt64 &&& 63)).toInt32) &&& (15 : Int32)))], [])) rfl ⟨trivial, trivial, trivial, sm_K.a2 (kH_9 hS hx0) (lH_9 hS hx0) c1, trivial, (Nat.le_of_ble_eq_true rfl), sm_K.s2 (kH_9 hS hx0) (lH_9 hS hx0) c1, trivial⟩ ?_
      have hS3 : SH (sm_wI M (x0 + 9) (x3 + x5).toNatClampNeg (if (iV M (x0 + 9) (x3 + x5).toNatClampNeg) < (((x1 >>> (((4 : Int32) * x5).toInt64 &&& 63)).toInt32) &&& (15 : Int32)) then (((x1 >>> (((4 : Int32) * x5).toInt64 &&& 63)).toInt32) &&& (15 : Int32)) else (iV M (x0 + 9) (x3 + x5).toNatClampNeg))) := SH.wI hS _ _ _
      have h := h _ hS3 rfl
      generalize sm_wI M (x0 + 9) (x3 + x5).toNatClampNeg (if (iV M (x0 + 9) (x3 + x5).toNatClampNeg) < (((x1 >>> (((4 : Int32) * x5).toInt64 &&& 63)).toInt32) &&& (15 : Int32)) then (((x1 >>> (((4 : Int32) * x5).toInt64 &&& 63)).toInt32) &&& (15 : Int32)) else (iV M (x0 + 9) (x3 + x5).toNatClampNeg)) = M2 at h hS3 ⊢
      refine sm_w.run t94 sr94 33 2 (M2 := M2) (f2 := (3, [some (.ref x0), some (.long (x1)), none, some (.int (x3)), some (.int (x4)), some (.int (x5 + (1 : Int32))), some (.int (((x1 >>> (((4 : Int32) * x5).toInt64 &&& 63)).toInt32) &&& (15 : Int32)))], [])) rfl ⟨(Nat.le_of_ble_eq_true rfl), trivial, trivial⟩ ?_
      refine sm_w.weak (ls := [some (.ref x0), some (.long (x1)), none, some (.int (x3)), some (.int (x4)), some (.int (x5 + (1 : Int32))), none]) (sm_leI [true, true, false, true, true, true, false] rfl) ?_
      exact h
