/-! METHODS by their segments. -/
-- 53 LineSetter$PairTable.tell(III)V
theorem t53 : sP 53 = (5, sp_53, sh_53) := rfl
theorem sr53 : sm_srt sp_53 = true := by decide +kernel
theorem g53_0 {M : sm_M} {x0 : Nat} {x1 : Int32} {x2 : Int32} {x3 : Int32} {K : sm_M → Prop} (hS : SH M) (hx0 : fQ x0) (h : sm_cI 52 [.ref x0, .int (x1), .int (x2)] M (fun v2 M1 => SH M1 → ((0 ≤ v2 → ((v2 < 0 → K M1) ∧ (¬ v2 < 0 → (vp_in v2 (cQ x0)) ∧ ∀ M5, SH M5 → M5 = sm_wI M1 (x0 + 4) v2.toNatClampNeg x3 → K M5))) ∧ (¬ 0 ≤ v2 → (((Int32.ofNat (cQ x0)) ≤ (iV M1 x0 4) → ((v2 < 0 → K M1) ∧ (¬ v2 < 0 → (vp_in v2 (cQ x0)) ∧ ∀ M8, SH M8 → M8 = sm_wI M1 (x0 + 4) v2.toNatClampNeg x3 → K M8))) ∧ (¬ (Int32.ofNat (cQ x0)) ≤ (iV M1 x0 4) → ((x1 < 0 → ((v2 < 0 → K M1) ∧ (¬ v2 < 0 → (vp_in v2 (cQ x0)) ∧ ∀ M11, SH M11 → M11 = sm_wI M1 (x0 + 4) v2.toNatClampNeg x3 → K M11))) ∧ (¬ x1 < 0 → (((128 : Int32) ≤ x1 → ((v2 < 0 → K M1) ∧ (¬ v2 < 0 → (vp_in v2 (cQ x0)) ∧ ∀ M14, SH M14 → M14 = sm_wI M1 (x0 + 4) v2.toNatClampNeg x3 → K M14))) ∧ (¬ (128 : Int32) ≤ x1 → ∀ M16, SH M16 → M16 = sm_wI M1 x0 4 ((iV M1 x0 4) + (1 : Int32)) → (vp_in (iV M1 x0 4) (cQ x0)) ∧ ∀ M19, SH M19 → M19 = sm_wI M16 (x0 + 3) (iV M1 x0 4).toNatClampNeg x2 → (vp_in x1 128) ∧ (vp_in (iV M1 x0 4) (cQ x0)) ∧ ∀ M23, SH M23 → M23 = sm_wI M19 (x0 + 2) (iV M1 x0 4).toNatClampNeg (iV M19 (x0 + 1) x1.toNatClampNeg) → (vp_in x1 128) ∧ ∀ M26, SH M26 → M26 = sm_wI M23 (x0 + 1) x1.toNatClampNeg (iV M1 x0 4) → (((iV M1 x0 4) < 0 → K M26) ∧ (¬ (iV M1 x0 4) < 0 → (vp_in (iV M1 x0 4) (cQ x0)) ∧ ∀ M29, SH M29 → M29 = sm_wI M26 (x0 + 4) (iV M1 x0 4).toNatClampNeg x3 → K M29)))))))))))) : sm_w 53 (sm_in sP 53 [.ref x0, .int (x1), .int (x2), .int (x3)]) M (rV K) := by
  show sm_w 53 (0, [some (.ref x0), some (.int (x1)), some (.int (x2)), some (.int (x3)), none], []) M (rV K)
  refine sm_w.run t53 sr53 0 3 (M2 := M) (f2 := (3, [some (.ref x0), some (.int (x1)), some (.int (x2)), some (.int (x3)), none], [.int (x2), .int (x1), .ref x0])) rfl ⟨trivial, trivial, trivial, trivial⟩ ?_
  refine sm_w.cI t53 sr53 3 (i := 52) (as := [.ref x0, .int (x1), .int (x2)]) (g := (3, [some (.ref x0), some (.int (x1)), some (.int (x2)), some (.int (x3)), none], [])) rfl ⟨by decide, by decide, (Nat.le_of_ble_eq_true rfl), (sm_K.g (kQ_0 hS hx0) (sm_sh.rf _)).1, (sm_K.g (kQ_0 hS hx0) (sm_sh.rf _)).2, (Nat.le_of_ble_eq_true rfl)⟩ (Nat.le_of_ble_eq_true rfl) (by decide) (sm_cI.s (by decide) hS h) (fun v2 M1 h => ?_)
  obtain ⟨hS3, h⟩ := h
  refine sm_w.run t53 sr53 4 3 (M2 := M1) (f2 := (if 0 ≤ v2 then 83 else 13, [some (.ref x0), some (.int (x1)), some (.int (x2)), some (.int (x3)), some (.int (v2))], [])) rfl ⟨(Nat.le_of_ble_eq_true rfl), trivial, trivial, trivial⟩ ?_
  refine sm_w.ite (fun hc => ?_) (fun hc => ?_)
  · have h := h.1 hc
    refine sm_w.run t53 sr53 47 2 (M2 := M1) (f2 := (if v2 < 0 then 96 else 88, [some (.ref x0), some (.int (x1)), some (.int (x2)), some (.int (x3)), some (.int (v2))], [])) rfl ⟨trivial, trivial, trivial⟩ ?_
    refine sm_w.ite (fun hc => ?_) (fun hc => ?_)
    · have h := h.1 hc
      exact sm_w.end t53 sr53 54 (o := .returned none) (M2 := M1) rfl trivial (by decide) (⟨rfl, h⟩)
    · have h := h.2 hc
      refine sm_w.run t53 sr53 49 2 (M2 := M1) (f2 := (92, [some (.ref x0), some (.int (x1)), some (.int (x2)), some (.int (x3)), some (.int (v2))], [va_rf (sm_rv M1 x0 3)])) rfl ⟨trivial, sm_K.g (kQ_0 hS3 hx0) (sm_sh.rf _), trivial⟩ ?_
      refine sm_w.fld (rQ_3 hS3 hx0) ?_
      obtain ⟨c4, h⟩ := h
      refine sm_w.run t53 sr53 51 3 (M2 := sm_wI M1 (x0 + 4) v2.toNatClampNeg x3) (f2 := (96, [some (.ref x0), some (.int (x1)), some (.int (x2)), some (.int (x3)), some (.int (v2))], [])) rfl ⟨trivial, trivial, sm_K.s2 (kQ_4 hS3 hx0) (lQ_4 hS3 hx0) c4, trivial⟩ ?_
      have hS6 : SH (sm_wI M1 (x0 + 4) v2.toNatClampNeg x3) := SH.wI hS3 _ _ _
      have h := h _ hS6 rfl
      generalize sm_wI M1 (x0 + 4) v2.toNatClampNeg x3 = M5 at h hS6 ⊢
      exact sm_w.end t53 sr53 54 (o := .returned none) (M2 := M5) rfl trivial (by decide) (⟨rfl, h⟩)
  · have h := h.2 hc
    refine sm_w.run t53 sr53 7 4 (M2 := M1) (f2 := (21, [some (.ref x0), some (.int (x1)), some (.int (x2)), some (.int (x3)), some (.int (v2))], [va_rf (sm_rv M1 x0 3), .int (iV M1 x0 4)])) rfl ⟨trivial, sm_K.g (kQ_0 hS3 hx0) (sm_sh.rf _), trivial, sm_K.g (kQ_0 hS3 hx0) (sm_sh.rf _), trivial⟩ ?_
    refine sm_w.fld (rQ_3 hS3 hx0) ?_
    refine sm_w.run t53 sr53 11 1 (M2 := M1) (f2 := (22, [some (.ref x0), some (.int (x1)), some (.int (x2)), some (.int (x3)), some (.int (v2))], [.int (Int32.ofNat (sm_ln M1 (x0 + 4))), .int (iV M1 x0 4)])) rfl ⟨sm_K.l (kQ_4 hS3 hx0) (sm_sh.rf _) (by decide), trivial⟩ ?_
    refine sm_w.aln (lQ_4 hS3 hx0) ?_
    refine sm_w.run t53 sr53 12 1 (M2 := M1) (f2 := (if (Int32.ofNat (cQ x0)) ≤ (iV M1 x0 4) then 83 else 25, [some (.ref x0), some (.int (x1)), some (.int (x2)), some (.int (x3)), some (.int (v2))], [])) rfl ⟨trivial, trivial⟩ ?_
    refine sm_w.ite (fun hc => ?_) (fun hc => ?_)
    · have h := h.1 hc
      refine sm_w.run t53 sr53 47 2 (M2 := M1) (f2 := (if v2 < 0 then 96 else 88, [some (.ref x0), some (.int (x1)), some (.int (x2)), some (.int (x3)), some (.int (v2))], [])) rfl ⟨trivial, trivial, trivial⟩ ?_
      refine sm_w.ite (fun hc => ?_) (fun hc => ?_)
      · have h := h.1 hc
        exact sm_w.end t53 sr53 54 (o := .returned none) (M2 := M1) rfl trivial (by decide) (⟨rfl, h⟩)
      · have h := h.2 hc
        refine sm_w.run t53 sr53 49 2 (M2 := M1) (f2 := (92, [some (.ref x0), some (.int (x1)), some (.int (x2)), some (.int (x3)), some (.int (v2))], [va_rf (sm_rv M1 x0 3)])) rfl ⟨trivial, sm_K.g (kQ_0 hS3 hx0) (sm_sh.rf _), trivial⟩ ?_
        refine sm_w.fld (rQ_3 hS3 hx0) ?_
        obtain ⟨c7, h⟩ := h
        refine sm_w.run t53 sr53 51 3 (M2 := sm_wI M1 (x0 + 4) v2.toNatClampNeg x3) (f2 := (96, [some (.ref x0), some (.int (x1)), some (.int (x2)), some (.int (x3)), some (.int (v2))], [])) rfl ⟨trivial, trivial, sm_K.s2 (kQ_4 hS3 hx0) (lQ_4 hS3 hx0) c7, trivial⟩ ?_
        have hS9 : SH (sm_wI M1 (x0 + 4) v2.toNatClampNeg x3) := SH.wI hS3 _ _ _
        have h := h _ hS9 rfl
        generalize sm_wI M1 (x0 + 4) v2.toNatClampNeg x3 = M8 at h hS9 ⊢
        exact sm_w.end t53 sr53 54 (o := .returned none) (M2 := M8) rfl trivial (by decide) (⟨rfl, h⟩)
    · have h := h.2 hc
      refine sm_w.run t53 sr53 13 2 (M2 := M1) (f2 := (if x1 < 0 then 83 else 29, [some (.ref x0), some (.int (x1)), some (.int (x2)), some (.int (x3)), some (.int (v2))], [])) rfl ⟨trivial, trivial, trivial⟩ ?_
      refine sm_w.ite (fun hc => ?_) (fun hc => ?_)
      · have h := h.1 hc
        refine sm_w.run t53 sr53 47 2 (M2 := M1) (f2 := (if v2 < 0 then 96 else 88, [some (.ref x0), some (.int (x1)), some (.int (x2)), some (.int (x3)), some (.int (v2))], [])) rfl ⟨trivial, trivial, trivial⟩ ?_
        refine sm_w.ite (fun hc => ?_) (fun hc => ?_)
        · have h := h.1 hc
          exact sm_w.end t53 sr53 54 (o := .returned none) (M2 := M1) rfl trivial (by decide) (⟨rfl, h⟩)
        · have h := h.2 hc
          refine sm_w.run t53 sr53 49 2 (M2 := M1) (f2 := (92, [some (.ref x0), some (.int (x1)), some (.int (x2)), some (.int (x3)), some (.int (v2))], [va_rf (sm_rv M1 x0 3)])) rfl ⟨trivial, sm_K.g (kQ_0 hS3 hx0) (sm_sh.rf _), trivial⟩ ?_
          refine sm_w.fld (rQ_3 hS3 hx0) ?_
          obtain ⟨c10, h⟩ := h
          refine sm_w.run t53 sr53 51 3 (M2 := sm_wI M1 (x0 + 4) v2.toNatClampNeg x3) (f2 := (96, [some (.ref x0), some (.int (x1)), some (.int (x2)), some (.int (x3)), some (.int (v2))], [])) rfl ⟨trivial, trivial, sm_K.s2 (kQ_4 hS3 hx0) (lQ_4 hS3 hx0) c10, trivial⟩ ?_
          have hS12 : SH (sm_wI M1 (x0 + 4) v2.toNatClampNeg x3) := SH.wI hS3 _ _ _
          have h := h _ hS12 rfl
          generalize sm_wI M1 (x0 + 4) v2.toNatClampNeg x3 = M11 at h hS12 ⊢
          exact sm_w.end t53 sr53 54 (o := .returned none) (M2 := M11) rfl trivial (by decide) (⟨rfl, h⟩)
      · have h := h.2 hc
        refine sm_w.run t53 sr53 15 3 (M2 := M1) (f2 := (34, [some (.ref x0), some (.int (x1)), some (.int (x2)), some (.int (x3)), some (.int (v2))], [va_rf (sm_rv M1 x0 0), .int (x1)])) rfl ⟨trivial, trivial, sm_K.g (kQ_0 hS3 hx0) (sm_sh.rf _), trivial⟩ ?_
        refine sm_w.fld (rQ_0 hS3 hx0) ?_
        refine sm_w.run t53 sr53 18 1 (M2 := M1) (f2 := (35, [some (.ref x0), some (.int (x1)), some (.int (x2)), some (.int (x3)), some (.int (v2))], [.int (Int32.ofNat (sm_ln M1 (x0 + 1))), .int (x1)])) rfl ⟨sm_K.l (kQ_1 hS3 hx0) (sm_sh.rf _) (by decide), trivial⟩ ?_
        refine sm_w.aln (lQ_1 hS3 hx0) ?_
        refine sm_w.run t53 sr53 19 1 (M2 := M1) (f2 := (if (128 : Int32) ≤ x1 then 83 else 38, [some (.ref x0), some (.int (x1)), some (.int (x2)), some (.int (x3)), some (.int (v2))], [])) rfl ⟨trivial, trivial⟩ ?_
        refine sm_w.ite (fun hc => ?_) (fun hc => ?_)
        · have h := h.1 hc
          refine sm_w.run t53 sr53 47 2 (M2 := M1) (f2 := (if v2 < 0 then 96 else 88, [some (.ref x0), some (.int (x1)), some (.int (x2)), some (.int (x3)), some (.int (v2))], [])) rfl ⟨trivial, trivial, trivial⟩ ?_
          refine sm_w.ite (fun hc => ?_) (fun hc => ?_)
          · have h := h.1 hc
            exact sm_w.end t53 sr53 54 (o := .returned none) (M2 := M1) rfl trivial (by decide) (⟨rfl, h⟩)
          · have h := h.2 hc
            refine sm_w.run t53 sr53 49 2 (M2 := M1) (f2 := (92, [some (.ref x0), some (.int (x1)), some (.int (x2)), some (.int (x3)), some (.int (v2))], [va_rf (sm_rv M1 x0 3)])) rfl ⟨trivial, sm_K.g (kQ_0 hS3 hx0) (sm_sh.rf _), trivial⟩ ?_
            refine sm_w.fld (rQ_3 hS3 hx0) ?_
            obtain ⟨c13, h⟩ := h
            refine sm_w.run t53 sr53 51 3 (M2 := sm_wI M1 (x0 + 4) v2.toNatClampNeg x3) (f2 := (96, [some (.ref x0), some (.int (x1)), some (.int (x2)), some (.int (x3)), some (.int (v2))], [])) rfl ⟨trivial, trivial, sm_K.s2 (kQ_4 hS3 hx0) (lQ_4 hS3 hx0) c13, trivial⟩ ?_
            have hS15 : SH (sm_wI M1 (x0 + 4) v2.toNatClampNeg x3) := SH.wI hS3 _ _ _
            have h := h _ hS15 rfl
            generalize sm_wI M1 (x0 + 4) v2.toNatClampNeg x3 = M14 at h hS15 ⊢
            exact sm_w.end t53 sr53 54 (o := .returned none) (M2 := M14) rfl trivial (by decide) (⟨rfl, h⟩)
        · have h := h.2 hc
          refine sm_w.run t53 sr53 20 9 (M2 := sm_wI M1 x0 4 ((iV M1 x0 4) + (1 : Int32))) (f2 := (54, [some (.ref x0), some (.int (x1)), some (.int (x2)), some (.int (x3)), some (.int (iV M1 x0 4))], [])) rfl ⟨trivial, sm_K.g (kQ_0 hS3 hx0) (sm_sh.rf _), (Nat.le_of_ble_eq_true rfl), trivial, rfl, sm_K.g (kQ_0 hS3 hx0) (sm_sh.rf _), trivial, trivial, ⟨(sm_K.p (kQ_0 hS3 hx0) (sm_sh.rf _)).1, (sm_K.p (kQ_0 hS3 hx0) (sm_sh.rf _)).2.1, (sm_K.p (kQ_0 hS3 hx0) (sm_sh.rf _)).2.2, Or.inl rfl⟩, trivial⟩ ?_
          have hS17 : SH (sm_wI M1 x0 4 ((iV M1 x0 4) + (1 : Int32))) := SH.wI hS3 _ _ _
          have h := h _ hS17 rfl
          generalize sm_wI M1 x0 4 ((iV M1 x0 4) + (1 : Int32)) = M16 at h hS17 ⊢
          refine sm_w.run t53 sr53 29 2 (M2 := M16) (f2 := (58, [some (.ref x0), some (.int (x1)), some (.int (x2)), some (.int (x3)), some (.int (iV M1 x0 4))], [va_rf (sm_rv M16 x0 2)])) rfl ⟨trivial, sm_K.g (kQ_0 hS17 hx0) (sm_sh.rf _), trivial⟩ ?_
          refine sm_w.fld (rQ_2 hS17 hx0) ?_
          obtain ⟨c18, h⟩ := h
          refine sm_w.run t53 sr53 31 3 (M2 := sm_wI M16 (x0 + 3) (iV M1 x0 4).toNatClampNeg x2) (f2 := (62, [some (.ref x0), some (.int (x1)), some (.int (x2)), some (.int (x3)), some (.int (iV M1 x0 4))], [])) rfl ⟨trivial, trivial, sm_K.s2 (kQ_3 hS17 hx0) (lQ_3 hS17 hx0) c18, trivial⟩ ?_
          have hS20 : SH (sm_wI M16 (x0 + 3) (iV M1 x0 4).toNatClampNeg x2) := SH.wI hS17 _ _ _
          have h := h _ hS20 rfl
          generalize sm_wI M16 (x0 + 3) (iV M1 x0 4).toNatClampNeg x2 = M19 at h hS20 ⊢
          refine sm_w.run t53 sr53 34 2 (M2 := M19) (f2 := (66, [some (.ref x0), some (.int (x1)), some (.int (x2)), some (.int (x3)), some (.int (iV M1 x0 4))], [va_rf (sm_rv M19 x0 1)])) rfl ⟨trivial, sm_K.g (kQ_0 hS20 hx0) (sm_sh.rf _), trivial⟩ ?_
          refine sm_w.fld (rQ_1 hS20 hx0) ?_
          refine sm_w.run t53 sr53 36 3 (M2 := M19) (f2 := (72, [some (.ref x0), some (.int (x1)), some (.int (x2)), some (.int (x3)), some (.int (iV M1 x0 4))], [va_rf (sm_rv M19 x0 0), .int (iV M1 x0 4), .ref (x0 + 2)])) rfl ⟨trivial, trivial, sm_K.g (kQ_0 hS20 hx0) (sm_sh.rf _), trivial⟩ ?_
          refine sm_w.fld (rQ_0 hS20 hx0) ?_
          obtain ⟨c21, c22, h⟩ := h
          refine sm_w.run t53 sr53 39 3 (M2 := sm_wI M19 (x0 + 2) (iV M1 x0 4).toNatClampNeg (iV M19 (x0 + 1) x1.toNatClampNeg)) (f2 := (75, [some (.ref x0), some (.int (x1)), some (.int (x2)), some (.int (x3)), some (.int (iV M1 x0 4))], [])) rfl ⟨trivial, sm_K.a2 (kQ_1 hS20 hx0) (lQ_1 hS20 hx0) c21, sm_K.s2 (kQ_2 hS20 hx0) (lQ_2 hS20 hx0) c22, trivial⟩ ?_
          have hS24 : SH (sm_wI M19 (x0 + 2) (iV M1 x0 4).toNatClampNeg (iV M19 (x0 + 1) x1.toNatClampNeg)) := SH.wI hS20 _ _ _
          have h := h _ hS24 rfl
          generalize sm_wI M19 (x0 + 2) (iV M1 x0 4).toNatClampNeg (iV M19 (x0 + 1) x1.toNatClampNeg) = M23 at h hS24 ⊢
          refine sm_w.run t53 sr53 42 2 (M2 := M23) (f2 := (79, [some (.ref x0), some (.int (x1)), some (.int (x2)), some (.int (x3)), some (.int (iV M1 x0 4))], [va_rf (sm_rv M23 x0 0)])) rfl ⟨trivial, sm_K.g (kQ_0 hS24 hx0) (sm_sh.rf _), trivial⟩ ?_
          refine sm_w.fld (rQ_0 hS24 hx0) ?_
          obtain ⟨c25, h⟩ := h
          refine sm_w.run t53 sr53 44 3 (M2 := sm_wI M23 (x0 + 1) x1.toNatClampNeg (iV M1 x0 4)) (f2 := (83, [some (.ref x0), some (.int (x1)), some (.int (x2)), some (.int (x3)), some (.int (iV M1 x0 4))], [])) rfl ⟨trivial, trivial, sm_K.s2 (kQ_1 hS24 hx0) (lQ_1 hS24 hx0) c25, trivial⟩ ?_
          have hS27 : SH (sm_wI M23 (x0 + 1) x1.toNatClampNeg (iV M1 x0 4)) := SH.wI hS24 _ _ _
          have h := h _ hS27 rfl
          generalize sm_wI M23 (x0 + 1) x1.toNatClampNeg (iV M1 x0 4) = M26 at h hS27 ⊢
          refine sm_w.run t53 sr53 47 2 (M2 := M26) (f2 := (if (iV M1 x0 4) < 0 then 96 else 88, [some (.ref x0), some (.int (x1)), some (.int (x2)), some (.int (x3)), some (.int (iV M1 x0 4))], [])) rfl ⟨trivial, trivial, trivial⟩ ?_
          refine sm_w.ite (fun hc => ?_) (fun hc => ?_)
          · have h := h.1 hc
            exact sm_w.end t53 sr53 54 (o := .returned none) (M2 := M26) rfl trivial (by decide) (⟨rfl, h⟩)
          · have h := h.2 hc
            refine sm_w.run t53 sr53 49 2 (M2 := M26) (f2 := (92, [some (.ref x0), some (.int (x1)), some (.int (x2)), some (.int (x3)), some (.int (iV M1 x0 4))], [va_rf (sm_rv M26 x0 3)])) rfl ⟨trivial, sm_K.g (kQ_0 hS27 hx0) (sm_sh.rf _), trivial⟩ ?_
            refine sm_w.fld (rQ_3 hS27 hx0) ?_
            obtain ⟨c28, h⟩ := h
            refine sm_w.run t53 sr53 51 3 (M2 := sm_wI M26 (x0 + 4) (iV M1 x0 4).toNatClampNeg x3) (f2 := (96, [some (.ref x0), some (.int (x1)), some (.int (x2)), some (.int (x3)), some (.int (iV M1 x0 4))], [])) rfl ⟨trivial, trivial, sm_K.s2 (kQ_4 hS27 hx0) (lQ_4 hS27 hx0) c28, trivial⟩ ?_
            have hS30 : SH (sm_wI M26 (x0 + 4) (iV M1 x0 4).toNatClampNeg x3) := SH.wI hS27 _ _ _
            have h := h _ hS30 rfl
            generalize sm_wI M26 (x0 + 4) (iV M1 x0 4).toNatClampNeg x3 = M29 at h hS30 ⊢
            exact sm_w.end t53 sr53 54 (o := .returned none) (M2 := M29) rfl trivial (by decide) (⟨rfl, h⟩)
-- 50 LineSetter$FontReader.readPair(LLineSetter$PairTable;ZI)Z
theorem t50 : sP 50 = (9, sp_50, sh_50) := rfl
theorem sr50 : sm_srt sp_50 = true := by decide +kernel
theorem g50_0 {M : sm_M} {x1 : Nat} {x2 : Int32} {x3 : Int32} {K : Int32 → sm_M → Prop} (hS : SH M) (hx1 : fQ x1) (h : sm_cI 44 [.ref 33] M (fun v2 M1 => SH M1 → ((0 ≤ v2 → sm_cI 29 [.ref 24, .int (iV M1 33 1)] M1 (fun v34 M33 => SH M33 → ∀ M36, SH M36 → M36 = sm_wI M33 33 1 v34 → sm_cI 44 [.ref 33] M36 (fun v8 M7 => SH M7 → ((0 ≤ v8 → sm_cI 51 [.ref x1, .int (v2), .int (v8)] M7 (fun v11 M10 => SH M10 → ((v11 = 0 → ∀ M13, SH M13 → M13 = sm_wI M10 33 2 (iV M36 33 1) → K (0 : Int32) M13) ∧ (¬ v11 = 0 → ((x2 = 0 → sm_w 50 (72, [some (.ref 33), some (.ref x1), none, some (.int (x3)), some (.int (v2)), none, some (.int (v8)), none, none], []) M10 (rI K)) ∧ (¬ x2 = 0 → sm_cI 48 [.ref 33, .int ((45 : Int32))] M10 (fun v16 M15 => SH M15 → ((v16 = 0 → sm_w 50 (72, [some (.ref 33), some (.ref x1), none, some (.int (x3)), some (.int (v2)), none, some (.int (v8)), none, none], []) M15 (rI K)) ∧ (¬ v16 = 0 → sm_cI 46 [.ref 33, .int (x3)] M15 (fun v19 M18 => SH M18 → ((0 ≤ v19 → sm_cI 48 [.ref 33, .int ((59 : Int32))] M18 (fun v22 M21 => SH M21 → ((v22 = 0 → ∀ M28, SH M28 → M28 = sm_wI M21 33 2 (iV M21 33 1) → ((0 : Int32) = 0 ∨ (0 : Int32) = 1) ∧ K (0 : Int32) M28) ∧ (¬ v22 = 0 → sm_cV 53 [.ref x1, .int (v2), .int (v8), .int (-v19)] M21 (fun M30 => SH M30 → K (1 : Int32) M30))))) ∧ (¬ 0 ≤ v19 → K (0 : Int32) M18)))))))))))) ∧ (¬ 0 ≤ v8 → K (0 : Int32) M7))))) ∧ (¬ 0 ≤ v2 → K (0 : Int32) M1)))) : sm_w 50 (sm_in sP 50 [.ref 33, .ref x1, .int (x2), .int (x3)]) M (rI K) := by
  show sm_w 50 (0, [some (.ref 33), some (.ref x1), some (.int (x2)), some (.int (x3)), none, none, none, none, none], []) M (rI K)
  refine sm_w.run t50 sr50 0 1 (M2 := M) (f2 := (1, [some (.ref 33), some (.ref x1), some (.int (x2)), some (.int (x3)), none, none, none, none, none], [.ref 33])) rfl ⟨trivial, trivial⟩ ?_
  refine sm_w.cI t50 sr50 1 (i := 44) (as := [.ref 33]) (g := (1, [some (.ref 33), some (.ref x1), some (.int (x2)), some (.int (x3)), none, none, none, none, none], [])) rfl ⟨by decide, by decide, (Nat.le_of_ble_eq_true rfl), (sm_K.g (k_33 hS) (sm_sh.rf _)).1, (sm_K.g (k_33 hS) (sm_sh.rf _)).2, (Nat.le_of_ble_eq_true rfl)⟩ (Nat.le_of_ble_eq_true rfl) (by decide) (sm_cI.s (by decide) hS h) (fun v2 M1 h => ?_)
  obtain ⟨hS3, h⟩ := h
  refine sm_w.run t50 sr50 2 3 (M2 := M1) (f2 := (if 0 ≤ v2 then 13 else 11, [some (.ref 33), some (.ref x1), some (.int (x2)), some (.int (x3)), some (.int (v2)), none, none, none, none], [])) rfl ⟨(Nat.le_of_ble_eq_true rfl), trivial, trivial, trivial⟩ ?_
  refine sm_w.ite (fun hc => ?_) (fun hc => ?_)
  · have h := h.1 hc
    refine sm_w.run t50 sr50 7 1 (M2 := M1) (f2 := (14, [some (.ref 33), some (.ref x1), some (.int (x2)), some (.int (x3)), some (.int (v2)), none, none, none, none], [.ref 33])) rfl ⟨trivial, trivial⟩ ?_
    refine sm_w.cV t50 sr50 8 (i := 28) (as := [.ref 33]) (g := (14, [some (.ref 33), some (.ref x1), some (.int (x2)), some (.int (x3)), some (.int (v2)), none, none, none, none], [])) rfl ⟨by decide, by decide, (Nat.le_of_ble_eq_true rfl), (sm_K.g (k_33 hS3) (sm_sh.rf _)).1, (sm_K.g (k_33 hS3) (sm_sh.rf _)).2, (Nat.le_of_ble_eq_true rfl)⟩ (Nat.le_of_ble_eq_true rfl) (by decide) (sm_cV.s2 (by decide) hS3 (g28_0 (K := fun M4 => sm_cI 44 [.ref 33] M4 (fun v8 M7 => SH M7 → ((0 ≤ v8 → sm_cI 51 [.ref x1, .int (v2), .int (v8)] M7 (fun v11 M10 => SH M10 → ((v11 = 0 → ∀ M13, SH M13 → M13 = sm_wI M10 33 2 (iV M4 33 1) → K (0 : Int32) M13) ∧ (¬ v11 = 0 → ((x2 = 0 → sm_w 50 (72, [some (.ref 33), some (.ref x1), none, some (.int (x3)), some (.int (v2)), none, some (.int (v8)), none, none], []) M10 (rI K)) ∧ (¬ x2 = 0 → sm_cI 48 [.ref 33, .int ((45 : Int32))] M10 (fun v16 M15 => SH M15 → ((v16 = 0 → sm_w 50 (72, [some (.ref 33), some (.ref x1), none, some (.int (x3)), some (.int (v2)), none, some (.int (v8)), none, none], []) M15 (rI K)) ∧ (¬ v16 = 0 → sm_cI 46 [.ref 33, .int (x3)] M15 (fun v19 M18 => SH M18 → ((0 ≤ v19 → sm_cI 48 [.ref 33, .int ((59 : Int32))] M18 (fun v22 M21 => SH M21 → ((v22 = 0 → ∀ M28, SH M28 → M28 = sm_wI M21 33 2 (iV M21 33 1) → ((0 : Int32) = 0 ∨ (0 : Int32) = 1) ∧ K (0 : Int32) M28) ∧ (¬ v22 = 0 → sm_cV 53 [.ref x1, .int (v2), .int (v8), .int (-v19)] M21 (fun M30 => SH M30 → K (1 : Int32) M30))))) ∧ (¬ 0 ≤ v19 → K (0 : Int32) M18)))))))))))) ∧ (¬ 0 ≤ v8 → K (0 : Int32) M7)))) hS3 h)) (fun M4 h => ?_)
    obtain ⟨hS6, h⟩ := h
    refine sm_w.run t50 sr50 9 4 (M2 := M4) (f2 := (24, [some (.ref 33), some (.ref x1), some (.int (x2)), some (.int (x3)), some (.int (v2)), some (.int (iV M4 33 1)), none, none, none], [.ref 33])) rfl ⟨trivial, sm_K.g (k_33 hS6) (sm_sh.rf _), (Nat.le_of_ble_eq_true rfl), trivial, trivial⟩ ?_
    refine sm_w.cI t50 sr50 13 (i := 44) (as := [.ref 33]) (g := (24, [some (.ref 33), some (.ref x1), some (.int (x2)), some (.int (x3)), some (.int (v2)), some (.int (iV M4 33 1)), none, none, none], [])) rfl ⟨by decide, by decide, (Nat.le_of_ble_eq_true rfl), (sm_K.g (k_33 hS6) (sm_sh.rf _)).1, (sm_K.g (k_33 hS6) (sm_sh.rf _)).2, (Nat.le_of_ble_eq_true rfl)⟩ (Nat.le_of_ble_eq_true rfl) (by decide) (sm_cI.s (by decide) hS6 h) (fun v8 M7 h => ?_)
    obtain ⟨hS9, h⟩ := h
    refine sm_w.run t50 sr50 14 3 (M2 := M7) (f2 := (if 0 ≤ v8 then 36 else 34, [some (.ref 33), some (.ref x1), some (.int (x2)), some (.int (x3)), some (.int (v2)), some (.int (iV M4 33 1)), some (.int (v8)), none, none], [])) rfl ⟨(Nat.le_of_ble_eq_true rfl), trivial, trivial, trivial⟩ ?_
    refine sm_w.ite (fun hc => ?_) (fun hc => ?_)
    · have h := h.1 hc
      refine sm_w.run t50 sr50 19 3 (M2 := M7) (f2 := (41, [some (.ref 33), some (.ref x1), some (.int (x2)), some (.int (x3)), some (.int (v2)), some (.int (iV M4 33 1)), some (.int (v8)), none, none], [.int (v8), .int (v2), .ref x1])) rfl ⟨trivial, trivial, trivial, trivial⟩ ?_
      refine sm_w.cI t50 sr50 22 (i := 51) (as := [.ref x1, .int (v2), .int (v8)]) (g := (41, [some (.ref 33), some (.ref x1), some (.int (x2)), some (.int (x3)), some (.int (v2)), some (.int (iV M4 33 1)), some (.int (v8)), none, none], [])) rfl ⟨by decide, by decide, (Nat.le_of_ble_eq_true rfl), (sm_K.g (kQ_0 hS9 hx1) (sm_sh.rf _)).1, (sm_K.g (kQ_0 hS9 hx1) (sm_sh.rf _)).2, (Nat.le_of_ble_eq_true rfl)⟩ (Nat.le_of_ble_eq_true rfl) (by decide) (sm_cI.s (by decide) hS9 h) (fun v11 M10 h => ?_)
      obtain ⟨hS12, h⟩ := h
      refine sm_w.run t50 sr50 23 1 (M2 := M10) (f2 := (if v11 = 0 then 47 else 55, [some (.ref 33), some (.ref x1), some (.int (x2)), some (.int (x3)), some (.int (v2)), some (.int (iV M4 33 1)), some (.int (v8)), none, none], [])) rfl ⟨trivial, trivial⟩ ?_
      refine sm_w.ite (fun hc => ?_) (fun hc => ?_)
      · have h := h.1 hc
        refine sm_w.run t50 sr50 24 3 (M2 := sm_wI M10 33 2 (iV M4 33 1)) (f2 := (53, [some (.ref 33), some (.ref x1), some (.int (x2)), some (.int (x3)), some (.int (v2)), some (.int (iV M4 33 1)), some (.int (v8)), none, none], [])) rfl ⟨trivial, trivial, ⟨(sm_K.p (k_33 hS12) (sm_sh.rf _)).1, (sm_K.p (k_33 hS12) (sm_sh.rf _)).2.1, (sm_K.p (k_33 hS12) (sm_sh.rf _)).2.2, Or.inl rfl⟩, trivial⟩ ?_
        have hS14 : SH (sm_wI M10 33 2 (iV M4 33 1)) := SH.wI hS12 _ _ _
        have h := h _ hS14 rfl
        generalize sm_wI M10 33 2 (iV M4 33 1) = M13 at h hS14 ⊢
        refine sm_w.run t50 sr50 27 1 (M2 := M13) (f2 := (54, [some (.ref 33), some (.ref x1), some (.int (x2)), some (.int (x3)), some (.int (v2)), some (.int (iV M4 33 1)), some (.int (v8)), none, none], [.int ((0 : Int32))])) rfl ⟨trivial, trivial⟩ ?_
        exact sm_w.end t50 sr50 28 (o := .returned (some (.int ((0 : Int32))))) (M2 := M13) rfl rfl (by decide) (⟨_, rfl, h⟩)
      · have h := h.2 hc
        refine sm_w.run t50 sr50 29 2 (M2 := M10) (f2 := (if x2 = 0 then 72 else 59, [some (.ref 33), some (.ref x1), some (.int (x2)), some (.int (x3)), some (.int (v2)), some (.int (iV M4 33 1)), some (.int (v8)), none, none], [])) rfl ⟨trivial, trivial, trivial⟩ ?_
        refine sm_w.ite (fun hc => ?_) (fun hc => ?_)
        · have h := h.1 hc
          refine sm_w.weak (ls := [some (.ref 33), some (.ref x1), none, some (.int (x3)), some (.int (v2)), none, some (.int (v8)), none, none]) (sm_leI [true, true, false, true, true, false, true, false, false] rfl) ?_
          exact h
        · have h := h.2 hc
          refine sm_w.run t50 sr50 31 2 (M2 := M10) (f2 := (62, [some (.ref 33), some (.ref x1), some (.int (x2)), some (.int (x3)), some (.int (v2)), some (.int (iV M4 33 1)), some (.int (v8)), none, none], [.int ((45 : Int32)), .ref 33])) rfl ⟨trivial, trivial, trivial⟩ ?_
          refine sm_w.cI t50 sr50 33 (i := 48) (as := [.ref 33, .int ((45 : Int32))]) (g := (62, [some (.ref 33), some (.ref x1), some (.int (x2)), some (.int (x3)), some (.int (v2)), some (.int (iV M4 33 1)), some (.int (v8)), none, none], [])) rfl ⟨by decide, by decide, (Nat.le_of_ble_eq_true rfl), (sm_K.g (k_33 hS12) (sm_sh.rf _)).1, (sm_K.g (k_33 hS12) (sm_sh.rf _)).2, (Nat.le_of_ble_eq_true rfl)⟩ (Nat.le_of_ble_eq_true rfl) (by decide) (sm_cI.s (by decide) hS12 h) (fun v16 M15 h => ?_)
          obtain ⟨hS17, h⟩ := h
          refine sm_w.run t50 sr50 34 1 (M2 := M15) (f2 := (if v16 = 0 then 72 else 68, [some (.ref 33), some (.ref x1), some (.int (x2)), some (.int (x3)), some (.int (v2)), some (.int (iV M4 33 1)), some (.int (v8)), none, none], [])) rfl ⟨trivial, trivial⟩ ?_
          refine sm_w.ite (fun hc => ?_) (fun hc => ?_)
          · have h := h.1 hc
            refine sm_w.weak (ls := [some (.ref 33), some (.ref x1), none, some (.int (x3)), some (.int (v2)), none, some (.int (v8)), none, none]) (sm_leI [true, true, false, true, true, false, true, false, false] rfl) ?_
            exact h
          · have h := h.2 hc
            refine sm_w.run t50 sr50 35 2 (M2 := M15) (f2 := (73, [some (.ref 33), some (.ref x1), some (.int (x2)), some (.int (x3)), some (.int (v2)), some (.int (iV M4 33 1)), some (.int (v8)), none, none], [.int ((1 : Int32))])) rfl ⟨trivial, trivial, trivial⟩ ?_
            refine sm_w.run t50 sr50 38 3 (M2 := M15) (f2 := (77, [some (.ref 33), some (.ref x1), some (.int (x2)), some (.int (x3)), some (.int (v2)), some (.int (iV M4 33 1)), some (.int (v8)), some (.int ((1 : Int32))), none], [.int (x3), .ref 33])) rfl ⟨(Nat.le_of_ble_eq_true rfl), trivial, trivial, trivial⟩ ?_
            refine sm_w.cI t50 sr50 41 (i := 46) (as := [.ref 33, .int (x3)]) (g := (77, [some (.ref 33), some (.ref x1), some (.int (x2)), some (.int (x3)), some (.int (v2)), some (.int (iV M4 33 1)), some (.int (v8)), some (.int ((1 : Int32))), none], [])) rfl ⟨by decide, by decide, (Nat.le_of_ble_eq_true rfl), (sm_K.g (k_33 hS17) (sm_sh.rf _)).1, (sm_K.g (k_33 hS17) (sm_sh.rf _)).2, (Nat.le_of_ble_eq_true rfl)⟩ (Nat.le_of_ble_eq_true rfl) (by decide) (sm_cI.s (by decide) hS17 h) (fun v19 M18 h => ?_)
            obtain ⟨hS20, h⟩ := h
            refine sm_w.run t50 sr50 42 3 (M2 := M18) (f2 := (if 0 ≤ v19 then 89 else 87, [some (.ref 33), some (.ref x1), some (.int (x2)), some (.int (x3)), some (.int (v2)), some (.int (iV M4 33 1)), some (.int (v8)), some (.int ((1 : Int32))), some (.int (v19))], [])) rfl ⟨(Nat.le_of_ble_eq_true rfl), trivial, trivial, trivial⟩ ?_
            refine sm_w.ite (fun hc => ?_) (fun hc => ?_)
            · have h := h.1 hc
              refine sm_w.run t50 sr50 47 2 (M2 := M18) (f2 := (92, [some (.ref 33), some (.ref x1), some (.int (x2)), some (.int (x3)), some (.int (v2)), some (.int (iV M4 33 1)), some (.int (v8)), some (.int ((1 : Int32))), some (.int (v19))], [.int ((59 : Int32)), .ref 33])) rfl ⟨trivial, trivial, trivial⟩ ?_
              refine sm_w.cI t50 sr50 49 (i := 48) (as := [.ref 33, .int ((59 : Int32))]) (g := (92, [some (.ref 33), some (.ref x1), some (.int (x2)), some (.int (x3)), some (.int (v2)), some (.int (iV M4 33 1)), some (.int (v8)), some (.int ((1 : Int32))), some (.int (v19))], [])) rfl ⟨by decide, by decide, (Nat.le_of_ble_eq_true rfl), (sm_K.g (k_33 hS20) (sm_sh.rf _)).1, (sm_K.g (k_33 hS20) (sm_sh.rf _)).2, (Nat.le_of_ble_eq_true rfl)⟩ (Nat.le_of_ble_eq_true rfl) (by decide) (sm_cI.s (by decide) hS20 h) (fun v22 M21 h => ?_)
              obtain ⟨hS23, h⟩ := h
              refine sm_w.run t50 sr50 50 1 (M2 := M21) (f2 := (if v22 = 0 then 98 else 103, [some (.ref 33), some (.ref x1), some (.int (x2)), some (.int (x3)), some (.int (v2)), some (.int (iV M4 33 1)), some (.int (v8)), some (.int ((1 : Int32))), some (.int (v19))], [])) rfl ⟨trivial, trivial⟩ ?_
              refine sm_w.ite (fun hc => ?_) (fun hc => ?_)
              · have h := h.1 hc
                refine sm_w.run t50 sr50 51 1 (M2 := M21) (f2 := (99, [some (.ref 33), some (.ref x1), some (.int (x2)), some (.int (x3)), some (.int (v2)), some (.int (iV M4 33 1)), some (.int (v8)), some (.int ((1 : Int32))), some (.int (v19))], [.ref 33])) rfl ⟨trivial, trivial⟩ ?_
                refine sm_w.cI t50 sr50 52 (i := 45) (as := [.ref 33]) (g := (99, [some (.ref 33), some (.ref x1), some (.int (x2)), some (.int (x3)), some (.int (v2)), some (.int (iV M4 33 1)), some (.int (v8)), some (.int ((1 : Int32))), some (.int (v19))], [])) rfl ⟨by decide, by decide, (Nat.le_of_ble_eq_true rfl), (sm_K.g (k_33 hS23) (sm_sh.rf _)).1, (sm_K.g (k_33 hS23) (sm_sh.rf _)).2, (Nat.le_of_ble_eq_true rfl)⟩ (Nat.le_of_ble_eq_true rfl) (by decide) (sm_cI.s2 (by decide) hS23 (g45_0 (K := fun v25 M24 => (v25 = 0 ∨ v25 = 1) ∧ K v25 M24) hS23 h)) (fun v25 M24 h => ?_)
                obtain ⟨hS26, h⟩ := h
                obtain ⟨c27, h⟩ := h
                exact sm_w.end t50 sr50 53 (o := .returned (some (.int (v25)))) (M2 := M24) rfl (nar3 c27) (by decide) (⟨_, rfl, h⟩)
              · have h := h.2 hc
                refine sm_w.run t50 sr50 54 5 (M2 := M21) (f2 := (if (1 : Int32) = 0 then 119 else 113, [some (.ref 33), some (.ref x1), some (.int (x2)), some (.int (x3)), some (.int (v2)), some (.int (iV M4 33 1)), some (.int (v8)), some (.int ((1 : Int32))), some (.int (v19))], [.int (v8), .int (v2), .ref x1])) rfl ⟨trivial, trivial, trivial, trivial, trivial, trivial⟩ ?_
                rw [if_neg (by decide)]
                refine sm_w.run t50 sr50 59 3 (M2 := M21) (f2 := (121, [some (.ref 33), some (.ref x1), some (.int (x2)), some (.int (x3)), some (.int (v2)), some (.int (iV M4 33 1)), some (.int (v8)), some (.int ((1 : Int32))), some (.int (v19))], [.int (-v19), .int (v8), .int (v2), .ref x1])) rfl ⟨trivial, trivial, trivial, trivial⟩ ?_
                refine sm_w.cV t50 sr50 63 (i := 53) (as := [.ref x1, .int (v2), .int (v8), .int (-v19)]) (g := (121, [some (.ref 33), some (.ref x1), some (.int (x2)), some (.int (x3)), some (.int (v2)), some (.int (iV M4 33 1)), some (.int (v8)), some (.int ((1 : Int32))), some (.int (v19))], [])) rfl ⟨by decide, by decide, (Nat.le_of_ble_eq_true rfl), (sm_K.g (kQ_0 hS23 hx1) (sm_sh.rf _)).1, (sm_K.g (kQ_0 hS23 hx1) (sm_sh.rf _)).2, (Nat.le_of_ble_eq_true rfl)⟩ (Nat.le_of_ble_eq_true rfl) (by decide) (sm_cV.s (by decide) hS23 h) (fun M30 h => ?_)
                obtain ⟨hS32, h⟩ := h
                refine sm_w.run t50 sr50 64 1 (M2 := M30) (f2 := (125, [some (.ref 33), some (.ref x1), some (.int (x2)), some (.int (x3)), some (.int (v2)), some (.int (iV M4 33 1)), some (.int (v8)), some (.int ((1 : Int32))), some (.int (v19))], [.int ((1 : Int32))])) rfl ⟨trivial, trivial⟩ ?_
                exact sm_w.end t50 sr50 65 (o := .returned (some (.int ((1 : Int32))))) (M2 := M30) rfl rfl (by decide) (⟨_, rfl, h⟩)
            · have h := h.2 hc
              refine sm_w.run t50 sr50 45 1 (M2 := M18) (f2 := (88, [some (.ref 33), some (.ref x1), some (.int (x2)), some (.int (x3)), some (.int (v2)), some (.int (iV M4 33 1)), some (.int (v8)), some (.int ((1 : Int32))), some (.int (v19))], [.int ((0 : Int32))])) rfl ⟨trivial, trivial⟩ ?_
              exact sm_w.end t50 sr50 46 (o := .returned (some (.int ((0 : Int32))))) (M2 := M18) rfl rfl (by decide) (⟨_, rfl, h⟩)
    · have h := h.2 hc
      refine sm_w.run t50 sr50 17 1 (M2 := M7) (f2 := (35, [some (.ref 33), some (.ref x1), some (.int (x2)), some (.int (x3)), some (.int (v2)), some (.int (iV M4 33 1)), some (.int (v8)), none, none], [.int ((0 : Int32))])) rfl ⟨trivial, trivial⟩ ?_
      exact sm_w.end t50 sr50 18 (o := .returned (some (.int ((0 : Int32))))) (M2 := M7) rfl rfl (by decide) (⟨_, rfl, h⟩)
  · have h := h.2 hc
    refine sm_w.run t50 sr50 5 1 (M2 := M1) (f2 := (12, [some (.ref 33), some (.ref x1), some (.int (x2)), some (.int (x3)), some (.int (v2)), none, none, none, none], [.int ((0 : Int32))])) rfl ⟨trivial, trivial⟩ ?_
    exact sm_w.end t50 sr50 6 (o := .returned (some (.int ((0 : Int32))))) (M2 := M1) rfl rfl (by decide) (⟨_, rfl, h⟩)
theorem g50_1 {M : sm_M} {x1 : Nat} {x3 : Int32} {x4 : Int32} {x6 : Int32} {K : Int32 → sm_M → Prop} (hS : SH M) (hx1 : fQ x1) (h : sm_cI 46 [.ref 33, .int (x3)] M (fun v2 M1 => SH M1 → ((0 ≤ v2 → sm_cI 48 [.ref 33, .int ((59 : Int32))] M1 (fun v5 M4 => SH M4 → ((v5 = 0 → ∀ M11, SH M11 → M11 = sm_wI M4 33 2 (iV M4 33 1) → ((0 : Int32) = 0 ∨ (0 : Int32) = 1) ∧ K (0 : Int32) M11) ∧ (¬ v5 = 0 → sm_cV 53 [.ref x1, .int (x4), .int (x6), .int (v2)] M4 (fun M13 => SH M13 → K (1 : Int32) M13))))) ∧ (¬ 0 ≤ v2 → K (0 : Int32) M1)))) : sm_w 50 (72, [some (.ref 33), some (.ref x1), none, some (.int (x3)), some (.int (x4)), none, some (.int (x6)), none, none], []) M (rI K) := by
  refine sm_w.run t50 sr50 37 4 (M2 := M) (f2 := (77, [some (.ref 33), some (.ref x1), none, some (.int (x3)), some (.int (x4)), none, some (.int (x6)), some (.int ((0 : Int32))), none], [.int (x3), .ref 33])) rfl ⟨trivial, (Nat.le_of_ble_eq_true rfl), trivial, trivial, trivial⟩ ?_
  refine sm_w.cI t50 sr50 41 (i := 46) (as := [.ref 33, .int (x3)]) (g := (77, [some (.ref 33), some (.ref x1), none, some (.int (x3)), some (.int (x4)), none, some (.int (x6)), some (.int ((0 : Int32))), none], [])) rfl ⟨by decide, by decide, (Nat.le_of_ble_eq_true rfl), (sm_K.g (k_33 hS) (sm_sh.rf _)).1, (sm_K.g (k_33 hS) (sm_sh.rf _)).2, (Nat.le_of_ble_eq_true rfl)⟩ (Nat.le_of_ble_eq_true rfl) (by decide) (sm_cI.s (by decide) hS h) (fun v2 M1 h => ?_)
  obtain ⟨hS3, h⟩ := h
  refine sm_w.run t50 sr50 42 3 (M2 := M1) (f2 := (if 0 ≤ v2 then 89 else 87, [some (.ref 33), some (.ref x1), none, some (.int (x3)), some (.int (x4)), none, some (.int (x6)), some (.int ((0 : Int32))), some (.int (v2))], [])) rfl ⟨(Nat.le_of_ble_eq_true rfl), trivial, trivial, trivial⟩ ?_
  refine sm_w.ite (fun hc => ?_) (fun hc => ?_)
  · have h := h.1 hc
    refine sm_w.run t50 sr50 47 2 (M2 := M1) (f2 := (92, [some (.ref 33), some (.ref x1), none, some (.int (x3)), some (.int (x4)), none, some (.int (x6)), some (.int ((0 : Int32))), some (.int (v2))], [.int ((59 : Int32)), .ref 33])) rfl ⟨trivial, trivial, trivial⟩ ?_
    refine sm_w.cI t50 sr50 49 (i := 48) (as := [.ref 33, .int ((59 : Int32))]) (g := (92, [some (.ref 33), some (.ref x1), none, some (.int (x3)), some (.int (x4)), none, some (.int (x6)), some (.int ((0 : Int32))), some (.int (v2))], [])) rfl ⟨by decide, by decide, (Nat.le_of_ble_eq_true rfl), (sm_K.g (k_33 hS3) (sm_sh.rf _)).1, (sm_K.g (k_33 hS3) (sm_sh.rf _)).2, (Nat.le_of_ble_eq_true rfl)⟩ (Nat.le_of_ble_eq_true rfl) (by decide) (sm_cI.s (by decide) hS3 h) (fun v5 M4 h => ?_)
    obtain ⟨hS6, h⟩ := h
    refine sm_w.run t50 sr50 50 1 (M2 := M4) (f2 := (if v5 = 0 then 98 else 103, [some (.ref 33), some (.ref x1), none, some (.int (x3)), some (.int (x4)), none, some (.int (x6)), some (.int ((0 : Int32))), some (.int (v2))], [])) rfl ⟨trivial, trivial⟩ ?_
    refine sm_w.ite (fun hc => ?_) (fun hc => ?_)
    · have h := h.1 hc
      refine sm_w.run t50 sr50 51 1 (M2 := M4) (f2 := (99, [some (.ref 33), some (.ref x1), none, some (.int (x3)), some (.int (x4)), none, some (.int (x6)), some (.int ((0 : Int32))), some (.int (v2))], [.ref 33])) rfl ⟨trivial, trivial⟩ ?_
      refine sm_w.cI t50 sr50 52 (i := 45) (as := [.ref 33]) (g := (99, [some (.ref 33), some (.ref x1), none, some (.int (x3)), some (.int (x4)), none, some (.int (x6)), some (.int ((0 : Int32))), some (.int (v2))], [])) rfl ⟨by decide, by decide, (Nat.le_of_ble_eq_true rfl), (sm_K.g (k_33 hS6) (sm_sh.rf _)).1, (sm_K.g (k_33 hS6) (sm_sh.rf _)).2, (Nat.le_of_ble_eq_true rfl)⟩ (Nat.le_of_ble_eq_true rfl) (by decide) (sm_cI.s2 (by decide) hS6 (g45_0 (K := fun v8 M7 => (v8 = 0 ∨ v8 = 1) ∧ K v8 M7) hS6 h)) (fun v8 M7 h => ?_)
      obtain ⟨hS9, h⟩ := h
      obtain ⟨c10, h⟩ := h
      exact sm_w.end t50 sr50 53 (o := .returned (some (.int (v8)))) (M2 := M7) rfl (nar3 c10) (by decide) (⟨_, rfl, h⟩)
    · have h := h.2 hc
      refine sm_w.run t50 sr50 54 5 (M2 := M4) (f2 := (if (0 : Int32) = 0 then 119 else 113, [some (.ref 33), some (.ref x1), none, some (.int (x3)), some (.int (x4)), none, some (.int (x6)), some (.int ((0 : Int32))), some (.int (v2))], [.int (x6), .int (x4), .ref x1])) rfl ⟨trivial, trivial, trivial, trivial, trivial, trivial⟩ ?_
      rw [if_pos (by decide)]
      refine sm_w.run t50 sr50 62 1 (M2 := M4) (f2 := (121, [some (.ref 33), some (.ref x1), none, some (.int (x3)), some (.int (x4)), none, some (.int (x6)), some (.int ((0 : Int32))), some (.int (v2))], [.int (v2), .int (x6), .int (x4), .ref x1])) rfl ⟨trivial, trivial⟩ ?_
      refine sm_w.cV t50 sr50 63 (i := 53) (as := [.ref x1, .int (x4), .int (x6), .int (v2)]) (g := (121, [some (.ref 33), some (.ref x1), none, some (.int (x3)), some (.int (x4)), none, some (.int (x6)), some (.int ((0 : Int32))), some (.int (v2))], [])) rfl ⟨by decide, by decide, (Nat.le_of_ble_eq_true rfl), (sm_K.g (kQ_0 hS6 hx1) (sm_sh.rf _)).1, (sm_K.g (kQ_0 hS6 hx1) (sm_sh.rf _)).2, (Nat.le_of_ble_eq_true rfl)⟩ (Nat.le_of_ble_eq_true rfl) (by decide) (sm_cV.s (by decide) hS6 h) (fun M13 h => ?_)
      obtain ⟨hS15, h⟩ := h
      refine sm_w.run t50 sr50 64 1 (M2 := M13) (f2 := (125, [some (.ref 33), some (.ref x1), none, some (.int (x3)), some (.int (x4)), none, some (.int (x6)), some (.int ((0 : Int32))), some (.int (v2))], [.int ((1 : Int32))])) rfl ⟨trivial, trivial⟩ ?_
      exact sm_w.end t50 sr50 65 (o := .returned (some (.int ((1 : Int32))))) (M2 := M13) rfl rfl (by decide) (⟨_, rfl, h⟩)
  · have h := h.2 hc
    refine sm_w.run t50 sr50 45 1 (M2 := M1) (f2 := (88, [some (.ref 33), some (.ref x1), none, some (.int (x3)), some (.int (x4)), none, some (.int (x6)), some (.int ((0 : Int32))), some (.int (v2))], [.int ((0 : Int32))])) rfl ⟨trivial, trivial⟩ ?_
    exact sm_w.end t50 sr50 46 (o := .returned (some (.int ((0 : Int32))))) (M2 := M1) rfl rfl (by decide) (⟨_, rfl, h⟩)
-- 32 LineSetter$FontReader.readEntry(LLineSetter$Font;)Z
theorem t32 : sP 32 = (2, sp_32, sh_32) := rfl
theorem sr32 : sm_srt sp_32 = true := by decide +kernel
theorem g32_0 {M : sm_M} {x1 : Nat} {K : Int32 → sm_M → Prop} (hS : SH M) (hx1 : fF x1) (h : sm_cI 33 [.ref 33, .ref 1] M (fun v2 M1 => SH M1 → ((v2 = 0 → sm_cI 33 [.ref 33, .ref 3] M1 (fun v5 M4 => SH M4 → ((v5 = 0 → sm_cI 33 [.ref 33, .ref 5] M4 (fun v8 M7 => SH M7 → ((v8 = 0 → ∀ M14, SH M14 → M14 = sm_wI M7 33 2 (iV M7 33 1) → ((0 : Int32) = 0 ∨ (0 : Int32) = 1) ∧ K (0 : Int32) M14) ∧ (¬ v8 = 0 → sm_cI 50 [.ref 33, .ref (x1 + 8), .int ((0 : Int32)), .int ((5000 : Int32))] M7 (fun v17 M16 => SH M16 → (v17 = 0 ∨ v17 = 1) ∧ K v17 M16))))) ∧ (¬ v5 = 0 → sm_cI 50 [.ref 33, .ref (x1 + 3), .int ((1 : Int32)), .int ((500 : Int32))] M4 (fun v21 M20 => SH M20 → (v21 = 0 ∨ v21 = 1) ∧ K v21 M20))))) ∧ (¬ v2 = 0 → sm_cI 43 [.ref 33, .ref x1] M1 (fun v25 M24 => SH M24 → (v25 = 0 ∨ v25 = 1) ∧ K v25 M24))))) : sm_w 32 (sm_in sP 32 [.ref 33, .ref x1]) M (rI K) := by
  show sm_w 32 (0, [some (.ref 33), some (.ref x1)], []) M (rI K)
  refine sm_w.run t32 sr32 0 2 (M2 := M) (f2 := (3, [some (.ref 33), some (.ref x1)], [.ref 1, .ref 33])) rfl ⟨trivial, trivial, trivial⟩ ?_
  refine sm_w.cI t32 sr32 2 (i := 33) (as := [.ref 33, .ref 1]) (g := (3, [some (.ref 33), some (.ref x1)], [])) rfl ⟨by decide, by decide, (Nat.le_of_ble_eq_true rfl), (sm_K.g (k_33 hS) (sm_sh.rf _)).1, (sm_K.g (k_33 hS) (sm_sh.rf _)).2, (Nat.le_of_ble_eq_true rfl)⟩ (Nat.le_of_ble_eq_true rfl) (by decide) (sm_cI.s (by decide) hS h) (fun v2 M1 h => ?_)
  obtain ⟨hS3, h⟩ := h
  refine sm_w.run t32 sr32 3 1 (M2 := M1) (f2 := (if v2 = 0 then 15 else 9, [some (.ref 33), some (.ref x1)], [])) rfl ⟨trivial, trivial⟩ ?_
  refine sm_w.ite (fun hc => ?_) (fun hc => ?_)
  · have h := h.1 hc
    refine sm_w.run t32 sr32 8 2 (M2 := M1) (f2 := (18, [some (.ref 33), some (.ref x1)], [.ref 3, .ref 33])) rfl ⟨trivial, trivial, trivial⟩ ?_
    refine sm_w.cI t32 sr32 10 (i := 33) (as := [.ref 33, .ref 3]) (g := (18, [some (.ref 33), some (.ref x1)], [])) rfl ⟨by decide, by decide, (Nat.le_of_ble_eq_true rfl), (sm_K.g (k_33 hS3) (sm_sh.rf _)).1, (sm_K.g (k_33 hS3) (sm_sh.rf _)).2, (Nat.le_of_ble_eq_true rfl)⟩ (Nat.le_of_ble_eq_true rfl) (by decide) (sm_cI.s (by decide) hS3 h) (fun v5 M4 h => ?_)
    obtain ⟨hS6, h⟩ := h
    refine sm_w.run t32 sr32 11 1 (M2 := M4) (f2 := (if v5 = 0 then 37 else 24, [some (.ref 33), some (.ref x1)], [])) rfl ⟨trivial, trivial⟩ ?_
    refine sm_w.ite (fun hc => ?_) (fun hc => ?_)
    · have h := h.1 hc
      refine sm_w.run t32 sr32 19 2 (M2 := M4) (f2 := (40, [some (.ref 33), some (.ref x1)], [.ref 5, .ref 33])) rfl ⟨trivial, trivial, trivial⟩ ?_
      refine sm_w.cI t32 sr32 21 (i := 33) (as := [.ref 33, .ref 5]) (g := (40, [some (.ref 33), some (.ref x1)], [])) rfl ⟨by decide, by decide, (Nat.le_of_ble_eq_true rfl), (sm_K.g (k_33 hS6) (sm_sh.rf _)).1, (sm_K.g (k_33 hS6) (sm_sh.rf _)).2, (Nat.le_of_ble_eq_true rfl)⟩ (Nat.le_of_ble_eq_true rfl) (by decide) (sm_cI.s (by decide) hS6 h) (fun v8 M7 h => ?_)
      obtain ⟨hS9, h⟩ := h
      refine sm_w.run t32 sr32 22 1 (M2 := M7) (f2 := (if v8 = 0 then 59 else 46, [some (.ref 33), some (.ref x1)], [])) rfl ⟨trivial, trivial⟩ ?_
      refine sm_w.ite (fun hc => ?_) (fun hc => ?_)
      · have h := h.1 hc
        refine sm_w.run t32 sr32 30 1 (M2 := M7) (f2 := (60, [some (.ref 33), some (.ref x1)], [.ref 33])) rfl ⟨trivial, trivial⟩ ?_
        refine sm_w.cI t32 sr32 31 (i := 45) (as := [.ref 33]) (g := (60, [some (.ref 33), some (.ref x1)], [])) rfl ⟨by decide, by decide, (Nat.le_of_ble_eq_true rfl), (sm_K.g (k_33 hS9) (sm_sh.rf _)).1, (sm_K.g (k_33 hS9) (sm_sh.rf _)).2, (Nat.le_of_ble_eq_true rfl)⟩ (Nat.le_of_ble_eq_true rfl) (by decide) (sm_cI.s2 (by decide) hS9 (g45_0 (K := fun v11 M10 => (v11 = 0 ∨ v11 = 1) ∧ K v11 M10) hS9 h)) (fun v11 M10 h => ?_)
        obtain ⟨hS12, h⟩ := h
        obtain ⟨c13, h⟩ := h
        exact sm_w.end t32 sr32 32 (o := .returned (some (.int (v11)))) (M2 := M10) rfl (nar3 c13) (by decide) (⟨_, rfl, h⟩)
      · have h := h.2 hc
        refine sm_w.run t32 sr32 23 3 (M2 := M7) (f2 := (51, [some (.ref 33), some (.ref x1)], [va_rf (sm_rv M7 x1 4), .ref 33])) rfl ⟨trivial, trivial, sm_K.g (kF_0 hS9 hx1) (sm_sh.rf _), trivial⟩ ?_
        refine sm_w.fld (rF_4 hS9 hx1) ?_
        refine sm_w.run t32 sr32 26 2 (M2 := M7) (f2 := (55, [some (.ref 33), some (.ref x1)], [.int ((5000 : Int32)), .int ((0 : Int32)), .ref (x1 + 8), .ref 33])) rfl ⟨trivial, trivial, trivial⟩ ?_
        refine sm_w.cI t32 sr32 28 (i := 50) (as := [.ref 33, .ref (x1 + 8), .int ((0 : Int32)), .int ((5000 : Int32))]) (g := (55, [some (.ref 33), some (.ref x1)], [])) rfl ⟨by decide, by decide, (Nat.le_of_ble_eq_true rfl), (sm_K.g (k_33 hS9) (sm_sh.rf _)).1, (sm_K.g (k_33 hS9) (sm_sh.rf _)).2, (Nat.le_of_ble_eq_true rfl)⟩ (Nat.le_of_ble_eq_true rfl) (by decide) (sm_cI.s (by decide) hS9 h) (fun v17 M16 h => ?_)
        obtain ⟨hS18, h⟩ := h
        obtain ⟨c19, h⟩ := h
        exact sm_w.end t32 sr32 29 (o := .returned (some (.int (v17)))) (M2 := M16) rfl (nar3 c19) (by decide) (⟨_, rfl, h⟩)
    · have h := h.2 hc
      refine sm_w.run t32 sr32 12 3 (M2 := M4) (f2 := (29, [some (.ref 33), some (.ref x1)], [va_rf (sm_rv M4 x1 3), .ref 33])) rfl ⟨trivial, trivial, sm_K.g (kF_0 hS6 hx1) (sm_sh.rf _), trivial⟩ ?_
      refine sm_w.fld (rF_3 hS6 hx1) ?_
      refine sm_w.run t32 sr32 15 2 (M2 := M4) (f2 := (33, [some (.ref 33), some (.ref x1)], [.int ((500 : Int32)), .int ((1 : Int32)), .ref (x1 + 3), .ref 33])) rfl ⟨trivial, trivial, trivial⟩ ?_
      refine sm_w.cI t32 sr32 17 (i := 50) (as := [.ref 33, .ref (x1 + 3), .int ((1 : Int32)), .int ((500 : Int32))]) (g := (33, [some (.ref 33), some (.ref x1)], [])) rfl ⟨by decide, by decide, (Nat.le_of_ble_eq_true rfl), (sm_K.g (k_33 hS6) (sm_sh.rf _)).1, (sm_K.g (k_33 hS6) (sm_sh.rf _)).2, (Nat.le_of_ble_eq_true rfl)⟩ (Nat.le_of_ble_eq_true rfl) (by decide) (sm_cI.s (by decide) hS6 h) (fun v21 M20 h => ?_)
      obtain ⟨hS22, h⟩ := h
      obtain ⟨c23, h⟩ := h
      exact sm_w.end t32 sr32 18 (o := .returned (some (.int (v21)))) (M2 := M20) rfl (nar3 c23) (by decide) (⟨_, rfl, h⟩)
  · have h := h.2 hc
    refine sm_w.run t32 sr32 4 2 (M2 := M1) (f2 := (11, [some (.ref 33), some (.ref x1)], [.ref x1, .ref 33])) rfl ⟨trivial, trivial, trivial⟩ ?_
    refine sm_w.cI t32 sr32 6 (i := 43) (as := [.ref 33, .ref x1]) (g := (11, [some (.ref 33), some (.ref x1)], [])) rfl ⟨by decide, by decide, (Nat.le_of_ble_eq_true rfl), (sm_K.g (k_33 hS3) (sm_sh.rf _)).1, (sm_K.g (k_33 hS3) (sm_sh.rf _)).2, (Nat.le_of_ble_eq_true rfl)⟩ (Nat.le_of_ble_eq_true rfl) (by decide) (sm_cI.s (by decide) hS3 h) (fun v25 M24 h => ?_)
    obtain ⟨hS26, h⟩ := h
    obtain ⟨c27, h⟩ := h
    exact sm_w.end t32 sr32 7 (o := .returned (some (.int (v25)))) (M2 := M24) rfl (nar3 c27) (by decide) (⟨_, rfl, h⟩)
