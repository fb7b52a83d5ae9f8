/-! METHODS by their segments. -/
-- 221 LineSetterModel.judge()J
theorem t221 : sP 221 = (7, sp_221, sh_221) := rfl
theorem sr221 : sm_srt sp_221 = true := by decide +kernel
theorem g221_0 {M : sm_M}  {K : Int64 → sm_M → Prop} (hS : SH M)  (h : sm_cV 169 [.ref 116] M (fun M1 => SH M1 → (((iV M1 116 59) = 0 → ∀ M7, SH M7 → M7 = sm_wI M1 116 0 (1 : Int32) → K (0 : Int32).toInt64 M7) ∧ (¬ (iV M1 116 59) = 0 → ((((iV M1 116 4) - (iV M1 116 4) / (2 : Int32) * (2 : Int32)) = (1 : Int32) → ∀ M12, SH M12 → M12 = sm_wI M1 116 0 (2 : Int32) → K (0 : Int32).toInt64 M12) ∧ (¬ ((iV M1 116 4) - (iV M1 116 4) / (2 : Int32) * (2 : Int32)) = (1 : Int32) → sm_w 221 (39, [some (.ref 116), some (.int ((0 : Int32))), some (.int ((0 : Int32))), none, none, none, none], []) M1 (rJ K))))))) : sm_w 221 (sm_in sP 221 [.ref 116]) M (rJ K) := by
  show sm_w 221 (0, [some (.ref 116), none, none, none, none, none, none], []) M (rJ K)
  refine sm_w.run t221 sr221 0 1 (M2 := M) (f2 := (1, [some (.ref 116), none, none, none, none, none, none], [.ref 116])) rfl ⟨trivial, trivial⟩ ?_
  refine sm_w.cV t221 sr221 1 (i := 169) (as := [.ref 116]) (g := (1, [some (.ref 116), none, none, none, none, none, none], [])) rfl ⟨by decide, by decide, (Nat.le_of_ble_eq_true rfl), (sm_K.g (k_116 hS) (sm_sh.rf _)).1, (sm_K.g (k_116 hS) (sm_sh.rf _)).2, (Nat.le_of_ble_eq_true rfl)⟩ (Nat.le_of_ble_eq_true rfl) (by decide) (sm_cV.s (by decide) hS h) (fun M1 h => ?_)
  obtain ⟨hS3, h⟩ := h
  refine sm_w.run t221 sr221 2 3 (M2 := M1) (f2 := (if (iV M1 116 59) = 0 then 11 else 18, [some (.ref 116), none, none, none, none, none, none], [])) rfl ⟨trivial, sm_K.g (k_116 hS3) (sm_sh.rf _), trivial, trivial⟩ ?_
  refine sm_w.ite (fun hc => ?_) (fun hc => ?_)
  · have h := h.1 hc
    refine sm_w.run t221 sr221 5 2 (M2 := M1) (f2 := (13, [some (.ref 116), none, none, none, none, none, none], [.int ((1 : Int32)), .ref 116])) rfl ⟨trivial, trivial, trivial⟩ ?_
    refine sm_w.cI t221 sr221 7 (i := 163) (as := [.ref 116, .int ((1 : Int32))]) (g := (13, [some (.ref 116), none, none, none, none, none, none], [])) rfl ⟨by decide, by decide, (Nat.le_of_ble_eq_true rfl), (sm_K.g (k_116 hS3) (sm_sh.rf _)).1, (sm_K.g (k_116 hS3) (sm_sh.rf _)).2, (Nat.le_of_ble_eq_true rfl)⟩ (Nat.le_of_ble_eq_true rfl) (by decide) (sm_cI.s2 (by decide) hS3 (g163_0 (K := fun v5 M4 => K v5.toInt64 M4) hS3 h)) (fun v5 M4 h => ?_)
    obtain ⟨hS6, h⟩ := h
    refine sm_w.run t221 sr221 8 1 (M2 := M4) (f2 := (17, [some (.ref 116), none, none, none, none, none, none], [.long (v5.toInt64)])) rfl ⟨trivial, trivial⟩ ?_
    exact sm_w.end t221 sr221 9 (o := .returned (some (.long (v5.toInt64)))) (M2 := M4) rfl trivial (by decide) (⟨_, rfl, h⟩)
  · have h := h.2 hc
    refine sm_w.run t221 sr221 10 6 (M2 := M1) (f2 := (if ((iV M1 116 4) - (iV M1 116 4) / (2 : Int32) * (2 : Int32)) = (1 : Int32) then 28 else 35, [some (.ref 116), none, none, none, none, none, none], [])) rfl ⟨trivial, sm_K.g (k_116 hS3) (sm_sh.rf _), trivial, by decide, trivial, trivial, trivial⟩ ?_
    refine sm_w.ite (fun hc => ?_) (fun hc => ?_)
    · have h := h.1 hc
      refine sm_w.run t221 sr221 16 2 (M2 := M1) (f2 := (30, [some (.ref 116), none, none, none, none, none, none], [.int ((2 : Int32)), .ref 116])) rfl ⟨trivial, trivial, trivial⟩ ?_
      refine sm_w.cI t221 sr221 18 (i := 163) (as := [.ref 116, .int ((2 : Int32))]) (g := (30, [some (.ref 116), none, none, none, none, none, none], [])) rfl ⟨by decide, by decide, (Nat.le_of_ble_eq_true rfl), (sm_K.g (k_116 hS3) (sm_sh.rf _)).1, (sm_K.g (k_116 hS3) (sm_sh.rf _)).2, (Nat.le_of_ble_eq_true rfl)⟩ (Nat.le_of_ble_eq_true rfl) (by decide) (sm_cI.s2 (by decide) hS3 (g163_0 (K := fun v10 M9 => K v10.toInt64 M9) hS3 h)) (fun v10 M9 h => ?_)
      obtain ⟨hS11, h⟩ := h
      refine sm_w.run t221 sr221 19 1 (M2 := M9) (f2 := (34, [some (.ref 116), none, none, none, none, none, none], [.long (v10.toInt64)])) rfl ⟨trivial, trivial⟩ ?_
      exact sm_w.end t221 sr221 20 (o := .returned (some (.long (v10.toInt64)))) (M2 := M9) rfl trivial (by decide) (⟨_, rfl, h⟩)
    · have h := h.2 hc
      refine sm_w.run t221 sr221 21 4 (M2 := M1) (f2 := (39, [some (.ref 116), some (.int ((0 : Int32))), some (.int ((0 : Int32))), none, none, none, none], [])) rfl ⟨trivial, (Nat.le_of_ble_eq_true rfl), trivial, (Nat.le_of_ble_eq_true rfl), trivial⟩ ?_
      exact h
theorem g221_1 {M : sm_M} {x1 : Int32} {x2 : Int32} {K : Int64 → sm_M → Prop} (hS : SH M)  (h : (((iV M 116 4) ≤ x2 → ∀ M1, SH M1 → M1 = sm_wI M 116 0 (0 : Int32) → sm_w 221 (110, [some (.ref 116), some (.int ((0 : Int32))), some (.long ((0 : Int64))), none, some (.int ((1 : Int32))), some (.int ((0 : Int32))), none], []) M1 (rJ K)) ∧ (¬ (iV M 116 4) ≤ x2 → (vp_in x2 8192) ∧ (vp_in (x2 + (1 : Int32)) 8192) ∧ (((((iV M 118 x2.toNatClampNeg) * (256 : Int32)) + (iV M 118 (x2 + (1 : Int32)).toNatClampNeg)) ≤ x1 → ∀ M8, SH M8 → M8 = sm_wI M 116 0 (2 : Int32) → K (0 : Int32).toInt64 M8) ∧ (¬ (((iV M 118 x2.toNatClampNeg) * (256 : Int32)) + (iV M 118 (x2 + (1 : Int32)).toNatClampNeg)) ≤ x1 → (((((iV M 118 x2.toNatClampNeg) * (256 : Int32)) + (iV M 118 (x2 + (1 : Int32)).toNatClampNeg)) < (iV M 116 63) → sm_w 221 (39, [some (.ref 116), some (.int (((iV M 118 x2.toNatClampNeg) * (256 : Int32)) + (iV M 118 (x2 + (1 : Int32)).toNatClampNeg))), some (.int (x2 + (2 : Int32))), none, none, none, none], []) M (rJ K)) ∧ (¬ (((iV M 118 x2.toNatClampNeg) * (256 : Int32)) + (iV M 118 (x2 + (1 : Int32)).toNatClampNeg)) < (iV M 116 63) → ∀ M13, SH M13 → M13 = sm_wI M 116 0 (2 : Int32) → K (0 : Int32).toInt64 M13))))))) : sm_w 221 (39, [some (.ref 116), some (.int (x1)), some (.int (x2)), none, none, none, none], []) M (rJ K) := by
  refine sm_w.run t221 sr221 25 4 (M2 := M) (f2 := (if (iV M 116 4) ≤ x2 then 95 else 47, [some (.ref 116), some (.int (x1)), some (.int (x2)), none, none, none, none], [])) rfl ⟨trivial, trivial, sm_K.g (k_116 hS) (sm_sh.rf _), trivial, trivial⟩ ?_
  refine sm_w.ite (fun hc => ?_) (fun hc => ?_)
  · have h := h.1 hc
    refine sm_w.run t221 sr221 59 3 (M2 := sm_wI M 116 0 (0 : Int32)) (f2 := (100, [some (.ref 116), some (.int (x1)), some (.int (x2)), none, none, none, none], [])) rfl ⟨trivial, trivial, ⟨(sm_K.p (k_116 hS) (sm_sh.rf _)).1, (sm_K.p (k_116 hS) (sm_sh.rf _)).2.1, (sm_K.p (k_116 hS) (sm_sh.rf _)).2.2, Or.inl rfl⟩, trivial⟩ ?_
    have hS2 : SH (sm_wI M 116 0 (0 : Int32)) := SH.wI hS _ _ _
    have h := h _ hS2 rfl
    generalize sm_wI M 116 0 (0 : Int32) = M1 at h hS2 ⊢
    refine sm_w.run t221 sr221 62 8 (M2 := M1) (f2 := (110, [some (.ref 116), some (.int ((0 : Int32))), some (.long ((0 : Int64))), none, some (.int ((1 : Int32))), some (.int ((0 : Int32))), none], [])) rfl ⟨trivial, (Nat.le_of_ble_eq_true rfl), trivial, (Nat.le_of_ble_eq_true rfl), trivial, (Nat.le_of_ble_eq_true rfl), trivial, (Nat.le_of_ble_eq_true rfl), trivial⟩ ?_
    exact h
  · have h := h.2 hc
    refine sm_w.run t221 sr221 29 2 (M2 := M) (f2 := (51, [some (.ref 116), some (.int (x1)), some (.int (x2)), none, none, none, none], [va_rf (sm_rv M 116 2)])) rfl ⟨trivial, sm_K.g (k_116 hS) (sm_sh.rf _), trivial⟩ ?_
    refine sm_w.fld (r_116_2 hS) ?_
    obtain ⟨c3, h⟩ := h
    refine sm_w.run t221 sr221 31 6 (M2 := M) (f2 := (61, [some (.ref 116), some (.int (x1)), some (.int (x2)), none, none, none, none], [va_rf (sm_rv M 116 2), .int ((iV M 118 x2.toNatClampNeg) * (256 : Int32))])) rfl ⟨trivial, sm_K.a2 (k_118 hS) (l_118 hS) c3, trivial, trivial, trivial, sm_K.g (k_116 hS) (sm_sh.rf _), trivial⟩ ?_
    refine sm_w.fld (r_116_2 hS) ?_
    obtain ⟨c4, h⟩ := h
    refine sm_w.run t221 sr221 37 9 (M2 := M) (f2 := (if (((iV M 118 x2.toNatClampNeg) * (256 : Int32)) + (iV M 118 (x2 + (1 : Int32)).toNatClampNeg)) ≤ x1 then 80 else 72, [some (.ref 116), some (.int (x1)), some (.int (x2)), some (.int (((iV M 118 x2.toNatClampNeg) * (256 : Int32)) + (iV M 118 (x2 + (1 : Int32)).toNatClampNeg))), none, none, none], [])) rfl ⟨trivial, trivial, trivial, sm_K.a2 (k_118 hS) (l_118 hS) c4, trivial, (Nat.le_of_ble_eq_true rfl), trivial, trivial, trivial, trivial⟩ ?_
    refine sm_w.ite (fun hc => ?_) (fun hc => ?_)
    · have h := h.1 hc
      refine sm_w.run t221 sr221 50 2 (M2 := M) (f2 := (82, [some (.ref 116), some (.int (x1)), some (.int (x2)), some (.int (((iV M 118 x2.toNatClampNeg) * (256 : Int32)) + (iV M 118 (x2 + (1 : Int32)).toNatClampNeg))), none, none, none], [.int ((2 : Int32)), .ref 116])) rfl ⟨trivial, trivial, trivial⟩ ?_
      refine sm_w.cI t221 sr221 52 (i := 163) (as := [.ref 116, .int ((2 : Int32))]) (g := (82, [some (.ref 116), some (.int (x1)), some (.int (x2)), some (.int (((iV M 118 x2.toNatClampNeg) * (256 : Int32)) + (iV M 118 (x2 + (1 : Int32)).toNatClampNeg))), none, none, none], [])) rfl ⟨by decide, by decide, (Nat.le_of_ble_eq_true rfl), (sm_K.g (k_116 hS) (sm_sh.rf _)).1, (sm_K.g (k_116 hS) (sm_sh.rf _)).2, (Nat.le_of_ble_eq_true rfl)⟩ (Nat.le_of_ble_eq_true rfl) (by decide) (sm_cI.s2 (by decide) hS (g163_0 (K := fun v6 M5 => K v6.toInt64 M5) hS h)) (fun v6 M5 h => ?_)
      obtain ⟨hS7, h⟩ := h
      refine sm_w.run t221 sr221 53 1 (M2 := M5) (f2 := (86, [some (.ref 116), some (.int (x1)), some (.int (x2)), some (.int (((iV M 118 x2.toNatClampNeg) * (256 : Int32)) + (iV M 118 (x2 + (1 : Int32)).toNatClampNeg))), none, none, none], [.long (v6.toInt64)])) rfl ⟨trivial, trivial⟩ ?_
      exact sm_w.end t221 sr221 54 (o := .returned (some (.long (v6.toInt64)))) (M2 := M5) rfl trivial (by decide) (⟨_, rfl, h⟩)
    · have h := h.2 hc
      refine sm_w.run t221 sr221 46 4 (M2 := M) (f2 := (if (((iV M 118 x2.toNatClampNeg) * (256 : Int32)) + (iV M 118 (x2 + (1 : Int32)).toNatClampNeg)) < (iV M 116 63) then 87 else 80, [some (.ref 116), some (.int (x1)), some (.int (x2)), some (.int (((iV M 118 x2.toNatClampNeg) * (256 : Int32)) + (iV M 118 (x2 + (1 : Int32)).toNatClampNeg))), none, none, none], [])) rfl ⟨trivial, trivial, sm_K.g (k_116 hS) (sm_sh.rf _), trivial, trivial⟩ ?_
      refine sm_w.ite (fun hc => ?_) (fun hc => ?_)
      · have h := h.1 hc
        refine sm_w.run t221 sr221 55 4 (M2 := M) (f2 := (39, [some (.ref 116), some (.int (((iV M 118 x2.toNatClampNeg) * (256 : Int32)) + (iV M 118 (x2 + (1 : Int32)).toNatClampNeg))), some (.int (x2 + (2 : Int32))), some (.int (((iV M 118 x2.toNatClampNeg) * (256 : Int32)) + (iV M 118 (x2 + (1 : Int32)).toNatClampNeg))), none, none, none], [])) rfl ⟨trivial, (Nat.le_of_ble_eq_true rfl), (Nat.le_of_ble_eq_true rfl), trivial, trivial⟩ ?_
        refine sm_w.weak (ls := [some (.ref 116), some (.int (((iV M 118 x2.toNatClampNeg) * (256 : Int32)) + (iV M 118 (x2 + (1 : Int32)).toNatClampNeg))), some (.int (x2 + (2 : Int32))), none, none, none, none]) (sm_leI [true, true, true, false, false, false, false] rfl) ?_
        exact h
      · have h := h.2 hc
        refine sm_w.run t221 sr221 50 2 (M2 := M) (f2 := (82, [some (.ref 116), some (.int (x1)), some (.int (x2)), some (.int (((iV M 118 x2.toNatClampNeg) * (256 : Int32)) + (iV M 118 (x2 + (1 : Int32)).toNatClampNeg))), none, none, none], [.int ((2 : Int32)), .ref 116])) rfl ⟨trivial, trivial, trivial⟩ ?_
        refine sm_w.cI t221 sr221 52 (i := 163) (as := [.ref 116, .int ((2 : Int32))]) (g := (82, [some (.ref 116), some (.int (x1)), some (.int (x2)), some (.int (((iV M 118 x2.toNatClampNeg) * (256 : Int32)) + (iV M 118 (x2 + (1 : Int32)).toNatClampNeg))), none, none, none], [])) rfl ⟨by decide, by decide, (Nat.le_of_ble_eq_true rfl), (sm_K.g (k_116 hS) (sm_sh.rf _)).1, (sm_K.g (k_116 hS) (sm_sh.rf _)).2, (Nat.le_of_ble_eq_true rfl)⟩ (Nat.le_of_ble_eq_true rfl) (by decide) (sm_cI.s2 (by decide) hS (g163_0 (K := fun v11 M10 => K v11.toInt64 M10) hS h)) (fun v11 M10 h => ?_)
        obtain ⟨hS12, h⟩ := h
        refine sm_w.run t221 sr221 53 1 (M2 := M10) (f2 := (86, [some (.ref 116), some (.int (x1)), some (.int (x2)), some (.int (((iV M 118 x2.toNatClampNeg) * (256 : Int32)) + (iV M 118 (x2 + (1 : Int32)).toNatClampNeg))), none, none, none], [.long (v11.toInt64)])) rfl ⟨trivial, trivial⟩ ?_
        exact sm_w.end t221 sr221 54 (o := .returned (some (.long (v11.toInt64)))) (M2 := M10) rfl trivial (by decide) (⟨_, rfl, h⟩)
theorem g221_2 {M : sm_M} {x1 : Int32} {x2 : Int64} {x4 : Int32} {x5 : Int32} {K : Int64 → sm_M → Prop} (hS : SH M)  (h : (((iV M 116 4) < x5 → K x2 M) ∧ (¬ (iV M 116 4) < x5 → ((x5 = (iV M 116 4) → sm_cV 207 [.ref 116, .int (x1), .int (iV M 116 63)] M (fun M1 => SH M1 → (((iV M1 116 65) < (iV M1 116 84) → K (-1 : Int64) M1) ∧ (¬ (iV M1 116 65) < (iV M1 116 84) → (((iV M1 116 85) = 0 → (q210_0 M1 x1 (iV M 116 63) x4) ∧ sm_w 221 (110, [some (.ref 116), some (.int (iV M 116 63)), some (.long (x2 + (p210_0 M1 x1 (iV M 116 63) x4))), none, some (.int (p209_0 M1)), some (.int (x5 + (2 : Int32))), none], []) M1 (rJ K)) ∧ (¬ (iV M1 116 85) = 0 → (((iV M1 116 65) = (10001 : Int32) → (q210_0 M1 x1 (iV M 116 63) x4) ∧ sm_w 221 (110, [some (.ref 116), some (.int (iV M 116 63)), some (.long (x2 + (p210_0 M1 x1 (iV M 116 63) x4))), none, some (.int (p209_0 M1)), some (.int (x5 + (2 : Int32))), none], []) M1 (rJ K)) ∧ (¬ (iV M1 116 65) = (10001 : Int32) → K (-1 : Int64) M1)))))))) ∧ (¬ x5 = (iV M 116 4) → (vp_in x5 8192) ∧ (vp_in (x5 + (1 : Int32)) 8192) ∧ sm_cV 207 [.ref 116, .int (x1), .int (((iV M 118 x5.toNatClampNeg) * (256 : Int32)) + (iV M 118 (x5 + (1 : Int32)).toNatClampNeg))] M (fun M8 => SH M8 → (((iV M8 116 65) < (iV M8 116 84) → K (-1 : Int64) M8) ∧ (¬ (iV M8 116 65) < (iV M8 116 84) → (((iV M8 116 85) = 0 → (q210_0 M8 x1 (((iV M 118 x5.toNatClampNeg) * (256 : Int32)) + (iV M 118 (x5 + (1 : Int32)).toNatClampNeg)) x4) ∧ sm_w 221 (110, [some (.ref 116), some (.int (((iV M 118 x5.toNatClampNeg) * (256 : Int32)) + (iV M 118 (x5 + (1 : Int32)).toNatClampNeg))), some (.long (x2 + (p210_0 M8 x1 (((iV M 118 x5.toNatClampNeg) * (256 : Int32)) + (iV M 118 (x5 + (1 : Int32)).toNatClampNeg)) x4))), none, some (.int (p209_0 M8)), some (.int (x5 + (2 : Int32))), none], []) M8 (rJ K)) ∧ (¬ (iV M8 116 85) = 0 → (((iV M8 116 65) = (10001 : Int32) → (q210_0 M8 x1 (((iV M 118 x5.toNatClampNeg) * (256 : Int32)) + (iV M 118 (x5 + (1 : Int32)).toNatClampNeg)) x4) ∧ sm_w 221 (110, [some (.ref 116), some (.int (((iV M 118 x5.toNatClampNeg) * (256 : Int32)) + (iV M 118 (x5 + (1 : Int32)).toNatClampNeg))), some (.long (x2 + (p210_0 M8 x1 (((iV M 118 x5.toNatClampNeg) * (256 : Int32)) + (iV M 118 (x5 + (1 : Int32)).toNatClampNeg)) x4))), none, some (.int (p209_0 M8)), some (.int (x5 + (2 : Int32))), none], []) M8 (rJ K)) ∧ (¬ (iV M8 116 65) = (10001 : Int32) → K (-1 : Int64) M8)))))))))))) : sm_w 221 (110, [some (.ref 116), some (.int (x1)), some (.long (x2)), none, some (.int (x4)), some (.int (x5)), none], []) M (rJ K) := by
  refine sm_w.run t221 sr221 70 4 (M2 := M) (f2 := (if (iV M 116 4) < x5 then 224 else 119, [some (.ref 116), some (.int (x1)), some (.long (x2)), none, some (.int (x4)), some (.int (x5)), none], [])) rfl ⟨trivial, trivial, sm_K.g (k_116 hS) (sm_sh.rf _), trivial, trivial⟩ ?_
  refine sm_w.ite (fun hc => ?_) (fun hc => ?_)
  · have h := h.1 hc
    refine sm_w.run t221 sr221 128 1 (M2 := M) (f2 := (225, [some (.ref 116), some (.int (x1)), some (.long (x2)), none, some (.int (x4)), some (.int (x5)), none], [.long (x2)])) rfl ⟨trivial, trivial⟩ ?_
    exact sm_w.end t221 sr221 129 (o := .returned (some (.long (x2)))) (M2 := M) rfl trivial (by decide) (⟨_, rfl, h⟩)
  · have h := h.2 hc
    refine sm_w.run t221 sr221 74 4 (M2 := M) (f2 := (if x5 = (iV M 116 4) then 128 else 135, [some (.ref 116), some (.int (x1)), some (.long (x2)), none, some (.int (x4)), some (.int (x5)), none], [])) rfl ⟨trivial, trivial, sm_K.g (k_116 hS) (sm_sh.rf _), trivial, trivial⟩ ?_
    refine sm_w.ite (fun hc => ?_) (fun hc => ?_)
    · have h := h.1 hc
      refine sm_w.run t221 sr221 78 3 (M2 := M) (f2 := (156, [some (.ref 116), some (.int (x1)), some (.long (x2)), none, some (.int (x4)), some (.int (x5)), none], [.int (iV M 116 63)])) rfl ⟨trivial, sm_K.g (k_116 hS) (sm_sh.rf _), trivial, trivial⟩ ?_
      refine sm_w.run t221 sr221 94 4 (M2 := M) (f2 := (162, [some (.ref 116), some (.int (x1)), some (.long (x2)), none, some (.int (x4)), some (.int (x5)), some (.int (iV M 116 63))], [.int (iV M 116 63), .int (x1), .ref 116])) rfl ⟨(Nat.le_of_ble_eq_true rfl), trivial, trivial, trivial, trivial⟩ ?_
      refine sm_w.cV t221 sr221 98 (i := 207) (as := [.ref 116, .int (x1), .int (iV M 116 63)]) (g := (162, [some (.ref 116), some (.int (x1)), some (.long (x2)), none, some (.int (x4)), some (.int (x5)), some (.int (iV M 116 63))], [])) rfl ⟨by decide, by decide, (Nat.le_of_ble_eq_true rfl), (sm_K.g (k_116 hS) (sm_sh.rf _)).1, (sm_K.g (k_116 hS) (sm_sh.rf _)).2, (Nat.le_of_ble_eq_true rfl)⟩ (Nat.le_of_ble_eq_true rfl) (by decide) (sm_cV.s (by decide) hS h) (fun M1 h => ?_)
      obtain ⟨hS3, h⟩ := h
      refine sm_w.run t221 sr221 99 5 (M2 := M1) (f2 := (if (iV M1 116 65) < (iV M1 116 84) then 193 else 176, [some (.ref 116), some (.int (x1)), some (.long (x2)), none, some (.int (x4)), some (.int (x5)), some (.int (iV M 116 63))], [])) rfl ⟨trivial, sm_K.g (k_116 hS3) (sm_sh.rf _), trivial, sm_K.g (k_116 hS3) (sm_sh.rf _), trivial, trivial⟩ ?_
      refine sm_w.ite (fun hc => ?_) (fun hc => ?_)
      · have h := h.1 hc
        refine sm_w.run t221 sr221 111 1 (M2 := M1) (f2 := (196, [some (.ref 116), some (.int (x1)), some (.long (x2)), none, some (.int (x4)), some (.int (x5)), some (.int (iV M 116 63))], [.long ((-1 : Int64))])) rfl ⟨trivial, trivial⟩ ?_
        exact sm_w.end t221 sr221 112 (o := .returned (some (.long ((-1 : Int64))))) (M2 := M1) rfl trivial (by decide) (⟨_, rfl, h⟩)
      · have h := h.2 hc
        refine sm_w.run t221 sr221 104 3 (M2 := M1) (f2 := (if (iV M1 116 85) = 0 then 197 else 183, [some (.ref 116), some (.int (x1)), some (.long (x2)), none, some (.int (x4)), some (.int (x5)), some (.int (iV M 116 63))], [])) rfl ⟨trivial, sm_K.g (k_116 hS3) (sm_sh.rf _), trivial, trivial⟩ ?_
        refine sm_w.ite (fun hc => ?_) (fun hc => ?_)
        · have h := h.1 hc
          obtain ⟨c4, h⟩ := h
          refine sm_w.run t221 sr221 113 5 (M2 := M1) (f2 := (204, [some (.ref 116), some (.int (x1)), some (.long (x2)), none, some (.int (x4)), some (.int (x5)), some (.int (iV M 116 63))], [.int (x4), .int (iV M 116 63), .int (x1), .ref 116, .long (x2)])) rfl ⟨trivial, trivial, trivial, trivial, trivial, trivial⟩ ?_
          refine sm_w.cJ t221 sr221 118 (i := 210) (as := [.ref 116, .int (x1), .int (iV M 116 63), .int (x4)]) (g := (204, [some (.ref 116), some (.int (x1)), some (.long (x2)), none, some (.int (x4)), some (.int (x5)), some (.int (iV M 116 63))], [.long (x2)])) rfl ⟨by decide, by decide, (Nat.le_of_ble_eq_true rfl), (sm_K.g (k_116 hS3) (sm_sh.rf _)).1, (sm_K.g (k_116 hS3) (sm_sh.rf _)).2, (Nat.le_of_ble_eq_true rfl)⟩ (Nat.le_of_ble_eq_true rfl) (by decide) (p210_c hS3 c4) (fun vz M2 hz => ?_)
          obtain ⟨hz1, hz2⟩ := hz
          subst hz1
          have hz2 := hz2.symm
          subst hz2
          refine sm_w.run t221 sr221 119 3 (M2 := M1) (f2 := (210, [some (.ref 116), some (.int (x1)), some (.long (x2 + (p210_0 M1 x1 (iV M 116 63) x4))), none, some (.int (x4)), some (.int (x5)), some (.int (iV M 116 63))], [.ref 116])) rfl ⟨trivial, (Nat.le_of_ble_eq_true rfl), trivial, trivial⟩ ?_
          refine sm_w.cI t221 sr221 122 (i := 209) (as := [.ref 116]) (g := (210, [some (.ref 116), some (.int (x1)), some (.long (x2 + (p210_0 M1 x1 (iV M 116 63) x4))), none, some (.int (x4)), some (.int (x5)), some (.int (iV M 116 63))], [])) rfl ⟨by decide, by decide, (Nat.le_of_ble_eq_true rfl), (sm_K.g (k_116 hS3) (sm_sh.rf _)).1, (sm_K.g (k_116 hS3) (sm_sh.rf _)).2, (Nat.le_of_ble_eq_true rfl)⟩ (Nat.le_of_ble_eq_true rfl) (by decide) (p209_c hS3) (fun vz M2 hz => ?_)
          obtain ⟨hz1, hz2⟩ := hz
          subst hz1
          have hz2 := hz2.symm
          subst hz2
          refine sm_w.run t221 sr221 123 5 (M2 := M1) (f2 := (110, [some (.ref 116), some (.int (iV M 116 63)), some (.long (x2 + (p210_0 M1 x1 (iV M 116 63) x4))), none, some (.int (p209_0 M1)), some (.int (x5 + (2 : Int32))), some (.int (iV M 116 63))], [])) rfl ⟨(Nat.le_of_ble_eq_true rfl), trivial, (Nat.le_of_ble_eq_true rfl), (Nat.le_of_ble_eq_true rfl), trivial, trivial⟩ ?_
          refine sm_w.weak (ls := [some (.ref 116), some (.int (iV M 116 63)), some (.long (x2 + (p210_0 M1 x1 (iV M 116 63) x4))), none, some (.int (p209_0 M1)), some (.int (x5 + (2 : Int32))), none]) (sm_leI [true, true, true, false, true, true, false] rfl) ?_
          exact h
        · have h := h.2 hc
          refine sm_w.run t221 sr221 107 4 (M2 := M1) (f2 := (if (iV M1 116 65) = (10001 : Int32) then 197 else 193, [some (.ref 116), some (.int (x1)), some (.long (x2)), none, some (.int (x4)), some (.int (x5)), some (.int (iV M 116 63))], [])) rfl ⟨trivial, sm_K.g (k_116 hS3) (sm_sh.rf _), trivial, trivial, trivial⟩ ?_
          refine sm_w.ite (fun hc => ?_) (fun hc => ?_)
          · have h := h.1 hc
            obtain ⟨c5, h⟩ := h
            refine sm_w.run t221 sr221 113 5 (M2 := M1) (f2 := (204, [some (.ref 116), some (.int (x1)), some (.long (x2)), none, some (.int (x4)), some (.int (x5)), some (.int (iV M 116 63))], [.int (x4), .int (iV M 116 63), .int (x1), .ref 116, .long (x2)])) rfl ⟨trivial, trivial, trivial, trivial, trivial, trivial⟩ ?_
            refine sm_w.cJ t221 sr221 118 (i := 210) (as := [.ref 116, .int (x1), .int (iV M 116 63), .int (x4)]) (g := (204, [some (.ref 116), some (.int (x1)), some (.long (x2)), none, some (.int (x4)), some (.int (x5)), some (.int (iV M 116 63))], [.long (x2)])) rfl ⟨by decide, by decide, (Nat.le_of_ble_eq_true rfl), (sm_K.g (k_116 hS3) (sm_sh.rf _)).1, (sm_K.g (k_116 hS3) (sm_sh.rf _)).2, (Nat.le_of_ble_eq_true rfl)⟩ (Nat.le_of_ble_eq_true rfl) (by decide) (p210_c hS3 c5) (fun vz M2 hz => ?_)
            obtain ⟨hz1, hz2⟩ := hz
            subst hz1
            have hz2 := hz2.symm
            subst hz2
            refine sm_w.run t221 sr221 119 3 (M2 := M1) (f2 := (210, [some (.ref 116), some (.int (x1)), some (.long (x2 + (p210_0 M1 x1 (iV M 116 63) x4))), none, some (.int (x4)), some (.int (x5)), some (.int (iV M 116 63))], [.ref 116])) rfl ⟨trivial, (Nat.le_of_ble_eq_true rfl), trivial, trivial⟩ ?_
            refine sm_w.cI t221 sr221 122 (i := 209) (as := [.ref 116]) (g := (210, [some (.ref 116), some (.int (x1)), some (.long (x2 + (p210_0 M1 x1 (iV M 116 63) x4))), none, some (.int (x4)), some (.int (x5)), some (.int (iV M 116 63))], [])) rfl ⟨by decide, by decide, (Nat.le_of_ble_eq_true rfl), (sm_K.g (k_116 hS3) (sm_sh.rf _)).1, (sm_K.g (k_116 hS3) (sm_sh.rf _)).2, (Nat.le_of_ble_eq_true rfl)⟩ (Nat.le_of_ble_eq_true rfl) (by decide) (p209_c hS3) (fun vz M2 hz => ?_)
            obtain ⟨hz1, hz2⟩ := hz
            subst hz1
            have hz2 := hz2.symm
            subst hz2
            refine sm_w.run t221 sr221 123 5 (M2 := M1) (f2 := (110, [some (.ref 116), some (.int (iV M 116 63)), some (.long (x2 + (p210_0 M1 x1 (iV M 116 63) x4))), none, some (.int (p209_0 M1)), some (.int (x5 + (2 : Int32))), some (.int (iV M 116 63))], [])) rfl ⟨(Nat.le_of_ble_eq_true rfl), trivial, (Nat.le_of_ble_eq_true rfl), (Nat.le_of_ble_eq_true rfl), trivial, trivial⟩ ?_
            refine sm_w.weak (ls := [some (.ref 116), some (.int (iV M 116 63)), some (.long (x2 + (p210_0 M1 x1 (iV M 116 63) x4))), none, some (.int (p209_0 M1)), some (.int (x5 + (2 : Int32))), none]) (sm_leI [true, true, true, false, true, true, false] rfl) ?_
            exact h
          · have h := h.2 hc
            refine sm_w.run t221 sr221 111 1 (M2 := M1) (f2 := (196, [some (.ref 116), some (.int (x1)), some (.long (x2)), none, some (.int (x4)), some (.int (x5)), some (.int (iV M 116 63))], [.long ((-1 : Int64))])) rfl ⟨trivial, trivial⟩ ?_
            exact sm_w.end t221 sr221 112 (o := .returned (some (.long ((-1 : Int64))))) (M2 := M1) rfl trivial (by decide) (⟨_, rfl, h⟩)
    · have h := h.2 hc
      refine sm_w.run t221 sr221 81 2 (M2 := M) (f2 := (139, [some (.ref 116), some (.int (x1)), some (.long (x2)), none, some (.int (x4)), some (.int (x5)), none], [va_rf (sm_rv M 116 2)])) rfl ⟨trivial, sm_K.g (k_116 hS) (sm_sh.rf _), trivial⟩ ?_
      refine sm_w.fld (r_116_2 hS) ?_
      obtain ⟨c6, h⟩ := h
      refine sm_w.run t221 sr221 83 6 (M2 := M) (f2 := (150, [some (.ref 116), some (.int (x1)), some (.long (x2)), none, some (.int (x4)), some (.int (x5)), none], [va_rf (sm_rv M 116 2), .int ((iV M 118 x5.toNatClampNeg) * (256 : Int32))])) rfl ⟨trivial, sm_K.a2 (k_118 hS) (l_118 hS) c6, trivial, trivial, trivial, sm_K.g (k_116 hS) (sm_sh.rf _), trivial⟩ ?_
      refine sm_w.fld (r_116_2 hS) ?_
      obtain ⟨c7, h⟩ := h
      refine sm_w.run t221 sr221 89 9 (M2 := M) (f2 := (162, [some (.ref 116), some (.int (x1)), some (.long (x2)), none, some (.int (x4)), some (.int (x5)), some (.int (((iV M 118 x5.toNatClampNeg) * (256 : Int32)) + (iV M 118 (x5 + (1 : Int32)).toNatClampNeg)))], [.int (((iV M 118 x5.toNatClampNeg) * (256 : Int32)) + (iV M 118 (x5 + (1 : Int32)).toNatClampNeg)), .int (x1), .ref 116])) rfl ⟨trivial, trivial, trivial, sm_K.a2 (k_118 hS) (l_118 hS) c7, trivial, (Nat.le_of_ble_eq_true rfl), trivial, trivial, trivial, trivial⟩ ?_
      refine sm_w.cV t221 sr221 98 (i := 207) (as := [.ref 116, .int (x1), .int (((iV M 118 x5.toNatClampNeg) * (256 : Int32)) + (iV M 118 (x5 + (1 : Int32)).toNatClampNeg))]) (g := (162, [some (.ref 116), some (.int (x1)), some (.long (x2)), none, some (.int (x4)), some (.int (x5)), some (.int (((iV M 118 x5.toNatClampNeg) * (256 : Int32)) + (iV M 118 (x5 + (1 : Int32)).toNatClampNeg)))], [])) rfl ⟨by decide, by decide, (Nat.le_of_ble_eq_true rfl), (sm_K.g (k_116 hS) (sm_sh.rf _)).1, (sm_K.g (k_116 hS) (sm_sh.rf _)).2, (Nat.le_of_ble_eq_true rfl)⟩ (Nat.le_of_ble_eq_true rfl) (by decide) (sm_cV.s (by decide) hS h) (fun M8 h => ?_)
      obtain ⟨hS10, h⟩ := h
      refine sm_w.run t221 sr221 99 5 (M2 := M8) (f2 := (if (iV M8 116 65) < (iV M8 116 84) then 193 else 176, [some (.ref 116), some (.int (x1)), some (.long (x2)), none, some (.int (x4)), some (.int (x5)), some (.int (((iV M 118 x5.toNatClampNeg) * (256 : Int32)) + (iV M 118 (x5 + (1 : Int32)).toNatClampNeg)))], [])) rfl ⟨trivial, sm_K.g (k_116 hS10) (sm_sh.rf _), trivial, sm_K.g (k_116 hS10) (sm_sh.rf _), trivial, trivial⟩ ?_
      refine sm_w.ite (fun hc => ?_) (fun hc => ?_)
      · have h := h.1 hc
        refine sm_w.run t221 sr221 111 1 (M2 := M8) (f2 := (196, [some (.ref 116), some (.int (x1)), some (.long (x2)), none, some (.int (x4)), some (.int (x5)), some (.int (((iV M 118 x5.toNatClampNeg) * (256 : Int32)) + (iV M 118 (x5 + (1 : Int32)).toNatClampNeg)))], [.long ((-1 : Int64))])) rfl ⟨trivial, trivial⟩ ?_
        exact sm_w.end t221 sr221 112 (o := .returned (some (.long ((-1 : Int64))))) (M2 := M8) rfl trivial (by decide) (⟨_, rfl, h⟩)
      · have h := h.2 hc
        refine sm_w.run t221 sr221 104 3 (M2 := M8) (f2 := (if (iV M8 116 85) = 0 then 197 else 183, [some (.ref 116), some (.int (x1)), some (.long (x2)), none, some (.int (x4)), some (.int (x5)), some (.int (((iV M 118 x5.toNatClampNeg) * (256 : Int32)) + (iV M 118 (x5 + (1 : Int32)).toNatClampNeg)))], [])) rfl ⟨trivial, sm_K.g (k_116 hS10) (sm_sh.rf _), trivial, trivial⟩ ?_
        refine sm_w.ite (fun hc => ?_) (fun hc => ?_)
        · have h := h.1 hc
          obtain ⟨c11, h⟩ := h
          refine sm_w.run t221 sr221 113 5 (M2 := M8) (f2 := (204, [some (.ref 116), some (.int (x1)), some (.long (x2)), none, some (.int (x4)), some (.int (x5)), some (.int (((iV M 118 x5.toNatClampNeg) * (256 : Int32)) + (iV M 118 (x5 + (1 : Int32)).toNatClampNeg)))], [.int (x4), .int (((iV M 118 x5.toNatClampNeg) * (256 : Int32)) + (iV M 118 (x5 + (1 : Int32)).toNatClampNeg)), .int (x1), .ref 116, .long (x2)])) rfl ⟨trivial, trivial, trivial, trivial, trivial, trivial⟩ ?_
          refine sm_w.cJ t221 sr221 118 (i := 210) (as := [.ref 116, .int (x1), .int (((iV M 118 x5.toNatClampNeg) * (256 : Int32)) + (iV M 118 (x5 + (1 : Int32)).toNatClampNeg)), .int (x4)]) (g := (204, [some (.ref 116), some (.int (x1)), some (.long (x2)), none, some (.int (x4)), some (.int (x5)), some (.int (((iV M 118 x5.toNatClampNeg) * (256 : Int32)) + (iV M 118 (x5 + (1 : Int32)).toNatClampNeg)))], [.long (x2)])) rfl ⟨by decide, by decide, (Nat.le_of_ble_eq_true rfl), (sm_K.g (k_116 hS10) (sm_sh.rf _)).1, (sm_K.g (k_116 hS10) (sm_sh.rf _)).2, (Nat.le_of_ble_eq_true rfl)⟩ (Nat.le_of_ble_eq_true rfl) (by decide) (p210_c hS10 c11) (fun vz M2 hz => ?_)
          obtain ⟨hz1, hz2⟩ := hz
          subst hz1
          have hz2 := hz2.symm
          subst hz2
          refine sm_w.run t221 sr221 119 3 (M2 := M8) (f2 := (210, [some (.ref 116), some (.int (x1)), some (.long (x2 + (p210_0 M8 x1 (((iV M 118 x5.toNatClampNeg) * (256 : Int32)) + (iV M 118 (x5 + (1 : Int32)).toNatClampNeg)) x4))), none, some (.int (x4)), some (.int (x5)), some (.int (((iV M 118 x5.toNatClampNeg) * (256 : Int32)) + (iV M 118 (x5 + (1 : Int32)).toNatClampNeg)))], [.ref 116])) rfl ⟨trivial, (Nat.le_of_ble_eq_true rfl), trivial, trivial⟩ ?_
          refine sm_w.cI t221 sr221 122 (i := 209) (as := [.ref 116]) (g := (210, [some (.ref 116), some (.int (x1)), some (.long (x2 + (p210_0 M8 x1 (((iV M 118 x5.toNatClampNeg) * (256 : Int32)) + (iV M 118 (x5 + (1 : Int32)).toNatClampNeg)) x4))), none, some (.int (x4)), some (.int (x5)), some (.int (((iV M 118 x5.toNatClampNeg) * (256 : Int32)) + (iV M 118 (x5 + (1 : Int32)).toNatClampNeg)))], [])) rfl ⟨by decide, by decide, (Nat.le_of_ble_eq_true rfl), (sm_K.g (k_116 hS10) (sm_sh.rf _)).1, (sm_K.g (k_116 hS10) (sm_sh.rf _)).2, (Nat.le_of_ble_eq_true rfl)⟩ (Nat.le_of_ble_eq_true rfl) (by decide) (p209_c hS10) (fun vz M2 hz => ?_)
          obtain ⟨hz1, hz2⟩ := hz
          subst hz1
          have hz2 := hz2.symm
          subst hz2
          refine sm_w.run t221 sr221 123 5 (M2 := M8) (f2 := (110, [some (.ref 116), some (.int (((iV M 118 x5.toNatClampNeg) * (256 : Int32)) + (iV M 118 (x5 + (1 : Int32)).toNatClampNeg))), some (.long (x2 + (p210_0 M8 x1 (((iV M 118 x5.toNatClampNeg) * (256 : Int32)) + (iV M 118 (x5 + (1 : Int32)).toNatClampNeg)) x4))), none, some (.int (p209_0 M8)), some (.int (x5 + (2 : Int32))), some (.int (((iV M 118 x5.toNatClampNeg) * (256 : Int32)) + (iV M 118 (x5 + (1 : Int32)).toNatClampNeg)))], [])) rfl ⟨(Nat.le_of_ble_eq_true rfl), trivial, (Nat.le_of_ble_eq_true rfl), (Nat.le_of_ble_eq_true rfl), trivial, trivial⟩ ?_
          refine sm_w.weak (ls := [some (.ref 116), some (.int (((iV M 118 x5.toNatClampNeg) * (256 : Int32)) + (iV M 118 (x5 + (1 : Int32)).toNatClampNeg))), some (.long (x2 + (p210_0 M8 x1 (((iV M 118 x5.toNatClampNeg) * (256 : Int32)) + (iV M 118 (x5 + (1 : Int32)).toNatClampNeg)) x4))), none, some (.int (p209_0 M8)), some (.int (x5 + (2 : Int32))), none]) (sm_leI [true, true, true, false, true, true, false] rfl) ?_
          exact h
        · have h := h.2 hc
          refine sm_w.run t221 sr221 107 4 (M2 := M8) (f2 := (if (iV M8 116 65) = (10001 : Int32) then 197 else 193, [some (.ref 116), some (.int (x1)), some (.long (x2)), none, some (.int (x4)), some (.int (x5)), some (.int (((iV M 118 x5.toNatClampNeg) * (256 : Int32)) + (iV M 118 (x5 + (1 : Int32)).toNatClampNeg)))], [])) rfl ⟨trivial, sm_K.g (k_116 hS10) (sm_sh.rf _), trivial, trivial, trivial⟩ ?_
          refine sm_w.ite (fun hc => ?_) (fun hc => ?_)
          · have h := h.1 hc
            obtain ⟨c12, h⟩ := h
            refine sm_w.run t221 sr221 113 5 (M2 := M8) (f2 := (204, [some (.ref 116), some (.int (x1)), some (.long (x2)), none, some (.int (x4)), some (.int (x5)), some (.int (((iV M 118 x5.toNatClampNeg) * (256 : Int32)) + (iV M 118 (x5 + (1 : Int32)).toNatClampNeg)))], [.int (x4), .int (((iV M 118 x5.toNatClampNeg) * (256 : Int32)) + (iV M 118 (x5 + (1 : Int32)).toNatClampNeg)), .int (x1), .ref 116, .long (x2)])) rfl ⟨trivial, trivial, trivial, trivial, trivial, trivial⟩ ?_
            refine sm_w.cJ t221 sr221 118 (i := 210) (as := [.ref 116, .int (x1), .int (((iV M 118 x5.toNatClampNeg) * (256 : Int32)) + (iV M 118 (x5 + (1 : Int32)).toNatClampNeg)), .int (x4)]) (g := (204, [some (.ref 116), some (.int (x1)), some (.long (x2)), none, some (.int (x4)), some (.int (x5)), some (.int (((iV M 118 x5.toNatClampNeg) * (256 : Int32)) + (iV M 118 (x5 + (1 : Int32)).toNatClampNeg)))], [.long (x2)])) rfl ⟨by decide, by decide, (Nat.le_of_ble_eq_true rfl), (sm_K.g (k_116 hS10) (sm_sh.rf _)).1, (sm_K.g (k_116 hS10) (sm_sh.rf _)).2, (Nat.le_of_ble_eq_true rfl)⟩ (Nat.le_of_ble_eq_true rfl) (by decide) (p210_c hS10 c12) (fun vz M2 hz => ?_)
            obtain ⟨hz1, hz2⟩ := hz
            subst hz1
            have hz2 := hz2.symm
            subst hz2
            refine sm_w.run t221 sr221 119 3 (M2 := M8) (f2 := (210, [some (.ref 116), some (.int (x1)), some (.long (x2 + (p210_0 M8 x1 (((iV M 118 x5.toNatClampNeg) * (256 : Int32)) + (iV M 118 (x5 + (1 : Int32)).toNatClampNeg)) x4))), none, some (.int (x4)), some (.int (x5)), some (.int (((iV M 118 x5.toNatClampNeg) * (256 : Int32)) + (iV M 118 (x5 + (1 : Int32)).toNatClampNeg)))], [.ref 116])) rfl ⟨trivial, (Nat.le_of_ble_eq_true rfl), trivial, trivial⟩ ?_
            refine sm_w.cI t221 sr221 122 (i := 209) (as := [.ref 116]) (g := (210, [some (.ref 116), some (.int (x1)), some (.long (x2 + (p210_0 M8 x1 (((iV M 118 x5.toNatClampNeg) * (256 : Int32)) + (iV M 118 (x5 + (1 : Int32)).toNatClampNeg)) x4))), none, some (.int (x4)), some (.int (x5)), some (.int (((iV M 118 x5.toNatClampNeg) * (256 : Int32)) + (iV M 118 (x5 + (1 : Int32)).toNatClampNeg)))], [])) rfl ⟨by decide, by decide, (Nat.le_of_ble_eq_true rfl), (sm_K.g (k_116 hS10) (sm_sh.rf _)).1, (sm_K.g (k_116 hS10) (sm_sh.rf _)).2, (Nat.le_of_ble_eq_true rfl)⟩ (Nat.le_of_ble_eq_true rfl) (by decide) (p209_c hS10) (fun vz M2 hz => ?_)
            obtain ⟨hz1, hz2⟩ := hz
            subst hz1
            have hz2 := hz2.symm
            subst hz2
            refine sm_w.run t221 sr221 123 5 (M2 := M8) (f2 := (110, [some (.ref 116), some (.int (((iV M 118 x5.toNatClampNeg) * (256 : Int32)) + (iV M 118 (x5 + (1 : Int32)).toNatClampNeg))), some (.long (x2 + (p210_0 M8 x1 (((iV M 118 x5.toNatClampNeg) * (256 : Int32)) + (iV M 118 (x5 + (1 : Int32)).toNatClampNeg)) x4))), none, some (.int (p209_0 M8)), some (.int (x5 + (2 : Int32))), some (.int (((iV M 118 x5.toNatClampNeg) * (256 : Int32)) + (iV M 118 (x5 + (1 : Int32)).toNatClampNeg)))], [])) rfl ⟨(Nat.le_of_ble_eq_true rfl), trivial, (Nat.le_of_ble_eq_true rfl), (Nat.le_of_ble_eq_true rfl), trivial, trivial⟩ ?_
            refine sm_w.weak (ls := [some (.ref 116), some (.int (((iV M 118 x5.toNatClampNeg) * (256 : Int32)) + (iV M 118 (x5 + (1 : Int32)).toNatClampNeg))), some (.long (x2 + (p210_0 M8 x1 (((iV M 118 x5.toNatClampNeg) * (256 : Int32)) + (iV M 118 (x5 + (1 : Int32)).toNatClampNeg)) x4))), none, some (.int (p209_0 M8)), some (.int (x5 + (2 : Int32))), none]) (sm_leI [true, true, true, false, true, true, false] rfl) ?_
            exact h
          · have h := h.2 hc
            refine sm_w.run t221 sr221 111 1 (M2 := M8) (f2 := (196, [some (.ref 116), some (.int (x1)), some (.long (x2)), none, some (.int (x4)), some (.int (x5)), some (.int (((iV M 118 x5.toNatClampNeg) * (256 : Int32)) + (iV M 118 (x5 + (1 : Int32)).toNatClampNeg)))], [.long ((-1 : Int64))])) rfl ⟨trivial, trivial⟩ ?_
            exact sm_w.end t221 sr221 112 (o := .returned (some (.long ((-1 : Int64))))) (M2 := M8) rfl trivial (by decide) (⟨_, rfl, h⟩)
