/-! METHODS by their segments. -/
-- 206 LineSetterModel.weigh(IZ)Z
theorem t206 : sP 206 = (10, sp_206, sh_206) := rfl
theorem sr206 : sm_srt sp_206 = true := by decide +kernel
theorem g206_0 {M : sm_M} {x1 : Int32} {x2 : Int32} {K : Int32 → sm_M → Prop} (hS : SH M)  (h : sm_w 206 (2, [some (.ref 116), some (.int (x1)), some (.int (x2)), some (.int ((0 : Int32))), none, none, none, none, none, none], []) M (rI K)) : sm_w 206 (sm_in sP 206 [.ref 116, .int (x1), .int (x2)]) M (rI K) := by
  show sm_w 206 (0, [some (.ref 116), some (.int (x1)), some (.int (x2)), none, none, none, none, none, none, none], []) M (rI K)
  refine sm_w.run t206 sr206 0 2 (M2 := M) (f2 := (2, [some (.ref 116), some (.int (x1)), some (.int (x2)), some (.int ((0 : Int32))), none, none, none, none, none, none], [])) rfl ⟨trivial, (Nat.le_of_ble_eq_true rfl), trivial⟩ ?_
  exact h
theorem g206_1 {M : sm_M} {x1 : Int32} {x2 : Int32} {x3 : Int32} {K : Int32 → sm_M → Prop} (hS : SH M)  (h : ((((4 : Int32) * ((iV M 116 63) + (1 : Int32))) ≤ x3 → (vp_in (1 : Int32) 2408) ∧ ∀ M2, SH M2 → M2 = sm_wI M 160 (1 : Int32).toNatClampNeg ((1 : Int32) &&& 1) → (vp_in (1 : Int32) 2408) ∧ ∀ M5, SH M5 → M5 = sm_wJ M2 158 (1 : Int32).toNatClampNeg (0 : Int64) → (vp_in (1 : Int32) 2408) ∧ ∀ M8, SH M8 → M8 = sm_wI M5 159 (1 : Int32).toNatClampNeg (-1 : Int32) → sm_w 206 (50, [some (.ref 116), some (.int (x1)), some (.int (x2)), some (.int ((1 : Int32))), none, none, none, none, none, none], []) M8 (rI K)) ∧ (¬ ((4 : Int32) * ((iV M 116 63) + (1 : Int32))) ≤ x3 → (vp_in x3 2408) ∧ ∀ M11, SH M11 → M11 = sm_wI M 160 x3.toNatClampNeg ((0 : Int32) &&& 1) → sm_w 206 (2, [some (.ref 116), some (.int (x1)), some (.int (x2)), some (.int (x3 + (1 : Int32))), none, none, none, none, none, none], []) M11 (rI K)))) : sm_w 206 (2, [some (.ref 116), some (.int (x1)), some (.int (x2)), some (.int (x3)), none, none, none, none, none, none], []) M (rI K) := by
  refine sm_w.run t206 sr206 2 8 (M2 := M) (f2 := (if ((4 : Int32) * ((iV M 116 63) + (1 : Int32))) ≤ x3 then 27 else 14, [some (.ref 116), some (.int (x1)), some (.int (x2)), some (.int (x3)), none, none, none, none, none, none], [])) rfl ⟨trivial, trivial, trivial, sm_K.g (k_116 hS) (sm_sh.rf _), trivial, trivial, trivial, trivial, trivial⟩ ?_
  refine sm_w.ite (fun hc => ?_) (fun hc => ?_)
  · have h := h.1 hc
    refine sm_w.run t206 sr206 17 2 (M2 := M) (f2 := (31, [some (.ref 116), some (.int (x1)), some (.int (x2)), some (.int (x3)), none, none, none, none, none, none], [va_rf (sm_rv M 116 88)])) rfl ⟨trivial, sm_K.g (k_116 hS) (sm_sh.rf _), trivial⟩ ?_
    refine sm_w.fld (r_116_88 hS) ?_
    obtain ⟨c1, h⟩ := h
    refine sm_w.run t206 sr206 19 3 (M2 := sm_wI M 160 (1 : Int32).toNatClampNeg ((1 : Int32) &&& 1)) (f2 := (34, [some (.ref 116), some (.int (x1)), some (.int (x2)), some (.int (x3)), none, none, none, none, none, none], [])) rfl ⟨trivial, trivial, sm_K.s2 (k_160 hS) (l_160 hS) c1, trivial⟩ ?_
    have hS3 : SH (sm_wI M 160 (1 : Int32).toNatClampNeg ((1 : Int32) &&& 1)) := SH.wI hS _ _ _
    have h := h _ hS3 rfl
    generalize sm_wI M 160 (1 : Int32).toNatClampNeg ((1 : Int32) &&& 1) = M2 at h hS3 ⊢
    refine sm_w.run t206 sr206 22 2 (M2 := M2) (f2 := (38, [some (.ref 116), some (.int (x1)), some (.int (x2)), some (.int (x3)), none, none, none, none, none, none], [va_rf (sm_rv M2 116 86)])) rfl ⟨trivial, sm_K.g (k_116 hS3) (sm_sh.rf _), trivial⟩ ?_
    refine sm_w.fld (r_116_86 hS3) ?_
    obtain ⟨c4, h⟩ := h
    refine sm_w.run t206 sr206 24 3 (M2 := sm_wJ M2 158 (1 : Int32).toNatClampNeg (0 : Int64)) (f2 := (41, [some (.ref 116), some (.int (x1)), some (.int (x2)), some (.int (x3)), none, none, none, none, none, none], [])) rfl ⟨trivial, trivial, sm_K.s2 (k_158 hS3) (l_158 hS3) c4, trivial⟩ ?_
    have hS6 : SH (sm_wJ M2 158 (1 : Int32).toNatClampNeg (0 : Int64)) := SH.wJ hS3 _ _ _
    have h := h _ hS6 rfl
    generalize sm_wJ M2 158 (1 : Int32).toNatClampNeg (0 : Int64) = M5 at h hS6 ⊢
    refine sm_w.run t206 sr206 27 2 (M2 := M5) (f2 := (45, [some (.ref 116), some (.int (x1)), some (.int (x2)), some (.int (x3)), none, none, none, none, none, none], [va_rf (sm_rv M5 116 87)])) rfl ⟨trivial, sm_K.g (k_116 hS6) (sm_sh.rf _), trivial⟩ ?_
    refine sm_w.fld (r_116_87 hS6) ?_
    obtain ⟨c7, h⟩ := h
    refine sm_w.run t206 sr206 29 3 (M2 := sm_wI M5 159 (1 : Int32).toNatClampNeg (-1 : Int32)) (f2 := (48, [some (.ref 116), some (.int (x1)), some (.int (x2)), some (.int (x3)), none, none, none, none, none, none], [])) rfl ⟨trivial, trivial, sm_K.s2 (k_159 hS6) (l_159 hS6) c7, trivial⟩ ?_
    have hS9 : SH (sm_wI M5 159 (1 : Int32).toNatClampNeg (-1 : Int32)) := SH.wI hS6 _ _ _
    have h := h _ hS9 rfl
    generalize sm_wI M5 159 (1 : Int32).toNatClampNeg (-1 : Int32) = M8 at h hS9 ⊢
    refine sm_w.run t206 sr206 32 2 (M2 := M8) (f2 := (50, [some (.ref 116), some (.int (x1)), some (.int (x2)), some (.int ((1 : Int32))), none, none, none, none, none, none], [])) rfl ⟨trivial, (Nat.le_of_ble_eq_true rfl), trivial⟩ ?_
    exact h
  · have h := h.2 hc
    refine sm_w.run t206 sr206 10 2 (M2 := M) (f2 := (18, [some (.ref 116), some (.int (x1)), some (.int (x2)), some (.int (x3)), none, none, none, none, none, none], [va_rf (sm_rv M 116 88)])) rfl ⟨trivial, sm_K.g (k_116 hS) (sm_sh.rf _), trivial⟩ ?_
    refine sm_w.fld (r_116_88 hS) ?_
    obtain ⟨c10, h⟩ := h
    refine sm_w.run t206 sr206 12 3 (M2 := sm_wI M 160 x3.toNatClampNeg ((0 : Int32) &&& 1)) (f2 := (21, [some (.ref 116), some (.int (x1)), some (.int (x2)), some (.int (x3)), none, none, none, none, none, none], [])) rfl ⟨trivial, trivial, sm_K.s2 (k_160 hS) (l_160 hS) c10, trivial⟩ ?_
    have hS12 : SH (sm_wI M 160 x3.toNatClampNeg ((0 : Int32) &&& 1)) := SH.wI hS _ _ _
    have h := h _ hS12 rfl
    generalize sm_wI M 160 x3.toNatClampNeg ((0 : Int32) &&& 1) = M11 at h hS12 ⊢
    refine sm_w.run t206 sr206 15 2 (M2 := M11) (f2 := (2, [some (.ref 116), some (.int (x1)), some (.int (x2)), some (.int (x3 + (1 : Int32))), none, none, none, none, none, none], [])) rfl ⟨(Nat.le_of_ble_eq_true rfl), trivial, trivial⟩ ?_
    exact h
theorem g206_2 {M : sm_M} {x1 : Int32} {x2 : Int32} {x3 : Int32} {K : Int32 → sm_M → Prop} (hS : SH M)  (h : (((iV M 116 63) < x3 → sm_w 206 (314, [some (.ref 116), none, none, some (.int ((0 : Int32))), none, none, none, none, none, none], []) M (rI K)) ∧ (¬ (iV M 116 63) < x3 → sm_w 206 (61, [some (.ref 116), some (.int (x1)), some (.int (x2)), some (.int (x3)), some (.int ((0 : Int32))), none, none, none, none, none], []) M (rI K)))) : sm_w 206 (50, [some (.ref 116), some (.int (x1)), some (.int (x2)), some (.int (x3)), none, none, none, none, none, none], []) M (rI K) := by
  refine sm_w.run t206 sr206 34 4 (M2 := M) (f2 := (if (iV M 116 63) < x3 then 312 else 58, [some (.ref 116), some (.int (x1)), some (.int (x2)), some (.int (x3)), none, none, none, none, none, none], [])) rfl ⟨trivial, trivial, sm_K.g (k_116 hS) (sm_sh.rf _), trivial, trivial⟩ ?_
  refine sm_w.ite (fun hc => ?_) (fun hc => ?_)
  · have h := h.1 hc
    refine sm_w.run t206 sr206 176 2 (M2 := M) (f2 := (314, [some (.ref 116), some (.int (x1)), some (.int (x2)), some (.int ((0 : Int32))), none, none, none, none, none, none], [])) rfl ⟨trivial, (Nat.le_of_ble_eq_true rfl), trivial⟩ ?_
    refine sm_w.weak (ls := [some (.ref 116), none, none, some (.int ((0 : Int32))), none, none, none, none, none, none]) (sm_leI [true, false, false, true, false, false, false, false, false, false] rfl) ?_
    exact h
  · have h := h.2 hc
    refine sm_w.run t206 sr206 38 2 (M2 := M) (f2 := (61, [some (.ref 116), some (.int (x1)), some (.int (x2)), some (.int (x3)), some (.int ((0 : Int32))), none, none, none, none, none], [])) rfl ⟨trivial, (Nat.le_of_ble_eq_true rfl), trivial⟩ ?_
    exact h
theorem g206_3 {M : sm_M} {x1 : Int32} {x2 : Int32} {x3 : Int32} {x4 : Int32} {K : Int32 → sm_M → Prop} (hS : SH M)  (h : ((x3 ≤ x4 → sm_w 206 (50, [some (.ref 116), some (.int (x1)), some (.int (x2)), some (.int (x3 + (1 : Int32))), none, none, none, none, none, none], []) M (rI K)) ∧ (¬ x3 ≤ x4 → (vp_in ((4 : Int32) * x4) 2408) ∧ (((iV M 160 ((4 : Int32) * x4).toNatClampNeg) = 0 → (vp_in (((4 : Int32) * x4) + (1 : Int32)) 2408) ∧ (((iV M 160 (((4 : Int32) * x4) + (1 : Int32)).toNatClampNeg) = 0 → (vp_in (((4 : Int32) * x4) + (2 : Int32)) 2408) ∧ (((iV M 160 (((4 : Int32) * x4) + (2 : Int32)).toNatClampNeg) = 0 → (vp_in (((4 : Int32) * x4) + (3 : Int32)) 2408) ∧ (((iV M 160 (((4 : Int32) * x4) + (3 : Int32)).toNatClampNeg) = 0 → sm_w 206 (61, [some (.ref 116), some (.int (x1)), some (.int (x2)), some (.int (x3)), some (.int (x4 + (1 : Int32))), none, none, none, none, none], []) M (rI K)) ∧ (¬ (iV M 160 (((4 : Int32) * x4) + (3 : Int32)).toNatClampNeg) = 0 → sm_w 206 (124, [some (.ref 116), some (.int (x1)), some (.int (x2)), some (.int (x3)), some (.int (x4)), none, none, none, none, none], []) M (rI K)))) ∧ (¬ (iV M 160 (((4 : Int32) * x4) + (2 : Int32)).toNatClampNeg) = 0 → sm_w 206 (124, [some (.ref 116), some (.int (x1)), some (.int (x2)), some (.int (x3)), some (.int (x4)), none, none, none, none, none], []) M (rI K)))) ∧ (¬ (iV M 160 (((4 : Int32) * x4) + (1 : Int32)).toNatClampNeg) = 0 → sm_w 206 (124, [some (.ref 116), some (.int (x1)), some (.int (x2)), some (.int (x3)), some (.int (x4)), none, none, none, none, none], []) M (rI K)))) ∧ (¬ (iV M 160 ((4 : Int32) * x4).toNatClampNeg) = 0 → sm_w 206 (124, [some (.ref 116), some (.int (x1)), some (.int (x2)), some (.int (x3)), some (.int (x4)), none, none, none, none, none], []) M (rI K)))))) : sm_w 206 (61, [some (.ref 116), some (.int (x1)), some (.int (x2)), some (.int (x3)), some (.int (x4)), none, none, none, none, none], []) M (rI K) := by
  refine sm_w.run t206 sr206 40 3 (M2 := M) (f2 := (if x3 ≤ x4 then 306 else 67, [some (.ref 116), some (.int (x1)), some (.int (x2)), some (.int (x3)), some (.int (x4)), none, none, none, none, none], [])) rfl ⟨trivial, trivial, trivial, trivial⟩ ?_
  refine sm_w.ite (fun hc => ?_) (fun hc => ?_)
  · have h := h.1 hc
    refine sm_w.run t206 sr206 174 2 (M2 := M) (f2 := (50, [some (.ref 116), some (.int (x1)), some (.int (x2)), some (.int (x3 + (1 : Int32))), some (.int (x4)), none, none, none, none, none], [])) rfl ⟨(Nat.le_of_ble_eq_true rfl), trivial, trivial⟩ ?_
    refine sm_w.weak (ls := [some (.ref 116), some (.int (x1)), some (.int (x2)), some (.int (x3 + (1 : Int32))), none, none, none, none, none, none]) (sm_leI [true, true, true, true, false, false, false, false, false, false] rfl) ?_
    exact h
  · have h := h.2 hc
    refine sm_w.run t206 sr206 43 2 (M2 := M) (f2 := (71, [some (.ref 116), some (.int (x1)), some (.int (x2)), some (.int (x3)), some (.int (x4)), none, none, none, none, none], [va_rf (sm_rv M 116 88)])) rfl ⟨trivial, sm_K.g (k_116 hS) (sm_sh.rf _), trivial⟩ ?_
    refine sm_w.fld (r_116_88 hS) ?_
    obtain ⟨c1, h⟩ := h
    refine sm_w.run t206 sr206 45 5 (M2 := M) (f2 := (if (iV M 160 ((4 : Int32) * x4).toNatClampNeg) = 0 then 79 else 124, [some (.ref 116), some (.int (x1)), some (.int (x2)), some (.int (x3)), some (.int (x4)), none, none, none, none, none], [])) rfl ⟨trivial, trivial, trivial, sm_K.a2 (k_160 hS) (l_160 hS) c1, trivial, trivial⟩ ?_
    refine sm_w.ite (fun hc => ?_) (fun hc => ?_)
    · have h := h.1 hc
      refine sm_w.run t206 sr206 50 2 (M2 := M) (f2 := (83, [some (.ref 116), some (.int (x1)), some (.int (x2)), some (.int (x3)), some (.int (x4)), none, none, none, none, none], [va_rf (sm_rv M 116 88)])) rfl ⟨trivial, sm_K.g (k_116 hS) (sm_sh.rf _), trivial⟩ ?_
      refine sm_w.fld (r_116_88 hS) ?_
      obtain ⟨c2, h⟩ := h
      refine sm_w.run t206 sr206 52 7 (M2 := M) (f2 := (if (iV M 160 (((4 : Int32) * x4) + (1 : Int32)).toNatClampNeg) = 0 then 93 else 124, [some (.ref 116), some (.int (x1)), some (.int (x2)), some (.int (x3)), some (.int (x4)), none, none, none, none, none], [])) rfl ⟨trivial, trivial, trivial, trivial, trivial, sm_K.a2 (k_160 hS) (l_160 hS) c2, trivial, trivial⟩ ?_
      refine sm_w.ite (fun hc => ?_) (fun hc => ?_)
      · have h := h.1 hc
        refine sm_w.run t206 sr206 59 2 (M2 := M) (f2 := (97, [some (.ref 116), some (.int (x1)), some (.int (x2)), some (.int (x3)), some (.int (x4)), none, none, none, none, none], [va_rf (sm_rv M 116 88)])) rfl ⟨trivial, sm_K.g (k_116 hS) (sm_sh.rf _), trivial⟩ ?_
        refine sm_w.fld (r_116_88 hS) ?_
        obtain ⟨c3, h⟩ := h
        refine sm_w.run t206 sr206 61 7 (M2 := M) (f2 := (if (iV M 160 (((4 : Int32) * x4) + (2 : Int32)).toNatClampNeg) = 0 then 107 else 124, [some (.ref 116), some (.int (x1)), some (.int (x2)), some (.int (x3)), some (.int (x4)), none, none, none, none, none], [])) rfl ⟨trivial, trivial, trivial, trivial, trivial, sm_K.a2 (k_160 hS) (l_160 hS) c3, trivial, trivial⟩ ?_
        refine sm_w.ite (fun hc => ?_) (fun hc => ?_)
        · have h := h.1 hc
          refine sm_w.run t206 sr206 68 2 (M2 := M) (f2 := (111, [some (.ref 116), some (.int (x1)), some (.int (x2)), some (.int (x3)), some (.int (x4)), none, none, none, none, none], [va_rf (sm_rv M 116 88)])) rfl ⟨trivial, sm_K.g (k_116 hS) (sm_sh.rf _), trivial⟩ ?_
          refine sm_w.fld (r_116_88 hS) ?_
          obtain ⟨c4, h⟩ := h
          refine sm_w.run t206 sr206 70 7 (M2 := M) (f2 := (if (iV M 160 (((4 : Int32) * x4) + (3 : Int32)).toNatClampNeg) = 0 then 121 else 124, [some (.ref 116), some (.int (x1)), some (.int (x2)), some (.int (x3)), some (.int (x4)), none, none, none, none, none], [])) rfl ⟨trivial, trivial, trivial, trivial, trivial, sm_K.a2 (k_160 hS) (l_160 hS) c4, trivial, trivial⟩ ?_
          refine sm_w.ite (fun hc => ?_) (fun hc => ?_)
          · have h := h.1 hc
            refine sm_w.run t206 sr206 77 1 (M2 := M) (f2 := (300, [some (.ref 116), some (.int (x1)), some (.int (x2)), some (.int (x3)), some (.int (x4)), none, none, none, none, none], [])) rfl ⟨trivial, trivial⟩ ?_
            refine sm_w.run t206 sr206 172 2 (M2 := M) (f2 := (61, [some (.ref 116), some (.int (x1)), some (.int (x2)), some (.int (x3)), some (.int (x4 + (1 : Int32))), none, none, none, none, none], [])) rfl ⟨(Nat.le_of_ble_eq_true rfl), trivial, trivial⟩ ?_
            exact h
          · have h := h.2 hc
            exact h
        · have h := h.2 hc
          exact h
      · have h := h.2 hc
        exact h
    · have h := h.2 hc
      exact h
theorem g206_4 {M : sm_M} {x1 : Int32} {x2 : Int32} {x3 : Int32} {x4 : Int32} {K : Int32 → sm_M → Prop} (hS : SH M)  (h : sm_cV 207 [.ref 116, .int (x4), .int (x3)] M (fun M1 => SH M1 → ((x2 = 0 → (((iV M1 116 85) = 0 → (((iV M1 116 84) ≤ x1 → sm_w 206 (166, [some (.ref 116), some (.int (x1)), some (.int (x2)), some (.int (x3)), some (.int (x4)), some (.int (((4 : Int32) * x3) + (p209_0 M1))), some (.int ((0 : Int32))), none, none, none], []) M1 (rI K)) ∧ (¬ (iV M1 116 84) ≤ x1 → sm_w 206 (61, [some (.ref 116), some (.int (x1)), some (.int (x2)), some (.int (x3)), some (.int (x4 + (1 : Int32))), none, none, none, none, none], []) M1 (rI K)))) ∧ (¬ (iV M1 116 85) = 0 → sm_w 206 (61, [some (.ref 116), some (.int (x1)), some (.int (x2)), some (.int (x3)), some (.int (x4 + (1 : Int32))), none, none, none, none, none], []) M1 (rI K)))) ∧ (¬ x2 = 0 → sm_w 206 (166, [some (.ref 116), some (.int (x1)), some (.int (x2)), some (.int (x3)), some (.int (x4)), some (.int (((4 : Int32) * x3) + (p209_0 M1))), some (.int ((0 : Int32))), none, none, none], []) M1 (rI K))))) : sm_w 206 (124, [some (.ref 116), some (.int (x1)), some (.int (x2)), some (.int (x3)), some (.int (x4)), none, none, none, none, none], []) M (rI K) := by
  refine sm_w.run t206 sr206 78 3 (M2 := M) (f2 := (128, [some (.ref 116), some (.int (x1)), some (.int (x2)), some (.int (x3)), some (.int (x4)), none, none, none, none, none], [.int (x3), .int (x4), .ref 116])) rfl ⟨trivial, trivial, trivial, trivial⟩ ?_
  refine sm_w.cV t206 sr206 81 (i := 207) (as := [.ref 116, .int (x4), .int (x3)]) (g := (128, [some (.ref 116), some (.int (x1)), some (.int (x2)), some (.int (x3)), some (.int (x4)), none, none, none, none, none], [])) rfl ⟨by decide, by decide, (Nat.le_of_ble_eq_true rfl), (sm_K.g (k_116 hS) (sm_sh.rf _)).1, (sm_K.g (k_116 hS) (sm_sh.rf _)).2, (Nat.le_of_ble_eq_true rfl)⟩ (Nat.le_of_ble_eq_true rfl) (by decide) (sm_cV.s (by decide) hS h) (fun M1 h => ?_)
  obtain ⟨hS3, h⟩ := h
  refine sm_w.run t206 sr206 82 2 (M2 := M1) (f2 := (if x2 = 0 then 135 else 153, [some (.ref 116), some (.int (x1)), some (.int (x2)), some (.int (x3)), some (.int (x4)), none, none, none, none, none], [])) rfl ⟨trivial, trivial, trivial⟩ ?_
  refine sm_w.ite (fun hc => ?_) (fun hc => ?_)
  · have h := h.1 hc
    refine sm_w.run t206 sr206 84 3 (M2 := M1) (f2 := (if (iV M1 116 85) = 0 then 142 else 300, [some (.ref 116), some (.int (x1)), some (.int (x2)), some (.int (x3)), some (.int (x4)), none, none, none, none, none], [])) rfl ⟨trivial, sm_K.g (k_116 hS3) (sm_sh.rf _), trivial, trivial⟩ ?_
    refine sm_w.ite (fun hc => ?_) (fun hc => ?_)
    · have h := h.1 hc
      refine sm_w.run t206 sr206 87 4 (M2 := M1) (f2 := (if (iV M1 116 84) ≤ x1 then 153 else 150, [some (.ref 116), some (.int (x1)), some (.int (x2)), some (.int (x3)), some (.int (x4)), none, none, none, none, none], [])) rfl ⟨trivial, sm_K.g (k_116 hS3) (sm_sh.rf _), trivial, trivial, trivial⟩ ?_
      refine sm_w.ite (fun hc => ?_) (fun hc => ?_)
      · have h := h.1 hc
        refine sm_w.run t206 sr206 92 4 (M2 := M1) (f2 := (157, [some (.ref 116), some (.int (x1)), some (.int (x2)), some (.int (x3)), some (.int (x4)), none, none, none, none, none], [.ref 116, .int ((4 : Int32) * x3)])) rfl ⟨trivial, trivial, trivial, trivial, trivial⟩ ?_
        refine sm_w.cI t206 sr206 96 (i := 209) (as := [.ref 116]) (g := (157, [some (.ref 116), some (.int (x1)), some (.int (x2)), some (.int (x3)), some (.int (x4)), none, none, none, none, none], [.int ((4 : Int32) * x3)])) rfl ⟨by decide, by decide, (Nat.le_of_ble_eq_true rfl), (sm_K.g (k_116 hS3) (sm_sh.rf _)).1, (sm_K.g (k_116 hS3) (sm_sh.rf _)).2, (Nat.le_of_ble_eq_true rfl)⟩ (Nat.le_of_ble_eq_true rfl) (by decide) (p209_c hS3) (fun vz M2 hz => ?_)
        obtain ⟨hz1, hz2⟩ := hz
        subst hz1
        have hz2 := hz2.symm
        subst hz2
        refine sm_w.run t206 sr206 97 4 (M2 := M1) (f2 := (166, [some (.ref 116), some (.int (x1)), some (.int (x2)), some (.int (x3)), some (.int (x4)), some (.int (((4 : Int32) * x3) + (p209_0 M1))), some (.int ((0 : Int32))), none, none, none], [])) rfl ⟨trivial, (Nat.le_of_ble_eq_true rfl), trivial, (Nat.le_of_ble_eq_true rfl), trivial⟩ ?_
        exact h
      · have h := h.2 hc
        refine sm_w.run t206 sr206 91 1 (M2 := M1) (f2 := (300, [some (.ref 116), some (.int (x1)), some (.int (x2)), some (.int (x3)), some (.int (x4)), none, none, none, none, none], [])) rfl ⟨trivial, trivial⟩ ?_
        refine sm_w.run t206 sr206 172 2 (M2 := M1) (f2 := (61, [some (.ref 116), some (.int (x1)), some (.int (x2)), some (.int (x3)), some (.int (x4 + (1 : Int32))), none, none, none, none, none], [])) rfl ⟨(Nat.le_of_ble_eq_true rfl), trivial, trivial⟩ ?_
        exact h
    · have h := h.2 hc
      refine sm_w.run t206 sr206 172 2 (M2 := M1) (f2 := (61, [some (.ref 116), some (.int (x1)), some (.int (x2)), some (.int (x3)), some (.int (x4 + (1 : Int32))), none, none, none, none, none], [])) rfl ⟨(Nat.le_of_ble_eq_true rfl), trivial, trivial⟩ ?_
      exact h
  · have h := h.2 hc
    refine sm_w.run t206 sr206 92 4 (M2 := M1) (f2 := (157, [some (.ref 116), some (.int (x1)), some (.int (x2)), some (.int (x3)), some (.int (x4)), none, none, none, none, none], [.ref 116, .int ((4 : Int32) * x3)])) rfl ⟨trivial, trivial, trivial, trivial, trivial⟩ ?_
    refine sm_w.cI t206 sr206 96 (i := 209) (as := [.ref 116]) (g := (157, [some (.ref 116), some (.int (x1)), some (.int (x2)), some (.int (x3)), some (.int (x4)), none, none, none, none, none], [.int ((4 : Int32) * x3)])) rfl ⟨by decide, by decide, (Nat.le_of_ble_eq_true rfl), (sm_K.g (k_116 hS3) (sm_sh.rf _)).1, (sm_K.g (k_116 hS3) (sm_sh.rf _)).2, (Nat.le_of_ble_eq_true rfl)⟩ (Nat.le_of_ble_eq_true rfl) (by decide) (p209_c hS3) (fun vz M2 hz => ?_)
    obtain ⟨hz1, hz2⟩ := hz
    subst hz1
    have hz2 := hz2.symm
    subst hz2
    refine sm_w.run t206 sr206 97 4 (M2 := M1) (f2 := (166, [some (.ref 116), some (.int (x1)), some (.int (x2)), some (.int (x3)), some (.int (x4)), some (.int (((4 : Int32) * x3) + (p209_0 M1))), some (.int ((0 : Int32))), none, none, none], [])) rfl ⟨trivial, (Nat.le_of_ble_eq_true rfl), trivial, (Nat.le_of_ble_eq_true rfl), trivial⟩ ?_
    exact h
theorem g206_5 {M : sm_M} {x1 : Int32} {x2 : Int32} {x3 : Int32} {x4 : Int32} {x5 : Int32} {x6 : Int32} {K : Int32 → sm_M → Prop} (hS : SH M)  (h : (((4 : Int32) ≤ x6 → sm_w 206 (61, [some (.ref 116), some (.int (x1)), some (.int (x2)), some (.int (x3)), some (.int (x4 + (1 : Int32))), none, none, none, none, none], []) M (rI K)) ∧ (¬ (4 : Int32) ≤ x6 → (vp_in (((4 : Int32) * x4) + x6) 2408) ∧ (((iV M 160 (((4 : Int32) * x4) + x6).toNatClampNeg) = 0 → sm_w 206 (166, [some (.ref 116), some (.int (x1)), some (.int (x2)), some (.int (x3)), some (.int (x4)), some (.int (x5)), some (.int (x6 + (1 : Int32))), none, none, none], []) M (rI K)) ∧ (¬ (iV M 160 (((4 : Int32) * x4) + x6).toNatClampNeg) = 0 → (vp_in (((4 : Int32) * x4) + x6) 2408) ∧ (q210_0 M x4 x3 x6) ∧ (vp_in x5 2408) ∧ (((iV M 160 x5.toNatClampNeg) = 0 → (vp_in x5 2408) ∧ ∀ M6, SH M6 → M6 = sm_wI M 160 x5.toNatClampNeg ((1 : Int32) &&& 1) → (vp_in x5 2408) ∧ ∀ M9, SH M9 → M9 = sm_wJ M6 158 x5.toNatClampNeg ((jV M 158 (((4 : Int32) * x4) + x6).toNatClampNeg) + (p210_0 M x4 x3 x6)) → (vp_in x5 2408) ∧ ∀ M12, SH M12 → M12 = sm_wI M9 159 x5.toNatClampNeg (((4 : Int32) * x4) + x6) → sm_w 206 (166, [some (.ref 116), some (.int (x1)), some (.int (x2)), some (.int (x3)), some (.int (x4)), some (.int (x5)), some (.int (x6 + (1 : Int32))), none, none, none], []) M12 (rI K)) ∧ (¬ (iV M 160 x5.toNatClampNeg) = 0 → (vp_in x5 2408) ∧ (((jV M 158 x5.toNatClampNeg) < ((jV M 158 (((4 : Int32) * x4) + x6).toNatClampNeg) + (p210_0 M x4 x3 x6)) → sm_w 206 (166, [some (.ref 116), some (.int (x1)), some (.int (x2)), some (.int (x3)), some (.int (x4)), some (.int (x5)), some (.int (x6 + (1 : Int32))), none, none, none], []) M (rI K)) ∧ (¬ (jV M 158 x5.toNatClampNeg) < ((jV M 158 (((4 : Int32) * x4) + x6).toNatClampNeg) + (p210_0 M x4 x3 x6)) → (vp_in x5 2408) ∧ ((((jV M 158 (((4 : Int32) * x4) + x6).toNatClampNeg) + (p210_0 M x4 x3 x6)) = (jV M 158 x5.toNatClampNeg) → (vp_in x5 2408) ∧ sm_cI 212 [.ref 116, .int (((4 : Int32) * x4) + x6), .int (iV M 159 x5.toNatClampNeg)] M (fun v18 M17 => SH M17 → ((v18 = 0 → sm_w 206 (166, [some (.ref 116), some (.int (x1)), some (.int (x2)), some (.int (x3)), some (.int (x4)), some (.int (x5)), some (.int (x6 + (1 : Int32))), none, none, none], []) M17 (rI K)) ∧ (¬ v18 = 0 → (vp_in x5 2408) ∧ ∀ M21, SH M21 → M21 = sm_wI M17 160 x5.toNatClampNeg ((1 : Int32) &&& 1) → (vp_in x5 2408) ∧ ∀ M24, SH M24 → M24 = sm_wJ M21 158 x5.toNatClampNeg ((jV M 158 (((4 : Int32) * x4) + x6).toNatClampNeg) + (p210_0 M x4 x3 x6)) → (vp_in x5 2408) ∧ ∀ M27, SH M27 → M27 = sm_wI M24 159 x5.toNatClampNeg (((4 : Int32) * x4) + x6) → sm_w 206 (166, [some (.ref 116), some (.int (x1)), some (.int (x2)), some (.int (x3)), some (.int (x4)), some (.int (x5)), some (.int (x6 + (1 : Int32))), none, none, none], []) M27 (rI K))))) ∧ (¬ ((jV M 158 (((4 : Int32) * x4) + x6).toNatClampNeg) + (p210_0 M x4 x3 x6)) = (jV M 158 x5.toNatClampNeg) → (vp_in x5 2408) ∧ ∀ M30, SH M30 → M30 = sm_wI M 160 x5.toNatClampNeg ((1 : Int32) &&& 1) → (vp_in x5 2408) ∧ ∀ M33, SH M33 → M33 = sm_wJ M30 158 x5.toNatClampNeg ((jV M 158 (((4 : Int32) * x4) + x6).toNatClampNeg) + (p210_0 M x4 x3 x6)) → (vp_in x5 2408) ∧ ∀ M36, SH M36 → M36 = sm_wI M33 159 x5.toNatClampNeg (((4 : Int32) * x4) + x6) → sm_w 206 (166, [some (.ref 116), some (.int (x1)), some (.int (x2)), some (.int (x3)), some (.int (x4)), some (.int (x5)), some (.int (x6 + (1 : Int32))), none, none, none], []) M36 (rI K)))))))))))) : sm_w 206 (166, [some (.ref 116), some (.int (x1)), some (.int (x2)), some (.int (x3)), some (.int (x4)), some (.int (x5)), some (.int (x6)), none, none, none], []) M (rI K) := by
  refine sm_w.run t206 sr206 101 3 (M2 := M) (f2 := (if (4 : Int32) ≤ x6 then 300 else 172, [some (.ref 116), some (.int (x1)), some (.int (x2)), some (.int (x3)), some (.int (x4)), some (.int (x5)), some (.int (x6)), none, none, none], [])) rfl ⟨trivial, trivial, trivial, trivial⟩ ?_
  refine sm_w.ite (fun hc => ?_) (fun hc => ?_)
  · have h := h.1 hc
    refine sm_w.run t206 sr206 172 2 (M2 := M) (f2 := (61, [some (.ref 116), some (.int (x1)), some (.int (x2)), some (.int (x3)), some (.int (x4 + (1 : Int32))), some (.int (x5)), some (.int (x6)), none, none, none], [])) rfl ⟨(Nat.le_of_ble_eq_true rfl), trivial, trivial⟩ ?_
    refine sm_w.weak (ls := [some (.ref 116), some (.int (x1)), some (.int (x2)), some (.int (x3)), some (.int (x4 + (1 : Int32))), none, none, none, none, none]) (sm_leI [true, true, true, true, true, false, false, false, false, false] rfl) ?_
    exact h
  · have h := h.2 hc
    refine sm_w.run t206 sr206 104 8 (M2 := M) (f2 := (185, [some (.ref 116), some (.int (x1)), some (.int (x2)), some (.int (x3)), some (.int (x4)), some (.int (x5)), some (.int (x6)), some (.int (((4 : Int32) * x4) + x6)), none, none], [va_rf (sm_rv M 116 88)])) rfl ⟨trivial, trivial, trivial, trivial, trivial, (Nat.le_of_ble_eq_true rfl), trivial, sm_K.g (k_116 hS) (sm_sh.rf _), trivial⟩ ?_
    refine sm_w.fld (r_116_88 hS) ?_
    obtain ⟨c1, h⟩ := h
    refine sm_w.run t206 sr206 112 3 (M2 := M) (f2 := (if (iV M 160 (((4 : Int32) * x4) + x6).toNatClampNeg) = 0 then 191 else 194, [some (.ref 116), some (.int (x1)), some (.int (x2)), some (.int (x3)), some (.int (x4)), some (.int (x5)), some (.int (x6)), some (.int (((4 : Int32) * x4) + x6)), none, none], [])) rfl ⟨trivial, sm_K.a2 (k_160 hS) (l_160 hS) c1, trivial, trivial⟩ ?_
    refine sm_w.ite (fun hc => ?_) (fun hc => ?_)
    · have h := h.1 hc
      refine sm_w.run t206 sr206 115 1 (M2 := M) (f2 := (294, [some (.ref 116), some (.int (x1)), some (.int (x2)), some (.int (x3)), some (.int (x4)), some (.int (x5)), some (.int (x6)), some (.int (((4 : Int32) * x4) + x6)), none, none], [])) rfl ⟨trivial, trivial⟩ ?_
      refine sm_w.run t206 sr206 170 2 (M2 := M) (f2 := (166, [some (.ref 116), some (.int (x1)), some (.int (x2)), some (.int (x3)), some (.int (x4)), some (.int (x5)), some (.int (x6 + (1 : Int32))), some (.int (((4 : Int32) * x4) + x6)), none, none], [])) rfl ⟨(Nat.le_of_ble_eq_true rfl), trivial, trivial⟩ ?_
      refine sm_w.weak (ls := [some (.ref 116), some (.int (x1)), some (.int (x2)), some (.int (x3)), some (.int (x4)), some (.int (x5)), some (.int (x6 + (1 : Int32))), none, none, none]) (sm_leI [true, true, true, true, true, true, true, false, false, false] rfl) ?_
      exact h
    · have h := h.2 hc
      refine sm_w.run t206 sr206 116 2 (M2 := M) (f2 := (198, [some (.ref 116), some (.int (x1)), some (.int (x2)), some (.int (x3)), some (.int (x4)), some (.int (x5)), some (.int (x6)), some (.int (((4 : Int32) * x4) + x6)), none, none], [va_rf (sm_rv M 116 86)])) rfl ⟨trivial, sm_K.g (k_116 hS) (sm_sh.rf _), trivial⟩ ?_
      refine sm_w.fld (r_116_86 hS) ?_
      obtain ⟨c2, c3, h⟩ := h
      refine sm_w.run t206 sr206 118 6 (M2 := M) (f2 := (207, [some (.ref 116), some (.int (x1)), some (.int (x2)), some (.int (x3)), some (.int (x4)), some (.int (x5)), some (.int (x6)), some (.int (((4 : Int32) * x4) + x6)), none, none], [.int (x6), .int (x3), .int (x4), .ref 116, .long (jV M 158 (((4 : Int32) * x4) + x6).toNatClampNeg)])) rfl ⟨trivial, sm_K.a2 (k_158 hS) (l_158 hS) c2, trivial, trivial, trivial, trivial, trivial⟩ ?_
      refine sm_w.cJ t206 sr206 124 (i := 210) (as := [.ref 116, .int (x4), .int (x3), .int (x6)]) (g := (207, [some (.ref 116), some (.int (x1)), some (.int (x2)), some (.int (x3)), some (.int (x4)), some (.int (x5)), some (.int (x6)), some (.int (((4 : Int32) * x4) + x6)), none, none], [.long (jV M 158 (((4 : Int32) * x4) + x6).toNatClampNeg)])) rfl ⟨by decide, by decide, (Nat.le_of_ble_eq_true rfl), (sm_K.g (k_116 hS) (sm_sh.rf _)).1, (sm_K.g (k_116 hS) (sm_sh.rf _)).2, (Nat.le_of_ble_eq_true rfl)⟩ (Nat.le_of_ble_eq_true rfl) (by decide) (p210_c hS c3) (fun vz M2 hz => ?_)
      obtain ⟨hz1, hz2⟩ := hz
      subst hz1
      have hz2 := hz2.symm
      subst hz2
      refine sm_w.run t206 sr206 125 4 (M2 := M) (f2 := (217, [some (.ref 116), some (.int (x1)), some (.int (x2)), some (.int (x3)), some (.int (x4)), some (.int (x5)), some (.int (x6)), some (.int (((4 : Int32) * x4) + x6)), some (.long ((jV M 158 (((4 : Int32) * x4) + x6).toNatClampNeg) + (p210_0 M x4 x3 x6))), none], [va_rf (sm_rv M 116 88)])) rfl ⟨trivial, (Nat.le_of_ble_eq_true rfl), trivial, sm_K.g (k_116 hS) (sm_sh.rf _), trivial⟩ ?_
      refine sm_w.fld (r_116_88 hS) ?_
      obtain ⟨c4, h⟩ := h
      refine sm_w.run t206 sr206 129 3 (M2 := M) (f2 := (if (iV M 160 x5.toNatClampNeg) = 0 then 268 else 223, [some (.ref 116), some (.int (x1)), some (.int (x2)), some (.int (x3)), some (.int (x4)), some (.int (x5)), some (.int (x6)), some (.int (((4 : Int32) * x4) + x6)), some (.long ((jV M 158 (((4 : Int32) * x4) + x6).toNatClampNeg) + (p210_0 M x4 x3 x6))), none], [])) rfl ⟨trivial, sm_K.a2 (k_160 hS) (l_160 hS) c4, trivial, trivial⟩ ?_
      refine sm_w.ite (fun hc => ?_) (fun hc => ?_)
      · have h := h.1 hc
        refine sm_w.run t206 sr206 155 2 (M2 := M) (f2 := (272, [some (.ref 116), some (.int (x1)), some (.int (x2)), some (.int (x3)), some (.int (x4)), some (.int (x5)), some (.int (x6)), some (.int (((4 : Int32) * x4) + x6)), some (.long ((jV M 158 (((4 : Int32) * x4) + x6).toNatClampNeg) + (p210_0 M x4 x3 x6))), none], [va_rf (sm_rv M 116 88)])) rfl ⟨trivial, sm_K.g (k_116 hS) (sm_sh.rf _), trivial⟩ ?_
        refine sm_w.fld (r_116_88 hS) ?_
        obtain ⟨c5, h⟩ := h
        refine sm_w.run t206 sr206 157 3 (M2 := sm_wI M 160 x5.toNatClampNeg ((1 : Int32) &&& 1)) (f2 := (276, [some (.ref 116), some (.int (x1)), some (.int (x2)), some (.int (x3)), some (.int (x4)), some (.int (x5)), some (.int (x6)), some (.int (((4 : Int32) * x4) + x6)), some (.long ((jV M 158 (((4 : Int32) * x4) + x6).toNatClampNeg) + (p210_0 M x4 x3 x6))), none], [])) rfl ⟨trivial, trivial, sm_K.s2 (k_160 hS) (l_160 hS) c5, trivial⟩ ?_
        have hS7 : SH (sm_wI M 160 x5.toNatClampNeg ((1 : Int32) &&& 1)) := SH.wI hS _ _ _
        have h := h _ hS7 rfl
        generalize sm_wI M 160 x5.toNatClampNeg ((1 : Int32) &&& 1) = M6 at h hS7 ⊢
        refine sm_w.run t206 sr206 160 2 (M2 := M6) (f2 := (280, [some (.ref 116), some (.int (x1)), some (.int (x2)), some (.int (x3)), some (.int (x4)), some (.int (x5)), some (.int (x6)), some (.int (((4 : Int32) * x4) + x6)), some (.long ((jV M 158 (((4 : Int32) * x4) + x6).toNatClampNeg) + (p210_0 M x4 x3 x6))), none], [va_rf (sm_rv M6 116 86)])) rfl ⟨trivial, sm_K.g (k_116 hS7) (sm_sh.rf _), trivial⟩ ?_
        refine sm_w.fld (r_116_86 hS7) ?_
        obtain ⟨c8, h⟩ := h
        refine sm_w.run t206 sr206 162 3 (M2 := sm_wJ M6 158 x5.toNatClampNeg ((jV M 158 (((4 : Int32) * x4) + x6).toNatClampNeg) + (p210_0 M x4 x3 x6))) (f2 := (285, [some (.ref 116), some (.int (x1)), some (.int (x2)), some (.int (x3)), some (.int (x4)), some (.int (x5)), some (.int (x6)), some (.int (((4 : Int32) * x4) + x6)), some (.long ((jV M 158 (((4 : Int32) * x4) + x6).toNatClampNeg) + (p210_0 M x4 x3 x6))), none], [])) rfl ⟨trivial, trivial, sm_K.s2 (k_158 hS7) (l_158 hS7) c8, trivial⟩ ?_
        have hS10 : SH (sm_wJ M6 158 x5.toNatClampNeg ((jV M 158 (((4 : Int32) * x4) + x6).toNatClampNeg) + (p210_0 M x4 x3 x6))) := SH.wJ hS7 _ _ _
        have h := h _ hS10 rfl
        generalize sm_wJ M6 158 x5.toNatClampNeg ((jV M 158 (((4 : Int32) * x4) + x6).toNatClampNeg) + (p210_0 M x4 x3 x6)) = M9 at h hS10 ⊢
        refine sm_w.run t206 sr206 165 2 (M2 := M9) (f2 := (289, [some (.ref 116), some (.int (x1)), some (.int (x2)), some (.int (x3)), some (.int (x4)), some (.int (x5)), some (.int (x6)), some (.int (((4 : Int32) * x4) + x6)), some (.long ((jV M 158 (((4 : Int32) * x4) + x6).toNatClampNeg) + (p210_0 M x4 x3 x6))), none], [va_rf (sm_rv M9 116 87)])) rfl ⟨trivial, sm_K.g (k_116 hS10) (sm_sh.rf _), trivial⟩ ?_
        refine sm_w.fld (r_116_87 hS10) ?_
        obtain ⟨c11, h⟩ := h
        refine sm_w.run t206 sr206 167 3 (M2 := sm_wI M9 159 x5.toNatClampNeg (((4 : Int32) * x4) + x6)) (f2 := (294, [some (.ref 116), some (.int (x1)), some (.int (x2)), some (.int (x3)), some (.int (x4)), some (.int (x5)), some (.int (x6)), some (.int (((4 : Int32) * x4) + x6)), some (.long ((jV M 158 (((4 : Int32) * x4) + x6).toNatClampNeg) + (p210_0 M x4 x3 x6))), none], [])) rfl ⟨trivial, trivial, sm_K.s2 (k_159 hS10) (l_159 hS10) c11, trivial⟩ ?_
        have hS13 : SH (sm_wI M9 159 x5.toNatClampNeg (((4 : Int32) * x4) + x6)) := SH.wI hS10 _ _ _
        have h := h _ hS13 rfl
        generalize sm_wI M9 159 x5.toNatClampNeg (((4 : Int32) * x4) + x6) = M12 at h hS13 ⊢
        refine sm_w.run t206 sr206 170 2 (M2 := M12) (f2 := (166, [some (.ref 116), some (.int (x1)), some (.int (x2)), some (.int (x3)), some (.int (x4)), some (.int (x5)), some (.int (x6 + (1 : Int32))), some (.int (((4 : Int32) * x4) + x6)), some (.long ((jV M 158 (((4 : Int32) * x4) + x6).toNatClampNeg) + (p210_0 M x4 x3 x6))), none], [])) rfl ⟨(Nat.le_of_ble_eq_true rfl), trivial, trivial⟩ ?_
        refine sm_w.weak (ls := [some (.ref 116), some (.int (x1)), some (.int (x2)), some (.int (x3)), some (.int (x4)), some (.int (x5)), some (.int (x6 + (1 : Int32))), none, none, none]) (sm_leI [true, true, true, true, true, true, true, false, false, false] rfl) ?_
        exact h
      · have h := h.2 hc
        refine sm_w.run t206 sr206 132 3 (M2 := M) (f2 := (229, [some (.ref 116), some (.int (x1)), some (.int (x2)), some (.int (x3)), some (.int (x4)), some (.int (x5)), some (.int (x6)), some (.int (((4 : Int32) * x4) + x6)), some (.long ((jV M 158 (((4 : Int32) * x4) + x6).toNatClampNeg) + (p210_0 M x4 x3 x6))), none], [va_rf (sm_rv M 116 86), .long ((jV M 158 (((4 : Int32) * x4) + x6).toNatClampNeg) + (p210_0 M x4 x3 x6))])) rfl ⟨trivial, trivial, sm_K.g (k_116 hS) (sm_sh.rf _), trivial⟩ ?_
        refine sm_w.fld (r_116_86 hS) ?_
        obtain ⟨c14, h⟩ := h
        refine sm_w.run t206 sr206 135 4 (M2 := M) (f2 := (if 0 < (lg_cmp ((jV M 158 (((4 : Int32) * x4) + x6).toNatClampNeg) + (p210_0 M x4 x3 x6)) (jV M 158 x5.toNatClampNeg)) then 294 else 236, [some (.ref 116), some (.int (x1)), some (.int (x2)), some (.int (x3)), some (.int (x4)), some (.int (x5)), some (.int (x6)), some (.int (((4 : Int32) * x4) + x6)), some (.long ((jV M 158 (((4 : Int32) * x4) + x6).toNatClampNeg) + (p210_0 M x4 x3 x6))), none], [])) rfl ⟨trivial, sm_K.a2 (k_158 hS) (l_158 hS) c14, trivial, trivial, trivial⟩ ?_
        refine sm_w.ite (fun hc => ?_) (fun hc => ?_)
        · have h := h.1 (lc_g.mp hc)
          refine sm_w.run t206 sr206 170 2 (M2 := M) (f2 := (166, [some (.ref 116), some (.int (x1)), some (.int (x2)), some (.int (x3)), some (.int (x4)), some (.int (x5)), some (.int (x6 + (1 : Int32))), some (.int (((4 : Int32) * x4) + x6)), some (.long ((jV M 158 (((4 : Int32) * x4) + x6).toNatClampNeg) + (p210_0 M x4 x3 x6))), none], [])) rfl ⟨(Nat.le_of_ble_eq_true rfl), trivial, trivial⟩ ?_
          refine sm_w.weak (ls := [some (.ref 116), some (.int (x1)), some (.int (x2)), some (.int (x3)), some (.int (x4)), some (.int (x5)), some (.int (x6 + (1 : Int32))), none, none, none]) (sm_leI [true, true, true, true, true, true, true, false, false, false] rfl) ?_
          exact h
        · have h := h.2 (fun z => hc (lc_g.mpr z))
          refine sm_w.run t206 sr206 139 3 (M2 := M) (f2 := (242, [some (.ref 116), some (.int (x1)), some (.int (x2)), some (.int (x3)), some (.int (x4)), some (.int (x5)), some (.int (x6)), some (.int (((4 : Int32) * x4) + x6)), some (.long ((jV M 158 (((4 : Int32) * x4) + x6).toNatClampNeg) + (p210_0 M x4 x3 x6))), none], [va_rf (sm_rv M 116 86), .long ((jV M 158 (((4 : Int32) * x4) + x6).toNatClampNeg) + (p210_0 M x4 x3 x6))])) rfl ⟨trivial, trivial, sm_K.g (k_116 hS) (sm_sh.rf _), trivial⟩ ?_
          refine sm_w.fld (r_116_86 hS) ?_
          obtain ⟨c15, h⟩ := h
          refine sm_w.run t206 sr206 142 4 (M2 := M) (f2 := (if (lg_cmp ((jV M 158 (((4 : Int32) * x4) + x6).toNatClampNeg) + (p210_0 M x4 x3 x6)) (jV M 158 x5.toNatClampNeg)) = 0 then 249 else 268, [some (.ref 116), some (.int (x1)), some (.int (x2)), some (.int (x3)), some (.int (x4)), some (.int (x5)), some (.int (x6)), some (.int (((4 : Int32) * x4) + x6)), some (.long ((jV M 158 (((4 : Int32) * x4) + x6).toNatClampNeg) + (p210_0 M x4 x3 x6))), none], [])) rfl ⟨trivial, sm_K.a2 (k_158 hS) (l_158 hS) c15, trivial, trivial, trivial⟩ ?_
          refine sm_w.ite (fun hc => ?_) (fun hc => ?_)
          · have h := h.1 (lc_e.mp hc)
            refine sm_w.run t206 sr206 146 4 (M2 := M) (f2 := (256, [some (.ref 116), some (.int (x1)), some (.int (x2)), some (.int (x3)), some (.int (x4)), some (.int (x5)), some (.int (x6)), some (.int (((4 : Int32) * x4) + x6)), some (.long ((jV M 158 (((4 : Int32) * x4) + x6).toNatClampNeg) + (p210_0 M x4 x3 x6))), none], [va_rf (sm_rv M 116 87), .int (((4 : Int32) * x4) + x6), .ref 116])) rfl ⟨trivial, trivial, trivial, sm_K.g (k_116 hS) (sm_sh.rf _), trivial⟩ ?_
            refine sm_w.fld (r_116_87 hS) ?_
            obtain ⟨c16, h⟩ := h
            refine sm_w.run t206 sr206 150 2 (M2 := M) (f2 := (259, [some (.ref 116), some (.int (x1)), some (.int (x2)), some (.int (x3)), some (.int (x4)), some (.int (x5)), some (.int (x6)), some (.int (((4 : Int32) * x4) + x6)), some (.long ((jV M 158 (((4 : Int32) * x4) + x6).toNatClampNeg) + (p210_0 M x4 x3 x6))), none], [.int (iV M 159 x5.toNatClampNeg), .int (((4 : Int32) * x4) + x6), .ref 116])) rfl ⟨trivial, sm_K.a2 (k_159 hS) (l_159 hS) c16, trivial⟩ ?_
            refine sm_w.cI t206 sr206 152 (i := 212) (as := [.ref 116, .int (((4 : Int32) * x4) + x6), .int (iV M 159 x5.toNatClampNeg)]) (g := (259, [some (.ref 116), some (.int (x1)), some (.int (x2)), some (.int (x3)), some (.int (x4)), some (.int (x5)), some (.int (x6)), some (.int (((4 : Int32) * x4) + x6)), some (.long ((jV M 158 (((4 : Int32) * x4) + x6).toNatClampNeg) + (p210_0 M x4 x3 x6))), none], [])) rfl ⟨by decide, by decide, (Nat.le_of_ble_eq_true rfl), (sm_K.g (k_116 hS) (sm_sh.rf _)).1, (sm_K.g (k_116 hS) (sm_sh.rf _)).2, (Nat.le_of_ble_eq_true rfl)⟩ (Nat.le_of_ble_eq_true rfl) (by decide) (sm_cI.s (by decide) hS h) (fun v18 M17 h => ?_)
            obtain ⟨hS19, h⟩ := h
            refine sm_w.run t206 sr206 153 1 (M2 := M17) (f2 := (if v18 = 0 then 265 else 268, [some (.ref 116), some (.int (x1)), some (.int (x2)), some (.int (x3)), some (.int (x4)), some (.int (x5)), some (.int (x6)), some (.int (((4 : Int32) * x4) + x6)), some (.long ((jV M 158 (((4 : Int32) * x4) + x6).toNatClampNeg) + (p210_0 M x4 x3 x6))), none], [])) rfl ⟨trivial, trivial⟩ ?_
            refine sm_w.ite (fun hc => ?_) (fun hc => ?_)
            · have h := h.1 hc
              refine sm_w.run t206 sr206 154 1 (M2 := M17) (f2 := (294, [some (.ref 116), some (.int (x1)), some (.int (x2)), some (.int (x3)), some (.int (x4)), some (.int (x5)), some (.int (x6)), some (.int (((4 : Int32) * x4) + x6)), some (.long ((jV M 158 (((4 : Int32) * x4) + x6).toNatClampNeg) + (p210_0 M x4 x3 x6))), none], [])) rfl ⟨trivial, trivial⟩ ?_
              refine sm_w.run t206 sr206 170 2 (M2 := M17) (f2 := (166, [some (.ref 116), some (.int (x1)), some (.int (x2)), some (.int (x3)), some (.int (x4)), some (.int (x5)), some (.int (x6 + (1 : Int32))), some (.int (((4 : Int32) * x4) + x6)), some (.long ((jV M 158 (((4 : Int32) * x4) + x6).toNatClampNeg) + (p210_0 M x4 x3 x6))), none], [])) rfl ⟨(Nat.le_of_ble_eq_true rfl), trivial, trivial⟩ ?_
              refine sm_w.weak (ls := [some (.ref 116), some (.int (x1)), some (.int (x2)), some (.int (x3)), some (.int (x4)), some (.int (x5)), some (.int (x6 + (1 : Int32))), none, none, none]) (sm_leI [true, true, true, true, true, true, true, false, false, false] rfl) ?_
              exact h
            · have h := h.2 hc
              refine sm_w.run t206 sr206 155 2 (M2 := M17) (f2 := (272, [some (.ref 116), some (.int (x1)), some (.int (x2)), some (.int (x3)), some (.int (x4)), some (.int (x5)), some (.int (x6)), some (.int (((4 : Int32) * x4) + x6)), some (.long ((jV M 158 (((4 : Int32) * x4) + x6).toNatClampNeg) + (p210_0 M x4 x3 x6))), none], [va_rf (sm_rv M17 116 88)])) rfl ⟨trivial, sm_K.g (k_116 hS19) (sm_sh.rf _), trivial⟩ ?_
              refine sm_w.fld (r_116_88 hS19) ?_
              obtain ⟨c20, h⟩ := h
              refine sm_w.run t206 sr206 157 3 (M2 := sm_wI M17 160 x5.toNatClampNeg ((1 : Int32) &&& 1)) (f2 := (276, [some (.ref 116), some (.int (x1)), some (.int (x2)), some (.int (x3)), some (.int (x4)), some (.int (x5)), some (.int (x6)), some (.int (((4 : Int32) * x4) + x6)), some (.long ((jV M 158 (((4 : Int32) * x4) + x6).toNatClampNeg) + (p210_0 M x4 x3 x6))), none], [])) rfl ⟨trivial, trivial, sm_K.s2 (k_160 hS19) (l_160 hS19) c20, trivial⟩ ?_
              have hS22 : SH (sm_wI M17 160 x5.toNatClampNeg ((1 : Int32) &&& 1)) := SH.wI hS19 _ _ _
              have h := h _ hS22 rfl
              generalize sm_wI M17 160 x5.toNatClampNeg ((1 : Int32) &&& 1) = M21 at h hS22 ⊢
              refine sm_w.run t206 sr206 160 2 (M2 := M21) (f2 := (280, [some (.ref 116), some (.int (x1)), some (.int (x2)), some (.int (x3)), some (.int (x4)), some (.int (x5)), some (.int (x6)), some (.int (((4 : Int32) * x4) + x6)), some (.long ((jV M 158 (((4 : Int32) * x4) + x6).toNatClampNeg) + (p210_0 M x4 x3 x6))), none], [va_rf (sm_rv M21 116 86)])) rfl ⟨trivial, sm_K.g (k_116 hS22) (sm_sh.rf _), trivial⟩ ?_
              refine sm_w.fld (r_116_86 hS22) ?_
              obtain ⟨c23, h⟩ := h
              refine sm_w.run t206 sr206 162 3 (M2 := sm_wJ M21 158 x5.toNatClampNeg ((jV M 158 (((4 : Int32) * x4) + x6).toNatClampNeg) + (p210_0 M x4 x3 x6))) (f2 := (285, [some (.ref 116), some (.int (x1)), some (.int (x2)), some (.int (x3)), some (.int (x4)), some (.int (x5)), some (.int (x6)), some (.int (((4 : Int32) * x4) + x6)), some (.long ((jV M 158 (((4 : Int32) * x4) + x6).toNatClampNeg) + (p210_0 M x4 x3 x6))), none], [])) rfl ⟨trivial, trivial, sm_K.s2 (k_158 hS22) (l_158 hS22) c23, trivial⟩ ?_
              have hS25 : SH (sm_wJ M21 158 x5.toNatClampNeg ((jV M 158 (((4 : Int32) * x4) + x6).toNatClampNeg) + (p210_0 M x4 x3 x6))) := SH.wJ hS22 _ _ _
              have h := h _ hS25 rfl
              generalize sm_wJ M21 158 x5.toNatClampNeg ((jV M 158 (((4 : Int32) * x4) + x6).toNatClampNeg) + (p210_0 M x4 x3 x6)) = M24 at h hS25 ⊢
              refine sm_w.run t206 sr206 165 2 (M2 := M24) (f2 := (289, [some (.ref 116), some (.int (x1)), some (.int (x2)), some (.int (x3)), some (.int (x4)), some (.int (x5)), some (.int (x6)), some (.int (((4 : Int32) * x4) + x6)), some (.long ((jV M 158 (((4 : Int32) * x4) + x6).toNatClampNeg) + (p210_0 M x4 x3 x6))), none], [va_rf (sm_rv M24 116 87)])) rfl ⟨trivial, sm_K.g (k_116 hS25) (sm_sh.rf _), trivial⟩ ?_
              refine sm_w.fld (r_116_87 hS25) ?_
              obtain ⟨c26, h⟩ := h
              refine sm_w.run t206 sr206 167 3 (M2 := sm_wI M24 159 x5.toNatClampNeg (((4 : Int32) * x4) + x6)) (f2 := (294, [some (.ref 116), some (.int (x1)), some (.int (x2)), some (.int (x3)), some (.int (x4)), some (.int (x5)), some (.int (x6)), some (.int (((4 : Int32) * x4) + x6)), some (.long ((jV M 158 (((4 : Int32) * x4) + x6).toNatClampNeg) + (p210_0 M x4 x3 x6))), none], [])) rfl ⟨trivial, trivial, sm_K.s2 (k_159 hS25) (l_159 hS25) c26, trivial⟩ ?_
              have hS28 : SH (sm_wI M24 159 x5.toNatClampNeg (((4 : Int32) * x4) + x6)) := SH.wI hS25 _ _ _
              have h := h _ hS28 rfl
              generalize sm_wI M24 159 x5.toNatClampNeg (((4 : Int32) * x4) + x6) = M27 at h hS28 ⊢
              refine sm_w.run t206 sr206 170 2 (M2 := M27) (f2 := (166, [some (.ref 116), some (.int (x1)), some (.int (x2)), some (.int (x3)), some (.int (x4)), some (.int (x5)), some (.int (x6 + (1 : Int32))), some (.int (((4 : Int32) * x4) + x6)), some (.long ((jV M 158 (((4 : Int32) * x4) + x6).toNatClampNeg) + (p210_0 M x4 x3 x6))), none], [])) rfl ⟨(Nat.le_of_ble_eq_true rfl), trivial, trivial⟩ ?_
              refine sm_w.weak (ls := [some (.ref 116), some (.int (x1)), some (.int (x2)), some (.int (x3)), some (.int (x4)), some (.int (x5)), some (.int (x6 + (1 : Int32))), none, none, none]) (sm_leI [true, true, true, true, true, true, true, false, false, false] rfl) ?_
              exact h
          · have h := h.2 (fun z => hc (lc_e.mpr z))
            refine sm_w.run t206 sr206 155 2 (M2 := M) (f2 := (272, [some (.ref 116), some (.int (x1)), some (.int (x2)), some (.int (x3)), some (.int (x4)), some (.int (x5)), some (.int (x6)), some (.int (((4 : Int32) * x4) + x6)), some (.long ((jV M 158 (((4 : Int32) * x4) + x6).toNatClampNeg) + (p210_0 M x4 x3 x6))), none], [va_rf (sm_rv M 116 88)])) rfl ⟨trivial, sm_K.g (k_116 hS) (sm_sh.rf _), trivial⟩ ?_
            refine sm_w.fld (r_116_88 hS) ?_
            obtain ⟨c29, h⟩ := h
            refine sm_w.run t206 sr206 157 3 (M2 := sm_wI M 160 x5.toNatClampNeg ((1 : Int32) &&& 1)) (f2 := (276, [some (.ref 116), some (.int (x1)), some (.int (x2)), some (.int (x3)), some (.int (x4)), some (.int (x5)), some (.int (x6)), some (.int (((4 : Int32) * x4) + x6)), some (.long ((jV M 158 (((4 : Int32) * x4) + x6).toNatClampNeg) + (p210_0 M x4 x3 x6))), none], [])) rfl ⟨trivial, trivial, sm_K.s2 (k_160 hS) (l_160 hS) c29, trivial⟩ ?_
            have hS31 : SH (sm_wI M 160 x5.toNatClampNeg ((1 : Int32) &&& 1)) := SH.wI hS _ _ _
            have h := h _ hS31 rfl
            generalize sm_wI M 160 x5.toNatClampNeg ((1 : Int32) &&& 1) = M30 at h hS31 ⊢
            refine sm_w.run t206 sr206 160 2 (M2 := M30) (f2 := (280, [some (.ref 116), some (.int (x1)), some (.int (x2)), some (.int (x3)), some (.int (x4)), some (.int (x5)), some (.int (x6)), some (.int (((4 : Int32) * x4) + x6)), some (.long ((jV M 158 (((4 : Int32) * x4) + x6).toNatClampNeg) + (p210_0 M x4 x3 x6))), none], [va_rf (sm_rv M30 116 86)])) rfl ⟨trivial, sm_K.g (k_116 hS31) (sm_sh.rf _), trivial⟩ ?_
            refine sm_w.fld (r_116_86 hS31) ?_
            obtain ⟨c32, h⟩ := h
            refine sm_w.run t206 sr206 162 3 (M2 := sm_wJ M30 158 x5.toNatClampNeg ((jV M 158 (((4 : Int32) * x4) + x6).toNatClampNeg) + (p210_0 M x4 x3 x6))) (f2 := (285, [some (.ref 116), some (.int (x1)), some (.int (x2)), some (.int (x3)), some (.int (x4)), some (.int (x5)), some (.int (x6)), some (.int (((4 : Int32) * x4) + x6)), some (.long ((jV M 158 (((4 : Int32) * x4) + x6).toNatClampNeg) + (p210_0 M x4 x3 x6))), none], [])) rfl ⟨trivial, trivial, sm_K.s2 (k_158 hS31) (l_158 hS31) c32, trivial⟩ ?_
            have hS34 : SH (sm_wJ M30 158 x5.toNatClampNeg ((jV M 158 (((4 : Int32) * x4) + x6).toNatClampNeg) + (p210_0 M x4 x3 x6))) := SH.wJ hS31 _ _ _
            have h := h _ hS34 rfl
            generalize sm_wJ M30 158 x5.toNatClampNeg ((jV M 158 (((4 : Int32) * x4) + x6).toNatClampNeg) + (p210_0 M x4 x3 x6)) = M33 at h hS34 ⊢
            refine sm_w.run t206 sr206 165 2 (M2 := M33) (f2 := (289, [some (.ref 116), some (.int (x1)), some (.int (x2)), some (.int (x3)), some (.int (x4)), some (.int (x5)), some (.int (x6)), some (.int (((4 : Int32) * x4) + x6)), some (.long ((jV M 158 (((4 : Int32) * x4) + x6).toNatClampNeg) + (p210_0 M x4 x3 x6))), none], [va_rf (sm_rv M33 116 87)])) rfl ⟨trivial, sm_K.g (k_116 hS34) (sm_sh.rf _), trivial⟩ ?_
            refine sm_w.fld (r_116_87 hS34) ?_
            obtain ⟨c35, h⟩ := h
            refine sm_w.run t206 sr206 167 3 (M2 := sm_wI M33 159 x5.toNatClampNeg (((4 : Int32) * x4) + x6)) (f2 := (294, [some (.ref 116), some (.int (x1)), some (.int (x2)), some (.int (x3)), some (.int (x4)), some (.int (x5)), some (.int (x6)), some (.int (((4 : Int32) * x4) + x6)), some (.long ((jV M 158 (((4 : Int32) * x4) + x6).toNatClampNeg) + (p210_0 M x4 x3 x6))), none], [])) rfl ⟨trivial, trivial, sm_K.s2 (k_159 hS34) (l_159 hS34) c35, trivial⟩ ?_
            have hS37 : SH (sm_wI M33 159 x5.toNatClampNeg (((4 : Int32) * x4) + x6)) := SH.wI hS34 _ _ _
            have h := h _ hS37 rfl
            generalize sm_wI M33 159 x5.toNatClampNeg (((4 : Int32) * x4) + x6) = M36 at h hS37 ⊢
            refine sm_w.run t206 sr206 170 2 (M2 := M36) (f2 := (166, [some (.ref 116), some (.int (x1)), some (.int (x2)), some (.int (x3)), some (.int (x4)), some (.int (x5)), some (.int (x6 + (1 : Int32))), some (.int (((4 : Int32) * x4) + x6)), some (.long ((jV M 158 (((4 : Int32) * x4) + x6).toNatClampNeg) + (p210_0 M x4 x3 x6))), none], [])) rfl ⟨(Nat.le_of_ble_eq_true rfl), trivial, trivial⟩ ?_
            refine sm_w.weak (ls := [some (.ref 116), some (.int (x1)), some (.int (x2)), some (.int (x3)), some (.int (x4)), some (.int (x5)), some (.int (x6 + (1 : Int32))), none, none, none]) (sm_leI [true, true, true, true, true, true, true, false, false, false] rfl) ?_
            exact h
theorem g206_6 {M : sm_M} {x3 : Int32} {K : Int32 → sm_M → Prop} (hS : SH M)  (h : (((4 : Int32) ≤ x3 → K (0 : Int32) M) ∧ (¬ (4 : Int32) ≤ x3 → (vp_in (((4 : Int32) * (iV M 116 63)) + x3) 2408) ∧ (((iV M 160 (((4 : Int32) * (iV M 116 63)) + x3).toNatClampNeg) = 0 → sm_w 206 (314, [some (.ref 116), none, none, some (.int (x3 + (1 : Int32))), none, none, none, none, none, none], []) M (rI K)) ∧ (¬ (iV M 160 (((4 : Int32) * (iV M 116 63)) + x3).toNatClampNeg) = 0 → K (1 : Int32) M))))) : sm_w 206 (314, [some (.ref 116), none, none, some (.int (x3)), none, none, none, none, none, none], []) M (rI K) := by
  refine sm_w.run t206 sr206 178 3 (M2 := M) (f2 := (if (4 : Int32) ≤ x3 then 343 else 319, [some (.ref 116), none, none, some (.int (x3)), none, none, none, none, none, none], [])) rfl ⟨trivial, trivial, trivial, trivial⟩ ?_
  refine sm_w.ite (fun hc => ?_) (fun hc => ?_)
  · have h := h.1 hc
    refine sm_w.run t206 sr206 195 1 (M2 := M) (f2 := (344, [some (.ref 116), none, none, some (.int (x3)), none, none, none, none, none, none], [.int ((0 : Int32))])) rfl ⟨trivial, trivial⟩ ?_
    exact sm_w.end t206 sr206 196 (o := .returned (some (.int ((0 : Int32))))) (M2 := M) rfl rfl (by decide) (⟨_, rfl, h⟩)
  · have h := h.2 hc
    refine sm_w.run t206 sr206 181 2 (M2 := M) (f2 := (323, [some (.ref 116), none, none, some (.int (x3)), none, none, none, none, none, none], [va_rf (sm_rv M 116 88)])) rfl ⟨trivial, sm_K.g (k_116 hS) (sm_sh.rf _), trivial⟩ ?_
    refine sm_w.fld (r_116_88 hS) ?_
    obtain ⟨c1, h⟩ := h
    refine sm_w.run t206 sr206 183 8 (M2 := M) (f2 := (if (iV M 160 (((4 : Int32) * (iV M 116 63)) + x3).toNatClampNeg) = 0 then 337 else 335, [some (.ref 116), none, none, some (.int (x3)), none, none, none, none, none, none], [])) rfl ⟨trivial, trivial, sm_K.g (k_116 hS) (sm_sh.rf _), trivial, trivial, trivial, sm_K.a2 (k_160 hS) (l_160 hS) c1, trivial, trivial⟩ ?_
    refine sm_w.ite (fun hc => ?_) (fun hc => ?_)
    · have h := h.1 hc
      refine sm_w.run t206 sr206 193 2 (M2 := M) (f2 := (314, [some (.ref 116), none, none, some (.int (x3 + (1 : Int32))), none, none, none, none, none, none], [])) rfl ⟨(Nat.le_of_ble_eq_true rfl), trivial, trivial⟩ ?_
      exact h
    · have h := h.2 hc
      refine sm_w.run t206 sr206 191 1 (M2 := M) (f2 := (336, [some (.ref 116), none, none, some (.int (x3)), none, none, none, none, none, none], [.int ((1 : Int32))])) rfl ⟨trivial, trivial⟩ ?_
      exact sm_w.end t206 sr206 192 (o := .returned (some (.int ((1 : Int32))))) (M2 := M) rfl rfl (by decide) (⟨_, rfl, h⟩)
