/-! METHODS by their segments. -/
-- 190 LineSetterModel.run(I)I
theorem t190 : sP 190 = (6, sp_190, sh_190) := rfl
theorem sr190 : sm_srt sp_190 = true := by decide +kernel
theorem g190_0 {M : sm_M} {x1 : Int32} {K : Int32 → sm_M → Prop} (hS : SH M)  (h : sm_cV 169 [.ref 116] M (fun M1 => SH M1 → ∀ M4, SH M4 → M4 = sm_wI M1 116 7 (-1 : Int32) → (((p166_0 M x1.toInt64 (1000 : Int64) (100000 : Int64)) = 0 → ∀ M9, SH M9 → M9 = sm_wI M4 116 0 (1 : Int32) → K (0 : Int32) M9) ∧ (¬ (p166_0 M x1.toInt64 (1000 : Int64) (100000 : Int64)) = 0 → sm_w 190 (33, [some (.ref 116), some (.int (x1)), none, some (.int ((0 : Int32))), none, none], []) M4 (rI K))))) : sm_w 190 (sm_in sP 190 [.ref 116, .int (x1)]) M (rI K) := by
  show sm_w 190 (0, [some (.ref 116), some (.int (x1)), none, none, none, none], []) M (rI K)
  refine sm_w.run t190 sr190 0 4 (M2 := M) (f2 := (8, [some (.ref 116), some (.int (x1)), none, none, none, none], [.long ((100000 : Int64)), .long ((1000 : Int64)), .long (x1.toInt64)])) rfl ⟨trivial, trivial, trivial, trivial, trivial⟩ ?_
  refine sm_w.cI t190 sr190 4 (i := 166) (as := [.long (x1.toInt64), .long ((1000 : Int64)), .long ((100000 : Int64))]) (g := (8, [some (.ref 116), some (.int (x1)), none, none, none, none], [])) rfl ⟨(Nat.le_of_ble_eq_true rfl), (Nat.le_of_ble_eq_true rfl)⟩ (Nat.le_of_ble_eq_true rfl) (by decide) (p166_c hS) (fun vz M2 hz => ?_)
  obtain ⟨hz1, hz2⟩ := hz
  subst hz1
  have hz2 := hz2.symm
  subst hz2
  refine sm_w.run t190 sr190 5 2 (M2 := M) (f2 := (13, [some (.ref 116), some (.int (x1)), some (.int (p166_0 M x1.toInt64 (1000 : Int64) (100000 : Int64))), none, none, none], [.ref 116])) rfl ⟨(Nat.le_of_ble_eq_true rfl), trivial, trivial⟩ ?_
  refine sm_w.cV t190 sr190 7 (i := 169) (as := [.ref 116]) (g := (13, [some (.ref 116), some (.int (x1)), some (.int (p166_0 M x1.toInt64 (1000 : Int64) (100000 : Int64))), none, none, none], [])) rfl ⟨by decide, by decide, (Nat.le_of_ble_eq_true rfl), (sm_K.g (k_116 hS) (sm_sh.rf _)).1, (sm_K.g (k_116 hS) (sm_sh.rf _)).2, (Nat.le_of_ble_eq_true rfl)⟩ (Nat.le_of_ble_eq_true rfl) (by decide) (sm_cV.s (by decide) hS h) (fun M1 h => ?_)
  obtain ⟨hS3, h⟩ := h
  refine sm_w.run t190 sr190 8 3 (M2 := sm_wI M1 116 7 (-1 : Int32)) (f2 := (21, [some (.ref 116), some (.int (x1)), some (.int (p166_0 M x1.toInt64 (1000 : Int64) (100000 : Int64))), none, none, none], [])) rfl ⟨trivial, trivial, ⟨(sm_K.p (k_116 hS3) (sm_sh.rf _)).1, (sm_K.p (k_116 hS3) (sm_sh.rf _)).2.1, (sm_K.p (k_116 hS3) (sm_sh.rf _)).2.2, Or.inl rfl⟩, trivial⟩ ?_
  have hS5 : SH (sm_wI M1 116 7 (-1 : Int32)) := SH.wI hS3 _ _ _
  have h := h _ hS5 rfl
  generalize sm_wI M1 116 7 (-1 : Int32) = M4 at h hS5 ⊢
  refine sm_w.run t190 sr190 11 2 (M2 := M4) (f2 := (if (p166_0 M x1.toInt64 (1000 : Int64) (100000 : Int64)) = 0 then 25 else 31, [some (.ref 116), some (.int (x1)), some (.int (p166_0 M x1.toInt64 (1000 : Int64) (100000 : Int64))), none, none, none], [])) rfl ⟨trivial, trivial, trivial⟩ ?_
  refine sm_w.ite (fun hc => ?_) (fun hc => ?_)
  · have h := h.1 hc
    refine sm_w.run t190 sr190 13 2 (M2 := M4) (f2 := (27, [some (.ref 116), some (.int (x1)), some (.int (p166_0 M x1.toInt64 (1000 : Int64) (100000 : Int64))), none, none, none], [.int ((1 : Int32)), .ref 116])) rfl ⟨trivial, trivial, trivial⟩ ?_
    refine sm_w.cI t190 sr190 15 (i := 163) (as := [.ref 116, .int ((1 : Int32))]) (g := (27, [some (.ref 116), some (.int (x1)), some (.int (p166_0 M x1.toInt64 (1000 : Int64) (100000 : Int64))), none, none, none], [])) rfl ⟨by decide, by decide, (Nat.le_of_ble_eq_true rfl), (sm_K.g (k_116 hS5) (sm_sh.rf _)).1, (sm_K.g (k_116 hS5) (sm_sh.rf _)).2, (Nat.le_of_ble_eq_true rfl)⟩ (Nat.le_of_ble_eq_true rfl) (by decide) (sm_cI.s2 (by decide) hS5 (g163_0 (K := fun v7 M6 => K v7 M6) hS5 h)) (fun v7 M6 h => ?_)
    obtain ⟨hS8, h⟩ := h
    exact sm_w.end t190 sr190 16 (o := .returned (some (.int (v7)))) (M2 := M6) rfl rfl (by decide) (⟨_, rfl, h⟩)
  · have h := h.2 hc
    refine sm_w.run t190 sr190 17 2 (M2 := M4) (f2 := (33, [some (.ref 116), some (.int (x1)), some (.int (p166_0 M x1.toInt64 (1000 : Int64) (100000 : Int64))), some (.int ((0 : Int32))), none, none], [])) rfl ⟨trivial, (Nat.le_of_ble_eq_true rfl), trivial⟩ ?_
    refine sm_w.weak (ls := [some (.ref 116), some (.int (x1)), none, some (.int ((0 : Int32))), none, none]) (sm_leI [true, true, false, true, false, false] rfl) ?_
    exact h
theorem g190_1 {M : sm_M} {x1 : Int32} {x3 : Int32} {K : Int32 → sm_M → Prop} (hS : SH M)  (h : (((iV M 116 4) ≤ x3 → sm_w 190 (106, [some (.ref 116), some (.int (x1)), none, some (.int (iV M 116 56)), some (.int (iV M 116 57)), some (.int ((0 : Int32)))], []) M (rI K)) ∧ (¬ (iV M 116 4) ≤ x3 → (vp_in x3 8192) ∧ (((p172_0 M (iV M 118 x3.toNatClampNeg)) = 0 → (vp_in x3 8192) ∧ (((p166_0 M ((iV M 118 x3.toNatClampNeg).toInt64) (33 : Int64) (126 : Int64)) = 0 → ∀ M3, SH M3 → M3 = sm_wI M 116 7 x3 → ∀ M8, SH M8 → M8 = sm_wI M3 116 0 (2 : Int32) → K (0 : Int32) M8) ∧ (¬ (p166_0 M ((iV M 118 x3.toNatClampNeg).toInt64) (33 : Int64) (126 : Int64)) = 0 → sm_w 190 (33, [some (.ref 116), some (.int (x1)), none, some (.int (x3 + (1 : Int32))), none, none], []) M (rI K)))) ∧ (¬ (p172_0 M (iV M 118 x3.toNatClampNeg)) = 0 → sm_w 190 (33, [some (.ref 116), some (.int (x1)), none, some (.int (x3 + (1 : Int32))), none, none], []) M (rI K)))))) : sm_w 190 (33, [some (.ref 116), some (.int (x1)), none, some (.int (x3)), none, none], []) M (rI K) := by
  refine sm_w.run t190 sr190 19 4 (M2 := M) (f2 := (if (iV M 116 4) ≤ x3 then 92 else 41, [some (.ref 116), some (.int (x1)), none, some (.int (x3)), none, none], [])) rfl ⟨trivial, trivial, sm_K.g (k_116 hS) (sm_sh.rf _), trivial, trivial⟩ ?_
  refine sm_w.ite (fun hc => ?_) (fun hc => ?_)
  · have h := h.1 hc
    refine sm_w.run t190 sr190 48 8 (M2 := M) (f2 := (106, [some (.ref 116), some (.int (x1)), none, some (.int (iV M 116 56)), some (.int (iV M 116 57)), some (.int ((0 : Int32)))], [])) rfl ⟨trivial, sm_K.g (k_116 hS) (sm_sh.rf _), (Nat.le_of_ble_eq_true rfl), trivial, sm_K.g (k_116 hS) (sm_sh.rf _), (Nat.le_of_ble_eq_true rfl), trivial, (Nat.le_of_ble_eq_true rfl), trivial⟩ ?_
    exact h
  · have h := h.2 hc
    refine sm_w.run t190 sr190 23 2 (M2 := M) (f2 := (45, [some (.ref 116), some (.int (x1)), none, some (.int (x3)), none, none], [va_rf (sm_rv M 116 2)])) rfl ⟨trivial, sm_K.g (k_116 hS) (sm_sh.rf _), trivial⟩ ?_
    refine sm_w.fld (r_116_2 hS) ?_
    obtain ⟨c1, h⟩ := h
    refine sm_w.run t190 sr190 25 2 (M2 := M) (f2 := (47, [some (.ref 116), some (.int (x1)), none, some (.int (x3)), none, none], [.int (iV M 118 x3.toNatClampNeg)])) rfl ⟨trivial, sm_K.a2 (k_118 hS) (l_118 hS) c1, trivial⟩ ?_
    refine sm_w.cI t190 sr190 27 (i := 172) (as := [.int (iV M 118 x3.toNatClampNeg)]) (g := (47, [some (.ref 116), some (.int (x1)), none, some (.int (x3)), none, none], [])) rfl ⟨(Nat.le_of_ble_eq_true rfl), (Nat.le_of_ble_eq_true rfl)⟩ (Nat.le_of_ble_eq_true rfl) (by decide) (p172_c hS) (fun vz M2 hz => ?_)
    obtain ⟨hz1, hz2⟩ := hz
    subst hz1
    have hz2 := hz2.symm
    subst hz2
    refine sm_w.run t190 sr190 28 1 (M2 := M) (f2 := (if (p172_0 M (iV M 118 x3.toNatClampNeg)) = 0 then 53 else 86, [some (.ref 116), some (.int (x1)), none, some (.int (x3)), none, none], [])) rfl ⟨trivial, trivial⟩ ?_
    refine sm_w.ite (fun hc => ?_) (fun hc => ?_)
    · have h := h.1 hc
      refine sm_w.run t190 sr190 29 2 (M2 := M) (f2 := (57, [some (.ref 116), some (.int (x1)), none, some (.int (x3)), none, none], [va_rf (sm_rv M 116 2)])) rfl ⟨trivial, sm_K.g (k_116 hS) (sm_sh.rf _), trivial⟩ ?_
      refine sm_w.fld (r_116_2 hS) ?_
      obtain ⟨c2, h⟩ := h
      refine sm_w.run t190 sr190 31 5 (M2 := M) (f2 := (66, [some (.ref 116), some (.int (x1)), none, some (.int (x3)), none, none], [.long ((126 : Int64)), .long ((33 : Int64)), .long ((iV M 118 x3.toNatClampNeg).toInt64)])) rfl ⟨trivial, sm_K.a2 (k_118 hS) (l_118 hS) c2, trivial, trivial, trivial, trivial⟩ ?_
      refine sm_w.cI t190 sr190 36 (i := 166) (as := [.long ((iV M 118 x3.toNatClampNeg).toInt64), .long ((33 : Int64)), .long ((126 : Int64))]) (g := (66, [some (.ref 116), some (.int (x1)), none, some (.int (x3)), none, none], [])) rfl ⟨(Nat.le_of_ble_eq_true rfl), (Nat.le_of_ble_eq_true rfl)⟩ (Nat.le_of_ble_eq_true rfl) (by decide) (p166_c hS) (fun vz M2 hz => ?_)
      obtain ⟨hz1, hz2⟩ := hz
      subst hz1
      have hz2 := hz2.symm
      subst hz2
      refine sm_w.run t190 sr190 37 1 (M2 := M) (f2 := (if (p166_0 M ((iV M 118 x3.toNatClampNeg).toInt64) (33 : Int64) (126 : Int64)) = 0 then 75 else 72, [some (.ref 116), some (.int (x1)), none, some (.int (x3)), none, none], [])) rfl ⟨trivial, trivial⟩ ?_
      refine sm_w.ite (fun hc => ?_) (fun hc => ?_)
      · have h := h.1 hc
        refine sm_w.run t190 sr190 39 3 (M2 := sm_wI M 116 7 x3) (f2 := (80, [some (.ref 116), some (.int (x1)), none, some (.int (x3)), none, none], [])) rfl ⟨trivial, trivial, ⟨(sm_K.p (k_116 hS) (sm_sh.rf _)).1, (sm_K.p (k_116 hS) (sm_sh.rf _)).2.1, (sm_K.p (k_116 hS) (sm_sh.rf _)).2.2, Or.inl rfl⟩, trivial⟩ ?_
        have hS4 : SH (sm_wI M 116 7 x3) := SH.wI hS _ _ _
        have h := h _ hS4 rfl
        generalize sm_wI M 116 7 x3 = M3 at h hS4 ⊢
        refine sm_w.run t190 sr190 42 2 (M2 := M3) (f2 := (82, [some (.ref 116), some (.int (x1)), none, some (.int (x3)), none, none], [.int ((2 : Int32)), .ref 116])) rfl ⟨trivial, trivial, trivial⟩ ?_
        refine sm_w.cI t190 sr190 44 (i := 163) (as := [.ref 116, .int ((2 : Int32))]) (g := (82, [some (.ref 116), some (.int (x1)), none, some (.int (x3)), none, none], [])) rfl ⟨by decide, by decide, (Nat.le_of_ble_eq_true rfl), (sm_K.g (k_116 hS4) (sm_sh.rf _)).1, (sm_K.g (k_116 hS4) (sm_sh.rf _)).2, (Nat.le_of_ble_eq_true rfl)⟩ (Nat.le_of_ble_eq_true rfl) (by decide) (sm_cI.s2 (by decide) hS4 (g163_0 (K := fun v6 M5 => K v6 M5) hS4 h)) (fun v6 M5 h => ?_)
        obtain ⟨hS7, h⟩ := h
        exact sm_w.end t190 sr190 45 (o := .returned (some (.int (v6)))) (M2 := M5) rfl rfl (by decide) (⟨_, rfl, h⟩)
      · have h := h.2 hc
        refine sm_w.run t190 sr190 38 1 (M2 := M) (f2 := (86, [some (.ref 116), some (.int (x1)), none, some (.int (x3)), none, none], [])) rfl ⟨trivial, trivial⟩ ?_
        refine sm_w.run t190 sr190 46 2 (M2 := M) (f2 := (33, [some (.ref 116), some (.int (x1)), none, some (.int (x3 + (1 : Int32))), none, none], [])) rfl ⟨(Nat.le_of_ble_eq_true rfl), trivial, trivial⟩ ?_
        exact h
    · have h := h.2 hc
      refine sm_w.run t190 sr190 46 2 (M2 := M) (f2 := (33, [some (.ref 116), some (.int (x1)), none, some (.int (x3 + (1 : Int32))), none, none], [])) rfl ⟨(Nat.le_of_ble_eq_true rfl), trivial, trivial⟩ ?_
      exact h
theorem g190_2 {M : sm_M} {x1 : Int32} {x3 : Int32} {x4 : Int32} {x5 : Int32} {K : Int32 → sm_M → Prop} (hS : SH M)  (h : (((iV M 116 4) ≤ x5 → ((x3 ≤ (4000 : Int32) → ∀ M1, SH M1 → M1 = sm_wI M 116 0 (0 : Int32) → sm_w 190 (193, [some (.ref 116), some (.int (x1)), none, none, none, some (.int ((0 : Int32)))], []) M1 (rI K)) ∧ (¬ x3 ≤ (4000 : Int32) → ∀ M6, SH M6 → M6 = sm_wI M 116 0 (3 : Int32) → K (0 : Int32) M6))) ∧ (¬ (iV M 116 4) ≤ x5 → (((4000 : Int32) < x3 → ((x3 ≤ (4000 : Int32) → ∀ M8, SH M8 → M8 = sm_wI M 116 0 (0 : Int32) → sm_w 190 (193, [some (.ref 116), some (.int (x1)), none, none, none, some (.int ((0 : Int32)))], []) M8 (rI K)) ∧ (¬ x3 ≤ (4000 : Int32) → ∀ M13, SH M13 → M13 = sm_wI M 116 0 (3 : Int32) → K (0 : Int32) M13))) ∧ (¬ (4000 : Int32) < x3 → (vp_in x5 8192) ∧ (((p172_0 M (iV M 118 x5.toNatClampNeg)) = 0 → ((x4 ≤ 0 → sm_w 190 (106, [some (.ref 116), some (.int (x1)), none, some (.int (x3 + (1 : Int32))), some (.int ((0 : Int32))), some (.int (x5 + (1 : Int32)))], []) M (rI K)) ∧ (¬ x4 ≤ 0 → sm_w 190 (106, [some (.ref 116), some (.int (x1)), none, some (.int (x3 + (2 : Int32))), some (.int ((0 : Int32))), some (.int (x5 + (1 : Int32)))], []) M (rI K)))) ∧ (¬ (p172_0 M (iV M 118 x5.toNatClampNeg)) = 0 → ((x3 ≤ 0 → sm_w 190 (106, [some (.ref 116), some (.int (x1)), none, some (.int (x3)), some (.int (x4)), some (.int (x5 + (1 : Int32)))], []) M (rI K)) ∧ (¬ x3 ≤ 0 → ((x4 = 0 → sm_w 190 (106, [some (.ref 116), some (.int (x1)), none, some (.int (x3)), some (.int (x1)), some (.int (x5 + (1 : Int32)))], []) M (rI K)) ∧ (¬ x4 = 0 → sm_w 190 (106, [some (.ref 116), some (.int (x1)), none, some (.int (x3)), some (.int (x4)), some (.int (x5 + (1 : Int32)))], []) M (rI K)))))))))))) : sm_w 190 (106, [some (.ref 116), some (.int (x1)), none, some (.int (x3)), some (.int (x4)), some (.int (x5))], []) M (rI K) := by
  refine sm_w.run t190 sr190 56 4 (M2 := M) (f2 := (if (iV M 116 4) ≤ x5 then 172 else 115, [some (.ref 116), some (.int (x1)), none, some (.int (x3)), some (.int (x4)), some (.int (x5))], [])) rfl ⟨trivial, trivial, sm_K.g (k_116 hS) (sm_sh.rf _), trivial, trivial⟩ ?_
  refine sm_w.ite (fun hc => ?_) (fun hc => ?_)
  · have h := h.1 hc
    refine sm_w.run t190 sr190 88 3 (M2 := M) (f2 := (if x3 ≤ (4000 : Int32) then 185 else 179, [some (.ref 116), some (.int (x1)), none, some (.int (x3)), some (.int (x4)), some (.int (x5))], [])) rfl ⟨trivial, trivial, trivial, trivial⟩ ?_
    refine sm_w.ite (fun hc => ?_) (fun hc => ?_)
    · have h := h.1 hc
      refine sm_w.run t190 sr190 95 3 (M2 := sm_wI M 116 0 (0 : Int32)) (f2 := (190, [some (.ref 116), some (.int (x1)), none, some (.int (x3)), some (.int (x4)), some (.int (x5))], [])) rfl ⟨trivial, trivial, ⟨(sm_K.p (k_116 hS) (sm_sh.rf _)).1, (sm_K.p (k_116 hS) (sm_sh.rf _)).2.1, (sm_K.p (k_116 hS) (sm_sh.rf _)).2.2, Or.inl rfl⟩, trivial⟩ ?_
      have hS2 : SH (sm_wI M 116 0 (0 : Int32)) := SH.wI hS _ _ _
      have h := h _ hS2 rfl
      generalize sm_wI M 116 0 (0 : Int32) = M1 at h hS2 ⊢
      refine sm_w.run t190 sr190 98 2 (M2 := M1) (f2 := (193, [some (.ref 116), some (.int (x1)), none, some (.int (x3)), some (.int (x4)), some (.int ((0 : Int32)))], [])) rfl ⟨trivial, (Nat.le_of_ble_eq_true rfl), trivial⟩ ?_
      refine sm_w.weak (ls := [some (.ref 116), some (.int (x1)), none, none, none, some (.int ((0 : Int32)))]) (sm_leI [true, true, false, false, false, true] rfl) ?_
      exact h
    · have h := h.2 hc
      refine sm_w.run t190 sr190 91 2 (M2 := M) (f2 := (181, [some (.ref 116), some (.int (x1)), none, some (.int (x3)), some (.int (x4)), some (.int (x5))], [.int ((3 : Int32)), .ref 116])) rfl ⟨trivial, trivial, trivial⟩ ?_
      refine sm_w.cI t190 sr190 93 (i := 163) (as := [.ref 116, .int ((3 : Int32))]) (g := (181, [some (.ref 116), some (.int (x1)), none, some (.int (x3)), some (.int (x4)), some (.int (x5))], [])) rfl ⟨by decide, by decide, (Nat.le_of_ble_eq_true rfl), (sm_K.g (k_116 hS) (sm_sh.rf _)).1, (sm_K.g (k_116 hS) (sm_sh.rf _)).2, (Nat.le_of_ble_eq_true rfl)⟩ (Nat.le_of_ble_eq_true rfl) (by decide) (sm_cI.s2 (by decide) hS (g163_0 (K := fun v4 M3 => K v4 M3) hS h)) (fun v4 M3 h => ?_)
      obtain ⟨hS5, h⟩ := h
      exact sm_w.end t190 sr190 94 (o := .returned (some (.int (v4)))) (M2 := M3) rfl rfl (by decide) (⟨_, rfl, h⟩)
  · have h := h.2 hc
    refine sm_w.run t190 sr190 60 3 (M2 := M) (f2 := (if (4000 : Int32) < x3 then 172 else 122, [some (.ref 116), some (.int (x1)), none, some (.int (x3)), some (.int (x4)), some (.int (x5))], [])) rfl ⟨trivial, trivial, trivial, trivial⟩ ?_
    refine sm_w.ite (fun hc => ?_) (fun hc => ?_)
    · have h := h.1 hc
      refine sm_w.run t190 sr190 88 3 (M2 := M) (f2 := (if x3 ≤ (4000 : Int32) then 185 else 179, [some (.ref 116), some (.int (x1)), none, some (.int (x3)), some (.int (x4)), some (.int (x5))], [])) rfl ⟨trivial, trivial, trivial, trivial⟩ ?_
      refine sm_w.ite (fun hc => ?_) (fun hc => ?_)
      · have h := h.1 hc
        refine sm_w.run t190 sr190 95 3 (M2 := sm_wI M 116 0 (0 : Int32)) (f2 := (190, [some (.ref 116), some (.int (x1)), none, some (.int (x3)), some (.int (x4)), some (.int (x5))], [])) rfl ⟨trivial, trivial, ⟨(sm_K.p (k_116 hS) (sm_sh.rf _)).1, (sm_K.p (k_116 hS) (sm_sh.rf _)).2.1, (sm_K.p (k_116 hS) (sm_sh.rf _)).2.2, Or.inl rfl⟩, trivial⟩ ?_
        have hS9 : SH (sm_wI M 116 0 (0 : Int32)) := SH.wI hS _ _ _
        have h := h _ hS9 rfl
        generalize sm_wI M 116 0 (0 : Int32) = M8 at h hS9 ⊢
        refine sm_w.run t190 sr190 98 2 (M2 := M8) (f2 := (193, [some (.ref 116), some (.int (x1)), none, some (.int (x3)), some (.int (x4)), some (.int ((0 : Int32)))], [])) rfl ⟨trivial, (Nat.le_of_ble_eq_true rfl), trivial⟩ ?_
        refine sm_w.weak (ls := [some (.ref 116), some (.int (x1)), none, none, none, some (.int ((0 : Int32)))]) (sm_leI [true, true, false, false, false, true] rfl) ?_
        exact h
      · have h := h.2 hc
        refine sm_w.run t190 sr190 91 2 (M2 := M) (f2 := (181, [some (.ref 116), some (.int (x1)), none, some (.int (x3)), some (.int (x4)), some (.int (x5))], [.int ((3 : Int32)), .ref 116])) rfl ⟨trivial, trivial, trivial⟩ ?_
        refine sm_w.cI t190 sr190 93 (i := 163) (as := [.ref 116, .int ((3 : Int32))]) (g := (181, [some (.ref 116), some (.int (x1)), none, some (.int (x3)), some (.int (x4)), some (.int (x5))], [])) rfl ⟨by decide, by decide, (Nat.le_of_ble_eq_true rfl), (sm_K.g (k_116 hS) (sm_sh.rf _)).1, (sm_K.g (k_116 hS) (sm_sh.rf _)).2, (Nat.le_of_ble_eq_true rfl)⟩ (Nat.le_of_ble_eq_true rfl) (by decide) (sm_cI.s2 (by decide) hS (g163_0 (K := fun v11 M10 => K v11 M10) hS h)) (fun v11 M10 h => ?_)
        obtain ⟨hS12, h⟩ := h
        exact sm_w.end t190 sr190 94 (o := .returned (some (.int (v11)))) (M2 := M10) rfl rfl (by decide) (⟨_, rfl, h⟩)
    · have h := h.2 hc
      refine sm_w.run t190 sr190 63 2 (M2 := M) (f2 := (126, [some (.ref 116), some (.int (x1)), none, some (.int (x3)), some (.int (x4)), some (.int (x5))], [va_rf (sm_rv M 116 2)])) rfl ⟨trivial, sm_K.g (k_116 hS) (sm_sh.rf _), trivial⟩ ?_
      refine sm_w.fld (r_116_2 hS) ?_
      obtain ⟨c15, h⟩ := h
      refine sm_w.run t190 sr190 65 2 (M2 := M) (f2 := (129, [some (.ref 116), some (.int (x1)), none, some (.int (x3)), some (.int (x4)), some (.int (x5))], [.int (iV M 118 x5.toNatClampNeg)])) rfl ⟨trivial, sm_K.a2 (k_118 hS) (l_118 hS) c15, trivial⟩ ?_
      refine sm_w.cI t190 sr190 67 (i := 172) (as := [.int (iV M 118 x5.toNatClampNeg)]) (g := (129, [some (.ref 116), some (.int (x1)), none, some (.int (x3)), some (.int (x4)), some (.int (x5))], [])) rfl ⟨(Nat.le_of_ble_eq_true rfl), (Nat.le_of_ble_eq_true rfl)⟩ (Nat.le_of_ble_eq_true rfl) (by decide) (p172_c hS) (fun vz M2 hz => ?_)
      obtain ⟨hz1, hz2⟩ := hz
      subst hz1
      have hz2 := hz2.symm
      subst hz2
      refine sm_w.run t190 sr190 68 1 (M2 := M) (f2 := (if (p172_0 M (iV M 118 x5.toNatClampNeg)) = 0 then 150 else 135, [some (.ref 116), some (.int (x1)), none, some (.int (x3)), some (.int (x4)), some (.int (x5))], [])) rfl ⟨trivial, trivial⟩ ?_
      refine sm_w.ite (fun hc => ?_) (fun hc => ?_)
      · have h := h.1 hc
        refine sm_w.run t190 sr190 76 3 (M2 := M) (f2 := (if x4 ≤ 0 then 160 else 156, [some (.ref 116), some (.int (x1)), none, some (.int (x3)), some (.int (x4)), some (.int (x5))], [.int (x3)])) rfl ⟨trivial, trivial, trivial, trivial⟩ ?_
        refine sm_w.ite (fun hc => ?_) (fun hc => ?_)
        · have h := h.1 hc
          refine sm_w.run t190 sr190 81 7 (M2 := M) (f2 := (106, [some (.ref 116), some (.int (x1)), none, some (.int (x3 + (1 : Int32))), some (.int ((0 : Int32))), some (.int (x5 + (1 : Int32)))], [])) rfl ⟨trivial, trivial, (Nat.le_of_ble_eq_true rfl), trivial, (Nat.le_of_ble_eq_true rfl), (Nat.le_of_ble_eq_true rfl), trivial, trivial⟩ ?_
          exact h
        · have h := h.2 hc
          refine sm_w.run t190 sr190 79 2 (M2 := M) (f2 := (161, [some (.ref 116), some (.int (x1)), none, some (.int (x3)), some (.int (x4)), some (.int (x5))], [.int ((2 : Int32)), .int (x3)])) rfl ⟨trivial, trivial, trivial⟩ ?_
          refine sm_w.run t190 sr190 82 6 (M2 := M) (f2 := (106, [some (.ref 116), some (.int (x1)), none, some (.int (x3 + (2 : Int32))), some (.int ((0 : Int32))), some (.int (x5 + (1 : Int32)))], [])) rfl ⟨trivial, (Nat.le_of_ble_eq_true rfl), trivial, (Nat.le_of_ble_eq_true rfl), (Nat.le_of_ble_eq_true rfl), trivial, trivial⟩ ?_
          exact h
      · have h := h.2 hc
        refine sm_w.run t190 sr190 69 2 (M2 := M) (f2 := (if x3 ≤ 0 then 166 else 139, [some (.ref 116), some (.int (x1)), none, some (.int (x3)), some (.int (x4)), some (.int (x5))], [])) rfl ⟨trivial, trivial, trivial⟩ ?_
        refine sm_w.ite (fun hc => ?_) (fun hc => ?_)
        · have h := h.1 hc
          refine sm_w.run t190 sr190 86 2 (M2 := M) (f2 := (106, [some (.ref 116), some (.int (x1)), none, some (.int (x3)), some (.int (x4)), some (.int (x5 + (1 : Int32)))], [])) rfl ⟨(Nat.le_of_ble_eq_true rfl), trivial, trivial⟩ ?_
          exact h
        · have h := h.2 hc
          refine sm_w.run t190 sr190 71 2 (M2 := M) (f2 := (if x4 = 0 then 144 else 166, [some (.ref 116), some (.int (x1)), none, some (.int (x3)), some (.int (x4)), some (.int (x5))], [])) rfl ⟨trivial, trivial, trivial⟩ ?_
          refine sm_w.ite (fun hc => ?_) (fun hc => ?_)
          · have h := h.1 hc
            refine sm_w.run t190 sr190 73 3 (M2 := M) (f2 := (166, [some (.ref 116), some (.int (x1)), none, some (.int (x3)), some (.int (x1)), some (.int (x5))], [])) rfl ⟨trivial, (Nat.le_of_ble_eq_true rfl), trivial, trivial⟩ ?_
            refine sm_w.run t190 sr190 86 2 (M2 := M) (f2 := (106, [some (.ref 116), some (.int (x1)), none, some (.int (x3)), some (.int (x1)), some (.int (x5 + (1 : Int32)))], [])) rfl ⟨(Nat.le_of_ble_eq_true rfl), trivial, trivial⟩ ?_
            exact h
          · have h := h.2 hc
            refine sm_w.run t190 sr190 86 2 (M2 := M) (f2 := (106, [some (.ref 116), some (.int (x1)), none, some (.int (x3)), some (.int (x4)), some (.int (x5 + (1 : Int32)))], [])) rfl ⟨(Nat.le_of_ble_eq_true rfl), trivial, trivial⟩ ?_
            exact h
theorem g190_3 {M : sm_M} {x1 : Int32} {x5 : Int32} {K : Int32 → sm_M → Prop} (hS : SH M)  (h : (((iV M 116 4) ≤ x5 → K (iV M 116 56) M) ∧ (¬ (iV M 116 4) ≤ x5 → (vp_in x5 8192) ∧ (((p172_0 M (iV M 118 x5.toNatClampNeg)) = 0 → (((iV M 116 57) ≤ 0 → ∀ M2, SH M2 → M2 = sm_wI M 116 57 (0 : Int32) → (vp_in x5 8192) ∧ sm_cV 191 [.ref 116, .int (iV M2 118 x5.toNatClampNeg), .int (x1)] M2 (fun M5 => SH M5 → sm_w 190 (193, [some (.ref 116), some (.int (x1)), none, none, none, some (.int (x5 + (1 : Int32)))], []) M5 (rI K))) ∧ (¬ (iV M 116 57) ≤ 0 → sm_cV 191 [.ref 116, .int ((32 : Int32)), .int (iV M 116 57)] M (fun M8 => SH M8 → ∀ M11, SH M11 → M11 = sm_wI M8 116 57 (0 : Int32) → (vp_in x5 8192) ∧ sm_cV 191 [.ref 116, .int (iV M11 118 x5.toNatClampNeg), .int (x1)] M11 (fun M14 => SH M14 → sm_w 190 (193, [some (.ref 116), some (.int (x1)), none, none, none, some (.int (x5 + (1 : Int32)))], []) M14 (rI K)))))) ∧ (¬ (p172_0 M (iV M 118 x5.toNatClampNeg)) = 0 → (((iV M 116 56) ≤ 0 → sm_w 190 (193, [some (.ref 116), some (.int (x1)), none, none, none, some (.int (x5 + (1 : Int32)))], []) M (rI K)) ∧ (¬ (iV M 116 56) ≤ 0 → (((iV M 116 57) = 0 → ∀ M17, SH M17 → M17 = sm_wI M 116 57 x1 → sm_w 190 (193, [some (.ref 116), some (.int (x1)), none, none, none, some (.int (x5 + (1 : Int32)))], []) M17 (rI K)) ∧ (¬ (iV M 116 57) = 0 → sm_w 190 (193, [some (.ref 116), some (.int (x1)), none, none, none, some (.int (x5 + (1 : Int32)))], []) M (rI K)))))))))) : sm_w 190 (193, [some (.ref 116), some (.int (x1)), none, none, none, some (.int (x5))], []) M (rI K) := by
  refine sm_w.run t190 sr190 100 4 (M2 := M) (f2 := (if (iV M 116 4) ≤ x5 then 277 else 202, [some (.ref 116), some (.int (x1)), none, none, none, some (.int (x5))], [])) rfl ⟨trivial, trivial, sm_K.g (k_116 hS) (sm_sh.rf _), trivial, trivial⟩ ?_
  refine sm_w.ite (fun hc => ?_) (fun hc => ?_)
  · have h := h.1 hc
    refine sm_w.run t190 sr190 140 2 (M2 := M) (f2 := (281, [some (.ref 116), some (.int (x1)), none, none, none, some (.int (x5))], [.int (iV M 116 56)])) rfl ⟨trivial, sm_K.g (k_116 hS) (sm_sh.rf _), trivial⟩ ?_
    exact sm_w.end t190 sr190 142 (o := .returned (some (.int (iV M 116 56)))) (M2 := M) rfl rfl (by decide) (⟨_, rfl, h⟩)
  · have h := h.2 hc
    refine sm_w.run t190 sr190 104 2 (M2 := M) (f2 := (206, [some (.ref 116), some (.int (x1)), none, none, none, some (.int (x5))], [va_rf (sm_rv M 116 2)])) rfl ⟨trivial, sm_K.g (k_116 hS) (sm_sh.rf _), trivial⟩ ?_
    refine sm_w.fld (r_116_2 hS) ?_
    obtain ⟨c1, h⟩ := h
    refine sm_w.run t190 sr190 106 2 (M2 := M) (f2 := (209, [some (.ref 116), some (.int (x1)), none, none, none, some (.int (x5))], [.int (iV M 118 x5.toNatClampNeg)])) rfl ⟨trivial, sm_K.a2 (k_118 hS) (l_118 hS) c1, trivial⟩ ?_
    refine sm_w.cI t190 sr190 108 (i := 172) (as := [.int (iV M 118 x5.toNatClampNeg)]) (g := (209, [some (.ref 116), some (.int (x1)), none, none, none, some (.int (x5))], [])) rfl ⟨(Nat.le_of_ble_eq_true rfl), (Nat.le_of_ble_eq_true rfl)⟩ (Nat.le_of_ble_eq_true rfl) (by decide) (p172_c hS) (fun vz M2 hz => ?_)
    obtain ⟨hz1, hz2⟩ := hz
    subst hz1
    have hz2 := hz2.symm
    subst hz2
    refine sm_w.run t190 sr190 109 1 (M2 := M) (f2 := (if (p172_0 M (iV M 118 x5.toNatClampNeg)) = 0 then 237 else 215, [some (.ref 116), some (.int (x1)), none, none, none, some (.int (x5))], [])) rfl ⟨trivial, trivial⟩ ?_
    refine sm_w.ite (fun hc => ?_) (fun hc => ?_)
    · have h := h.1 hc
      refine sm_w.run t190 sr190 120 3 (M2 := M) (f2 := (if (iV M 116 57) ≤ 0 then 254 else 244, [some (.ref 116), some (.int (x1)), none, none, none, some (.int (x5))], [])) rfl ⟨trivial, sm_K.g (k_116 hS) (sm_sh.rf _), trivial, trivial⟩ ?_
      refine sm_w.ite (fun hc => ?_) (fun hc => ?_)
      · have h := h.1 hc
        refine sm_w.run t190 sr190 128 3 (M2 := sm_wI M 116 57 (0 : Int32)) (f2 := (259, [some (.ref 116), some (.int (x1)), none, none, none, some (.int (x5))], [])) rfl ⟨trivial, trivial, ⟨(sm_K.p (k_116 hS) (sm_sh.rf _)).1, (sm_K.p (k_116 hS) (sm_sh.rf _)).2.1, (sm_K.p (k_116 hS) (sm_sh.rf _)).2.2, Or.inl rfl⟩, trivial⟩ ?_
        have hS3 : SH (sm_wI M 116 57 (0 : Int32)) := SH.wI hS _ _ _
        have h := h _ hS3 rfl
        generalize sm_wI M 116 57 (0 : Int32) = M2 at h hS3 ⊢
        refine sm_w.run t190 sr190 131 3 (M2 := M2) (f2 := (264, [some (.ref 116), some (.int (x1)), none, none, none, some (.int (x5))], [va_rf (sm_rv M2 116 2), .ref 116])) rfl ⟨trivial, trivial, sm_K.g (k_116 hS3) (sm_sh.rf _), trivial⟩ ?_
        refine sm_w.fld (r_116_2 hS3) ?_
        obtain ⟨c4, h⟩ := h
        refine sm_w.run t190 sr190 134 3 (M2 := M2) (f2 := (268, [some (.ref 116), some (.int (x1)), none, none, none, some (.int (x5))], [.int (x1), .int (iV M2 118 x5.toNatClampNeg), .ref 116])) rfl ⟨trivial, sm_K.a2 (k_118 hS3) (l_118 hS3) c4, trivial, trivial⟩ ?_
        refine sm_w.cV t190 sr190 137 (i := 191) (as := [.ref 116, .int (iV M2 118 x5.toNatClampNeg), .int (x1)]) (g := (268, [some (.ref 116), some (.int (x1)), none, none, none, some (.int (x5))], [])) rfl ⟨by decide, by decide, (Nat.le_of_ble_eq_true rfl), (sm_K.g (k_116 hS3) (sm_sh.rf _)).1, (sm_K.g (k_116 hS3) (sm_sh.rf _)).2, (Nat.le_of_ble_eq_true rfl)⟩ (Nat.le_of_ble_eq_true rfl) (by decide) (sm_cV.s (by decide) hS3 h) (fun M5 h => ?_)
        obtain ⟨hS7, h⟩ := h
        refine sm_w.run t190 sr190 138 2 (M2 := M5) (f2 := (193, [some (.ref 116), some (.int (x1)), none, none, none, some (.int (x5 + (1 : Int32)))], [])) rfl ⟨(Nat.le_of_ble_eq_true rfl), trivial, trivial⟩ ?_
        exact h
      · have h := h.2 hc
        refine sm_w.run t190 sr190 123 4 (M2 := M) (f2 := (251, [some (.ref 116), some (.int (x1)), none, none, none, some (.int (x5))], [.int (iV M 116 57), .int ((32 : Int32)), .ref 116])) rfl ⟨trivial, trivial, trivial, sm_K.g (k_116 hS) (sm_sh.rf _), trivial⟩ ?_
        refine sm_w.cV t190 sr190 127 (i := 191) (as := [.ref 116, .int ((32 : Int32)), .int (iV M 116 57)]) (g := (251, [some (.ref 116), some (.int (x1)), none, none, none, some (.int (x5))], [])) rfl ⟨by decide, by decide, (Nat.le_of_ble_eq_true rfl), (sm_K.g (k_116 hS) (sm_sh.rf _)).1, (sm_K.g (k_116 hS) (sm_sh.rf _)).2, (Nat.le_of_ble_eq_true rfl)⟩ (Nat.le_of_ble_eq_true rfl) (by decide) (sm_cV.s (by decide) hS h) (fun M8 h => ?_)
        obtain ⟨hS10, h⟩ := h
        refine sm_w.run t190 sr190 128 3 (M2 := sm_wI M8 116 57 (0 : Int32)) (f2 := (259, [some (.ref 116), some (.int (x1)), none, none, none, some (.int (x5))], [])) rfl ⟨trivial, trivial, ⟨(sm_K.p (k_116 hS10) (sm_sh.rf _)).1, (sm_K.p (k_116 hS10) (sm_sh.rf _)).2.1, (sm_K.p (k_116 hS10) (sm_sh.rf _)).2.2, Or.inl rfl⟩, trivial⟩ ?_
        have hS12 : SH (sm_wI M8 116 57 (0 : Int32)) := SH.wI hS10 _ _ _
        have h := h _ hS12 rfl
        generalize sm_wI M8 116 57 (0 : Int32) = M11 at h hS12 ⊢
        refine sm_w.run t190 sr190 131 3 (M2 := M11) (f2 := (264, [some (.ref 116), some (.int (x1)), none, none, none, some (.int (x5))], [va_rf (sm_rv M11 116 2), .ref 116])) rfl ⟨trivial, trivial, sm_K.g (k_116 hS12) (sm_sh.rf _), trivial⟩ ?_
        refine sm_w.fld (r_116_2 hS12) ?_
        obtain ⟨c13, h⟩ := h
        refine sm_w.run t190 sr190 134 3 (M2 := M11) (f2 := (268, [some (.ref 116), some (.int (x1)), none, none, none, some (.int (x5))], [.int (x1), .int (iV M11 118 x5.toNatClampNeg), .ref 116])) rfl ⟨trivial, sm_K.a2 (k_118 hS12) (l_118 hS12) c13, trivial, trivial⟩ ?_
        refine sm_w.cV t190 sr190 137 (i := 191) (as := [.ref 116, .int (iV M11 118 x5.toNatClampNeg), .int (x1)]) (g := (268, [some (.ref 116), some (.int (x1)), none, none, none, some (.int (x5))], [])) rfl ⟨by decide, by decide, (Nat.le_of_ble_eq_true rfl), (sm_K.g (k_116 hS12) (sm_sh.rf _)).1, (sm_K.g (k_116 hS12) (sm_sh.rf _)).2, (Nat.le_of_ble_eq_true rfl)⟩ (Nat.le_of_ble_eq_true rfl) (by decide) (sm_cV.s (by decide) hS12 h) (fun M14 h => ?_)
        obtain ⟨hS16, h⟩ := h
        refine sm_w.run t190 sr190 138 2 (M2 := M14) (f2 := (193, [some (.ref 116), some (.int (x1)), none, none, none, some (.int (x5 + (1 : Int32)))], [])) rfl ⟨(Nat.le_of_ble_eq_true rfl), trivial, trivial⟩ ?_
        exact h
    · have h := h.2 hc
      refine sm_w.run t190 sr190 110 3 (M2 := M) (f2 := (if (iV M 116 56) ≤ 0 then 271 else 222, [some (.ref 116), some (.int (x1)), none, none, none, some (.int (x5))], [])) rfl ⟨trivial, sm_K.g (k_116 hS) (sm_sh.rf _), trivial, trivial⟩ ?_
      refine sm_w.ite (fun hc => ?_) (fun hc => ?_)
      · have h := h.1 hc
        refine sm_w.run t190 sr190 138 2 (M2 := M) (f2 := (193, [some (.ref 116), some (.int (x1)), none, none, none, some (.int (x5 + (1 : Int32)))], [])) rfl ⟨(Nat.le_of_ble_eq_true rfl), trivial, trivial⟩ ?_
        exact h
      · have h := h.2 hc
        refine sm_w.run t190 sr190 113 3 (M2 := M) (f2 := (if (iV M 116 57) = 0 then 229 else 271, [some (.ref 116), some (.int (x1)), none, none, none, some (.int (x5))], [])) rfl ⟨trivial, sm_K.g (k_116 hS) (sm_sh.rf _), trivial, trivial⟩ ?_
        refine sm_w.ite (fun hc => ?_) (fun hc => ?_)
        · have h := h.1 hc
          refine sm_w.run t190 sr190 116 3 (M2 := sm_wI M 116 57 x1) (f2 := (234, [some (.ref 116), some (.int (x1)), none, none, none, some (.int (x5))], [])) rfl ⟨trivial, trivial, ⟨(sm_K.p (k_116 hS) (sm_sh.rf _)).1, (sm_K.p (k_116 hS) (sm_sh.rf _)).2.1, (sm_K.p (k_116 hS) (sm_sh.rf _)).2.2, Or.inl rfl⟩, trivial⟩ ?_
          have hS18 : SH (sm_wI M 116 57 x1) := SH.wI hS _ _ _
          have h := h _ hS18 rfl
          generalize sm_wI M 116 57 x1 = M17 at h hS18 ⊢
          refine sm_w.run t190 sr190 119 1 (M2 := M17) (f2 := (271, [some (.ref 116), some (.int (x1)), none, none, none, some (.int (x5))], [])) rfl ⟨trivial, trivial⟩ ?_
          refine sm_w.run t190 sr190 138 2 (M2 := M17) (f2 := (193, [some (.ref 116), some (.int (x1)), none, none, none, some (.int (x5 + (1 : Int32)))], [])) rfl ⟨(Nat.le_of_ble_eq_true rfl), trivial, trivial⟩ ?_
          exact h
        · have h := h.2 hc
          refine sm_w.run t190 sr190 138 2 (M2 := M) (f2 := (193, [some (.ref 116), some (.int (x1)), none, none, none, some (.int (x5 + (1 : Int32)))], [])) rfl ⟨(Nat.le_of_ble_eq_true rfl), trivial, trivial⟩ ?_
          exact h
-- 192 LineSetterModel.clear()I
theorem t192 : sP 192 = (2, sp_192, sh_192) := rfl
theorem sr192 : sm_srt sp_192 = true := by decide +kernel
theorem g192_0 {M : sm_M}  {K : Int32 → sm_M → Prop} (hS : SH M)  (h : ∀ M1, SH M1 → M1 = sm_wI M 116 0 (0 : Int32) → ∀ M3, SH M3 → M3 = sm_wI M1 116 56 (0 : Int32) → ∀ M5, SH M5 → M5 = sm_wI M3 116 57 (0 : Int32) → K (iV M1 116 56) M5) : sm_w 192 (sm_in sP 192 [.ref 116]) M (rI K) := by
  show sm_w 192 (0, [some (.ref 116), none], []) M (rI K)
  refine sm_w.run t192 sr192 0 3 (M2 := sm_wI M 116 0 (0 : Int32)) (f2 := (5, [some (.ref 116), none], [])) rfl ⟨trivial, trivial, ⟨(sm_K.p (k_116 hS) (sm_sh.rf _)).1, (sm_K.p (k_116 hS) (sm_sh.rf _)).2.1, (sm_K.p (k_116 hS) (sm_sh.rf _)).2.2, Or.inl rfl⟩, trivial⟩ ?_
  have hS2 : SH (sm_wI M 116 0 (0 : Int32)) := SH.wI hS _ _ _
  have h := h _ hS2 rfl
  generalize sm_wI M 116 0 (0 : Int32) = M1 at h hS2 ⊢
  refine sm_w.run t192 sr192 3 6 (M2 := sm_wI M1 116 56 (0 : Int32)) (f2 := (15, [some (.ref 116), some (.int (iV M1 116 56))], [])) rfl ⟨trivial, sm_K.g (k_116 hS2) (sm_sh.rf _), (Nat.le_of_ble_eq_true rfl), trivial, trivial, ⟨(sm_K.p (k_116 hS2) (sm_sh.rf _)).1, (sm_K.p (k_116 hS2) (sm_sh.rf _)).2.1, (sm_K.p (k_116 hS2) (sm_sh.rf _)).2.2, Or.inl rfl⟩, trivial⟩ ?_
  have hS4 : SH (sm_wI M1 116 56 (0 : Int32)) := SH.wI hS2 _ _ _
  have h := h _ hS4 rfl
  generalize sm_wI M1 116 56 (0 : Int32) = M3 at h hS4 ⊢
  refine sm_w.run t192 sr192 9 3 (M2 := sm_wI M3 116 57 (0 : Int32)) (f2 := (20, [some (.ref 116), some (.int (iV M1 116 56))], [])) rfl ⟨trivial, trivial, ⟨(sm_K.p (k_116 hS4) (sm_sh.rf _)).1, (sm_K.p (k_116 hS4) (sm_sh.rf _)).2.1, (sm_K.p (k_116 hS4) (sm_sh.rf _)).2.2, Or.inl rfl⟩, trivial⟩ ?_
  have hS6 : SH (sm_wI M3 116 57 (0 : Int32)) := SH.wI hS4 _ _ _
  have h := h _ hS6 rfl
  generalize sm_wI M3 116 57 (0 : Int32) = M5 at h hS6 ⊢
  refine sm_w.run t192 sr192 12 1 (M2 := M5) (f2 := (21, [some (.ref 116), some (.int (iV M1 116 56))], [.int (iV M1 116 56)])) rfl ⟨trivial, trivial⟩ ?_
  exact sm_w.end t192 sr192 13 (o := .returned (some (.int (iV M1 116 56)))) (M2 := M5) rfl rfl (by decide) (⟨_, rfl, h⟩)
-- 195 LineSetterModel.kernAt(II)I
theorem t195 : sP 195 = (4, sp_195, sh_195) := rfl
theorem sr195 : sm_srt sp_195 = true := by decide +kernel
theorem g195_0 {M : sm_M} {x1 : Int32} {x2 : Int32} {K : Int32 → sm_M → Prop} (hS : SH M)  (h : sm_w 195 (2, [some (.ref 116), some (.int (x1)), some (.int (x2)), some (.int ((0 : Int32)))], []) M (rI K)) : sm_w 195 (sm_in sP 195 [.ref 116, .int (x1), .int (x2)]) M (rI K) := by
  show sm_w 195 (0, [some (.ref 116), some (.int (x1)), some (.int (x2)), none], []) M (rI K)
  refine sm_w.run t195 sr195 0 2 (M2 := M) (f2 := (2, [some (.ref 116), some (.int (x1)), some (.int (x2)), some (.int ((0 : Int32)))], [])) rfl ⟨trivial, (Nat.le_of_ble_eq_true rfl), trivial⟩ ?_
  exact h
theorem g195_1 {M : sm_M} {x1 : Int32} {x2 : Int32} {x3 : Int32} {K : Int32 → sm_M → Prop} (hS : SH M)  (h : (((iV M 116 28) ≤ x3 → K (0 : Int32) M) ∧ (¬ (iV M 116 28) ≤ x3 → (vp_in x3 200) ∧ (((iV M 122 x3.toNatClampNeg) = x1 → (vp_in x3 200) ∧ (((iV M 123 x3.toNatClampNeg) = x2 → (vp_in x3 200) ∧ K (iV M 124 x3.toNatClampNeg) M) ∧ (¬ (iV M 123 x3.toNatClampNeg) = x2 → sm_w 195 (2, [some (.ref 116), some (.int (x1)), some (.int (x2)), some (.int (x3 + (1 : Int32)))], []) M (rI K)))) ∧ (¬ (iV M 122 x3.toNatClampNeg) = x1 → sm_w 195 (2, [some (.ref 116), some (.int (x1)), some (.int (x2)), some (.int (x3 + (1 : Int32)))], []) M (rI K)))))) : sm_w 195 (2, [some (.ref 116), some (.int (x1)), some (.int (x2)), some (.int (x3))], []) M (rI K) := by
  refine sm_w.run t195 sr195 2 4 (M2 := M) (f2 := (if (iV M 116 28) ≤ x3 then 43 else 10, [some (.ref 116), some (.int (x1)), some (.int (x2)), some (.int (x3))], [])) rfl ⟨trivial, trivial, sm_K.g (k_116 hS) (sm_sh.rf _), trivial, trivial⟩ ?_
  refine sm_w.ite (fun hc => ?_) (fun hc => ?_)
  · have h := h.1 hc
    refine sm_w.run t195 sr195 25 1 (M2 := M) (f2 := (44, [some (.ref 116), some (.int (x1)), some (.int (x2)), some (.int (x3))], [.int ((0 : Int32))])) rfl ⟨trivial, trivial⟩ ?_
    exact sm_w.end t195 sr195 26 (o := .returned (some (.int ((0 : Int32))))) (M2 := M) rfl rfl (by decide) (⟨_, rfl, h⟩)
  · have h := h.2 hc
    refine sm_w.run t195 sr195 6 2 (M2 := M) (f2 := (14, [some (.ref 116), some (.int (x1)), some (.int (x2)), some (.int (x3))], [va_rf (sm_rv M 116 16)])) rfl ⟨trivial, sm_K.g (k_116 hS) (sm_sh.rf _), trivial⟩ ?_
    refine sm_w.fld (r_116_16 hS) ?_
    obtain ⟨c1, h⟩ := h
    refine sm_w.run t195 sr195 8 4 (M2 := M) (f2 := (if (iV M 122 x3.toNatClampNeg) = x1 then 20 else 37, [some (.ref 116), some (.int (x1)), some (.int (x2)), some (.int (x3))], [])) rfl ⟨trivial, sm_K.a2 (k_122 hS) (l_122 hS) c1, trivial, trivial, trivial⟩ ?_
    refine sm_w.ite (fun hc => ?_) (fun hc => ?_)
    · have h := h.1 hc
      refine sm_w.run t195 sr195 12 2 (M2 := M) (f2 := (24, [some (.ref 116), some (.int (x1)), some (.int (x2)), some (.int (x3))], [va_rf (sm_rv M 116 17)])) rfl ⟨trivial, sm_K.g (k_116 hS) (sm_sh.rf _), trivial⟩ ?_
      refine sm_w.fld (r_116_17 hS) ?_
      obtain ⟨c2, h⟩ := h
      refine sm_w.run t195 sr195 14 4 (M2 := M) (f2 := (if (iV M 123 x3.toNatClampNeg) = x2 then 30 else 37, [some (.ref 116), some (.int (x1)), some (.int (x2)), some (.int (x3))], [])) rfl ⟨trivial, sm_K.a2 (k_123 hS) (l_123 hS) c2, trivial, trivial, trivial⟩ ?_
      refine sm_w.ite (fun hc => ?_) (fun hc => ?_)
      · have h := h.1 hc
        refine sm_w.run t195 sr195 18 2 (M2 := M) (f2 := (34, [some (.ref 116), some (.int (x1)), some (.int (x2)), some (.int (x3))], [va_rf (sm_rv M 116 18)])) rfl ⟨trivial, sm_K.g (k_116 hS) (sm_sh.rf _), trivial⟩ ?_
        refine sm_w.fld (r_116_18 hS) ?_
        obtain ⟨c3, h⟩ := h
        refine sm_w.run t195 sr195 20 2 (M2 := M) (f2 := (36, [some (.ref 116), some (.int (x1)), some (.int (x2)), some (.int (x3))], [.int (iV M 124 x3.toNatClampNeg)])) rfl ⟨trivial, sm_K.a2 (k_124 hS) (l_124 hS) c3, trivial⟩ ?_
        exact sm_w.end t195 sr195 22 (o := .returned (some (.int (iV M 124 x3.toNatClampNeg)))) (M2 := M) rfl rfl (by decide) (⟨_, rfl, h⟩)
      · have h := h.2 hc
        refine sm_w.run t195 sr195 23 2 (M2 := M) (f2 := (2, [some (.ref 116), some (.int (x1)), some (.int (x2)), some (.int (x3 + (1 : Int32)))], [])) rfl ⟨(Nat.le_of_ble_eq_true rfl), trivial, trivial⟩ ?_
        exact h
    · have h := h.2 hc
      refine sm_w.run t195 sr195 23 2 (M2 := M) (f2 := (2, [some (.ref 116), some (.int (x1)), some (.int (x2)), some (.int (x3 + (1 : Int32)))], [])) rfl ⟨(Nat.le_of_ble_eq_true rfl), trivial, trivial⟩ ?_
      exact h
-- 196 LineSetterModel.part(II)J
theorem t196 : sP 196 = (2, sp_196, sh_196) := rfl
theorem sr196 : sm_srt sp_196 = true := by decide +kernel
theorem g196_0 {M : sm_M} {x0 : Int32} {x1 : Int32} {K : Int64 → sm_M → Prop} (hS : SH M)  (h : ((0 ≤ x1 → K ((x0.toInt64 * x1.toInt64) / (1000 : Int64)) M) ∧ (¬ 0 ≤ x1 → K (-((x0.toInt64 * (-x1).toInt64) / (1000 : Int64))) M))) : sm_w 196 (sm_in sP 196 [.int (x0), .int (x1)]) M (rJ K) := by
  show sm_w 196 (0, [some (.int (x0)), some (.int (x1))], []) M (rJ K)
  refine sm_w.run t196 sr196 0 2 (M2 := M) (f2 := (if 0 ≤ x1 then 18 else 4, [some (.int (x0)), some (.int (x1))], [])) rfl ⟨trivial, trivial, trivial⟩ ?_
  refine sm_w.ite (fun hc => ?_) (fun hc => ?_)
  · have h := h.1 hc
    refine sm_w.run t196 sr196 12 7 (M2 := M) (f2 := (27, [some (.int (x0)), some (.int (x1))], [.long ((x0.toInt64 * x1.toInt64) / (1000 : Int64))])) rfl ⟨trivial, trivial, trivial, trivial, trivial, trivial, by decide, trivial⟩ ?_
    exact sm_w.end t196 sr196 19 (o := .returned (some (.long ((x0.toInt64 * x1.toInt64) / (1000 : Int64))))) (M2 := M) rfl trivial (by decide) (⟨_, rfl, h⟩)
  · have h := h.2 hc
    refine sm_w.run t196 sr196 2 10 (M2 := M) (f2 := (27, [some (.int (x0)), some (.int (x1))], [.long (-((x0.toInt64 * (-x1).toInt64) / (1000 : Int64)))])) rfl ⟨trivial, trivial, trivial, trivial, trivial, trivial, trivial, by decide, trivial, trivial, trivial⟩ ?_
    exact sm_w.end t196 sr196 19 (o := .returned (some (.long (-((x0.toInt64 * (-x1).toInt64) / (1000 : Int64)))))) (M2 := M) rfl trivial (by decide) (⟨_, rfl, h⟩)
def p196_0 (M : sm_M) (x0 : Int32) (x1 : Int32) : Int64 := if 0 ≤ x1 then ((x0.toInt64 * x1.toInt64) / (1000 : Int64)) else (-((x0.toInt64 * (-x1).toInt64) / (1000 : Int64)))
theorem p196_c {M : sm_M} {x0 : Int32} {x1 : Int32} (hS : SH M)  : sm_cJ 196 [.int (x0), .int (x1)] M (fun v M2 => v = p196_0 M x0 x1 ∧ M2 = M) := by
  refine g196_0 (K := (fun v M2 => v = p196_0 M x0 x1 ∧ M2 = M)) hS ?_
  refine ⟨fun e1 => ?_, fun e1 => ?_⟩
  · refine ⟨?_, rfl⟩
    unfold p196_0
    rw [if_pos e1]
  · refine ⟨?_, rfl⟩
    unfold p196_0
    rw [if_neg e1]
-- 197 LineSetterModel.joinAt(II)I
theorem t197 : sP 197 = (4, sp_197, sh_197) := rfl
theorem sr197 : sm_srt sp_197 = true := by decide +kernel
theorem g197_0 {M : sm_M} {x1 : Int32} {x2 : Int32} {K : Int32 → sm_M → Prop} (hS : SH M)  (h : sm_w 197 (2, [some (.ref 116), some (.int (x1)), some (.int (x2)), some (.int ((0 : Int32)))], []) M (rI K)) : sm_w 197 (sm_in sP 197 [.ref 116, .int (x1), .int (x2)]) M (rI K) := by
  show sm_w 197 (0, [some (.ref 116), some (.int (x1)), some (.int (x2)), none], []) M (rI K)
  refine sm_w.run t197 sr197 0 2 (M2 := M) (f2 := (2, [some (.ref 116), some (.int (x1)), some (.int (x2)), some (.int ((0 : Int32)))], [])) rfl ⟨trivial, (Nat.le_of_ble_eq_true rfl), trivial⟩ ?_
  exact h
theorem g197_1 {M : sm_M} {x1 : Int32} {x2 : Int32} {x3 : Int32} {K : Int32 → sm_M → Prop} (hS : SH M)  (h : (((iV M 116 29) ≤ x3 → K (-1 : Int32) M) ∧ (¬ (iV M 116 29) ≤ x3 → (vp_in x3 60) ∧ (((iV M 125 x3.toNatClampNeg) = x1 → (vp_in x3 60) ∧ (((iV M 126 x3.toNatClampNeg) = x2 → K x3 M) ∧ (¬ (iV M 126 x3.toNatClampNeg) = x2 → sm_w 197 (2, [some (.ref 116), some (.int (x1)), some (.int (x2)), some (.int (x3 + (1 : Int32)))], []) M (rI K)))) ∧ (¬ (iV M 125 x3.toNatClampNeg) = x1 → sm_w 197 (2, [some (.ref 116), some (.int (x1)), some (.int (x2)), some (.int (x3 + (1 : Int32)))], []) M (rI K)))))) : sm_w 197 (2, [some (.ref 116), some (.int (x1)), some (.int (x2)), some (.int (x3))], []) M (rI K) := by
  refine sm_w.run t197 sr197 2 4 (M2 := M) (f2 := (if (iV M 116 29) ≤ x3 then 38 else 10, [some (.ref 116), some (.int (x1)), some (.int (x2)), some (.int (x3))], [])) rfl ⟨trivial, trivial, sm_K.g (k_116 hS) (sm_sh.rf _), trivial, trivial⟩ ?_
  refine sm_w.ite (fun hc => ?_) (fun hc => ?_)
  · have h := h.1 hc
    refine sm_w.run t197 sr197 22 1 (M2 := M) (f2 := (39, [some (.ref 116), some (.int (x1)), some (.int (x2)), some (.int (x3))], [.int ((-1 : Int32))])) rfl ⟨trivial, trivial⟩ ?_
    exact sm_w.end t197 sr197 23 (o := .returned (some (.int ((-1 : Int32))))) (M2 := M) rfl rfl (by decide) (⟨_, rfl, h⟩)
  · have h := h.2 hc
    refine sm_w.run t197 sr197 6 2 (M2 := M) (f2 := (14, [some (.ref 116), some (.int (x1)), some (.int (x2)), some (.int (x3))], [va_rf (sm_rv M 116 19)])) rfl ⟨trivial, sm_K.g (k_116 hS) (sm_sh.rf _), trivial⟩ ?_
    refine sm_w.fld (r_116_19 hS) ?_
    obtain ⟨c1, h⟩ := h
    refine sm_w.run t197 sr197 8 4 (M2 := M) (f2 := (if (iV M 125 x3.toNatClampNeg) = x1 then 20 else 32, [some (.ref 116), some (.int (x1)), some (.int (x2)), some (.int (x3))], [])) rfl ⟨trivial, sm_K.a2 (k_125 hS) (l_125 hS) c1, trivial, trivial, trivial⟩ ?_
    refine sm_w.ite (fun hc => ?_) (fun hc => ?_)
    · have h := h.1 hc
      refine sm_w.run t197 sr197 12 2 (M2 := M) (f2 := (24, [some (.ref 116), some (.int (x1)), some (.int (x2)), some (.int (x3))], [va_rf (sm_rv M 116 20)])) rfl ⟨trivial, sm_K.g (k_116 hS) (sm_sh.rf _), trivial⟩ ?_
      refine sm_w.fld (r_116_20 hS) ?_
      obtain ⟨c2, h⟩ := h
      refine sm_w.run t197 sr197 14 4 (M2 := M) (f2 := (if (iV M 126 x3.toNatClampNeg) = x2 then 30 else 32, [some (.ref 116), some (.int (x1)), some (.int (x2)), some (.int (x3))], [])) rfl ⟨trivial, sm_K.a2 (k_126 hS) (l_126 hS) c2, trivial, trivial, trivial⟩ ?_
      refine sm_w.ite (fun hc => ?_) (fun hc => ?_)
      · have h := h.1 hc
        refine sm_w.run t197 sr197 18 1 (M2 := M) (f2 := (31, [some (.ref 116), some (.int (x1)), some (.int (x2)), some (.int (x3))], [.int (x3)])) rfl ⟨trivial, trivial⟩ ?_
        exact sm_w.end t197 sr197 19 (o := .returned (some (.int (x3)))) (M2 := M) rfl rfl (by decide) (⟨_, rfl, h⟩)
      · have h := h.2 hc
        refine sm_w.run t197 sr197 20 2 (M2 := M) (f2 := (2, [some (.ref 116), some (.int (x1)), some (.int (x2)), some (.int (x3 + (1 : Int32)))], [])) rfl ⟨(Nat.le_of_ble_eq_true rfl), trivial, trivial⟩ ?_
        exact h
    · have h := h.2 hc
      refine sm_w.run t197 sr197 20 2 (M2 := M) (f2 := (2, [some (.ref 116), some (.int (x1)), some (.int (x2)), some (.int (x3 + (1 : Int32)))], [])) rfl ⟨(Nat.le_of_ble_eq_true rfl), trivial, trivial⟩ ?_
      exact h
