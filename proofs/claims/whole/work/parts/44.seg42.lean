/-! METHODS by their segments. -/
-- 198 LineSetterModel.set(IIIII)I
theorem t198 : sP 198 = (7, sp_198, sh_198) := rfl
theorem sr198 : sm_srt sp_198 = true := by decide +kernel
theorem g198_0 {M : sm_M} {x1 : Int32} {x2 : Int32} {x3 : Int32} {x4 : Int32} {x5 : Int32} {K : Int32 → sm_M → Prop} (hS : SH M)  (h : (((p166_0 M x1.toInt64 (1000 : Int64) (1000000 : Int64)) = 0 → ∀ M4, SH M4 → M4 = sm_wI M 116 0 (1 : Int32) → K (0 : Int32) M4) ∧ (¬ (p166_0 M x1.toInt64 (1000 : Int64) (1000000 : Int64)) = 0 → (((p166_0 M x2.toInt64 (0 : Int64) (500000 : Int64)) = 0 → ∀ M9, SH M9 → M9 = sm_wI M 116 0 (1 : Int32) → K (0 : Int32) M9) ∧ (¬ (p166_0 M x2.toInt64 (0 : Int64) (500000 : Int64)) = 0 → (((p166_0 M x3.toInt64 (0 : Int64) (3 : Int64)) = 0 → ∀ M14, SH M14 → M14 = sm_wI M 116 0 (1 : Int32) → K (0 : Int32) M14) ∧ (¬ (p166_0 M x3.toInt64 (0 : Int64) (3 : Int64)) = 0 → (((p166_0 M x4.toInt64 (0 : Int64) (1 : Int64)) = 0 → ∀ M19, SH M19 → M19 = sm_wI M 116 0 (1 : Int32) → K (0 : Int32) M19) ∧ (¬ (p166_0 M x4.toInt64 (0 : Int64) (1 : Int64)) = 0 → (((p166_0 M x5.toInt64 (1 : Int64) (10000 : Int64)) = 0 → ∀ M24, SH M24 → M24 = sm_wI M 116 0 (1 : Int32) → K (0 : Int32) M24) ∧ (¬ (p166_0 M x5.toInt64 (1 : Int64) (10000 : Int64)) = 0 → (((iV M 116 56) = 0 → ∀ M29, SH M29 → M29 = sm_wI M 116 0 (2 : Int32) → K (0 : Int32) M29) ∧ (¬ (iV M 116 56) = 0 → ((x4 = (1 : Int32) → sm_cV 199 [.ref 116, .int ((1 : Int32))] M (fun M31 => SH M31 → sm_cI 203 [.ref 116] M31 (fun v35 M34 => SH M34 → ((v35 ≤ (600 : Int32) → ∀ M37, SH M37 → M37 = sm_wI M34 116 0 (0 : Int32) → ∀ M39, SH M39 → M39 = sm_wI M37 116 59 (1 : Int32) → ∀ M41, SH M41 → M41 = sm_wI M39 116 60 x1 → ∀ M43, SH M43 → M43 = sm_wI M41 116 61 x2 → ∀ M45, SH M45 → M45 = sm_wI M43 116 62 x3 → sm_w 198 (140, [some (.ref 116), none, none, none, none, some (.int (x5)), some (.int ((0 : Int32)))], []) M45 (rI K)) ∧ (¬ v35 ≤ (600 : Int32) → ∀ M50, SH M50 → M50 = sm_wI M34 116 0 (3 : Int32) → K (0 : Int32) M50))))) ∧ (¬ x4 = (1 : Int32) → sm_cV 199 [.ref 116, .int ((0 : Int32))] M (fun M52 => SH M52 → sm_cI 203 [.ref 116] M52 (fun v56 M55 => SH M55 → ((v56 ≤ (600 : Int32) → ∀ M58, SH M58 → M58 = sm_wI M55 116 0 (0 : Int32) → ∀ M60, SH M60 → M60 = sm_wI M58 116 59 (1 : Int32) → ∀ M62, SH M62 → M62 = sm_wI M60 116 60 x1 → ∀ M64, SH M64 → M64 = sm_wI M62 116 61 x2 → ∀ M66, SH M66 → M66 = sm_wI M64 116 62 x3 → sm_w 198 (140, [some (.ref 116), none, none, none, none, some (.int (x5)), some (.int ((0 : Int32)))], []) M66 (rI K)) ∧ (¬ v56 ≤ (600 : Int32) → ∀ M71, SH M71 → M71 = sm_wI M55 116 0 (3 : Int32) → K (0 : Int32) M71))))))))))))))))))) : sm_w 198 (sm_in sP 198 [.ref 116, .int (x1), .int (x2), .int (x3), .int (x4), .int (x5)]) M (rI K) := by
  show sm_w 198 (0, [some (.ref 116), some (.int (x1)), some (.int (x2)), some (.int (x3)), some (.int (x4)), some (.int (x5)), none], []) M (rI K)
  refine sm_w.run t198 sr198 0 4 (M2 := M) (f2 := (8, [some (.ref 116), some (.int (x1)), some (.int (x2)), some (.int (x3)), some (.int (x4)), some (.int (x5)), none], [.long ((1000000 : Int64)), .long ((1000 : Int64)), .long (x1.toInt64)])) rfl ⟨trivial, trivial, trivial, trivial, trivial⟩ ?_
  refine sm_w.cI t198 sr198 4 (i := 166) (as := [.long (x1.toInt64), .long ((1000 : Int64)), .long ((1000000 : Int64))]) (g := (8, [some (.ref 116), some (.int (x1)), some (.int (x2)), some (.int (x3)), some (.int (x4)), some (.int (x5)), none], [])) rfl ⟨(Nat.le_of_ble_eq_true rfl), (Nat.le_of_ble_eq_true rfl)⟩ (Nat.le_of_ble_eq_true rfl) (by decide) (p166_c hS) (fun vz M2 hz => ?_)
  obtain ⟨hz1, hz2⟩ := hz
  subst hz1
  have hz2 := hz2.symm
  subst hz2
  refine sm_w.run t198 sr198 5 1 (M2 := M) (f2 := (if (p166_0 M x1.toInt64 (1000 : Int64) (1000000 : Int64)) = 0 then 62 else 14, [some (.ref 116), some (.int (x1)), some (.int (x2)), some (.int (x3)), some (.int (x4)), some (.int (x5)), none], [])) rfl ⟨trivial, trivial⟩ ?_
  refine sm_w.ite (fun hc => ?_) (fun hc => ?_)
  · have h := h.1 hc
    refine sm_w.run t198 sr198 30 2 (M2 := M) (f2 := (64, [some (.ref 116), some (.int (x1)), some (.int (x2)), some (.int (x3)), some (.int (x4)), some (.int (x5)), none], [.int ((1 : Int32)), .ref 116])) rfl ⟨trivial, trivial, trivial⟩ ?_
    refine sm_w.cI t198 sr198 32 (i := 163) (as := [.ref 116, .int ((1 : Int32))]) (g := (64, [some (.ref 116), some (.int (x1)), some (.int (x2)), some (.int (x3)), some (.int (x4)), some (.int (x5)), none], [])) rfl ⟨by decide, by decide, (Nat.le_of_ble_eq_true rfl), (sm_K.g (k_116 hS) (sm_sh.rf _)).1, (sm_K.g (k_116 hS) (sm_sh.rf _)).2, (Nat.le_of_ble_eq_true rfl)⟩ (Nat.le_of_ble_eq_true rfl) (by decide) (sm_cI.s2 (by decide) hS (g163_0 (K := fun v2 M1 => K v2 M1) hS h)) (fun v2 M1 h => ?_)
    obtain ⟨hS3, h⟩ := h
    exact sm_w.end t198 sr198 33 (o := .returned (some (.int (v2)))) (M2 := M1) rfl rfl (by decide) (⟨_, rfl, h⟩)
  · have h := h.2 hc
    refine sm_w.run t198 sr198 6 4 (M2 := M) (f2 := (20, [some (.ref 116), some (.int (x1)), some (.int (x2)), some (.int (x3)), some (.int (x4)), some (.int (x5)), none], [.long ((500000 : Int64)), .long ((0 : Int64)), .long (x2.toInt64)])) rfl ⟨trivial, trivial, trivial, trivial, trivial⟩ ?_
    refine sm_w.cI t198 sr198 10 (i := 166) (as := [.long (x2.toInt64), .long ((0 : Int64)), .long ((500000 : Int64))]) (g := (20, [some (.ref 116), some (.int (x1)), some (.int (x2)), some (.int (x3)), some (.int (x4)), some (.int (x5)), none], [])) rfl ⟨(Nat.le_of_ble_eq_true rfl), (Nat.le_of_ble_eq_true rfl)⟩ (Nat.le_of_ble_eq_true rfl) (by decide) (p166_c hS) (fun vz M2 hz => ?_)
    obtain ⟨hz1, hz2⟩ := hz
    subst hz1
    have hz2 := hz2.symm
    subst hz2
    refine sm_w.run t198 sr198 11 1 (M2 := M) (f2 := (if (p166_0 M x2.toInt64 (0 : Int64) (500000 : Int64)) = 0 then 62 else 26, [some (.ref 116), some (.int (x1)), some (.int (x2)), some (.int (x3)), some (.int (x4)), some (.int (x5)), none], [])) rfl ⟨trivial, trivial⟩ ?_
    refine sm_w.ite (fun hc => ?_) (fun hc => ?_)
    · have h := h.1 hc
      refine sm_w.run t198 sr198 30 2 (M2 := M) (f2 := (64, [some (.ref 116), some (.int (x1)), some (.int (x2)), some (.int (x3)), some (.int (x4)), some (.int (x5)), none], [.int ((1 : Int32)), .ref 116])) rfl ⟨trivial, trivial, trivial⟩ ?_
      refine sm_w.cI t198 sr198 32 (i := 163) (as := [.ref 116, .int ((1 : Int32))]) (g := (64, [some (.ref 116), some (.int (x1)), some (.int (x2)), some (.int (x3)), some (.int (x4)), some (.int (x5)), none], [])) rfl ⟨by decide, by decide, (Nat.le_of_ble_eq_true rfl), (sm_K.g (k_116 hS) (sm_sh.rf _)).1, (sm_K.g (k_116 hS) (sm_sh.rf _)).2, (Nat.le_of_ble_eq_true rfl)⟩ (Nat.le_of_ble_eq_true rfl) (by decide) (sm_cI.s2 (by decide) hS (g163_0 (K := fun v7 M6 => K v7 M6) hS h)) (fun v7 M6 h => ?_)
      obtain ⟨hS8, h⟩ := h
      exact sm_w.end t198 sr198 33 (o := .returned (some (.int (v7)))) (M2 := M6) rfl rfl (by decide) (⟨_, rfl, h⟩)
    · have h := h.2 hc
      refine sm_w.run t198 sr198 12 4 (M2 := M) (f2 := (32, [some (.ref 116), some (.int (x1)), some (.int (x2)), some (.int (x3)), some (.int (x4)), some (.int (x5)), none], [.long ((3 : Int64)), .long ((0 : Int64)), .long (x3.toInt64)])) rfl ⟨trivial, trivial, trivial, trivial, trivial⟩ ?_
      refine sm_w.cI t198 sr198 16 (i := 166) (as := [.long (x3.toInt64), .long ((0 : Int64)), .long ((3 : Int64))]) (g := (32, [some (.ref 116), some (.int (x1)), some (.int (x2)), some (.int (x3)), some (.int (x4)), some (.int (x5)), none], [])) rfl ⟨(Nat.le_of_ble_eq_true rfl), (Nat.le_of_ble_eq_true rfl)⟩ (Nat.le_of_ble_eq_true rfl) (by decide) (p166_c hS) (fun vz M2 hz => ?_)
      obtain ⟨hz1, hz2⟩ := hz
      subst hz1
      have hz2 := hz2.symm
      subst hz2
      refine sm_w.run t198 sr198 17 1 (M2 := M) (f2 := (if (p166_0 M x3.toInt64 (0 : Int64) (3 : Int64)) = 0 then 62 else 38, [some (.ref 116), some (.int (x1)), some (.int (x2)), some (.int (x3)), some (.int (x4)), some (.int (x5)), none], [])) rfl ⟨trivial, trivial⟩ ?_
      refine sm_w.ite (fun hc => ?_) (fun hc => ?_)
      · have h := h.1 hc
        refine sm_w.run t198 sr198 30 2 (M2 := M) (f2 := (64, [some (.ref 116), some (.int (x1)), some (.int (x2)), some (.int (x3)), some (.int (x4)), some (.int (x5)), none], [.int ((1 : Int32)), .ref 116])) rfl ⟨trivial, trivial, trivial⟩ ?_
        refine sm_w.cI t198 sr198 32 (i := 163) (as := [.ref 116, .int ((1 : Int32))]) (g := (64, [some (.ref 116), some (.int (x1)), some (.int (x2)), some (.int (x3)), some (.int (x4)), some (.int (x5)), none], [])) rfl ⟨by decide, by decide, (Nat.le_of_ble_eq_true rfl), (sm_K.g (k_116 hS) (sm_sh.rf _)).1, (sm_K.g (k_116 hS) (sm_sh.rf _)).2, (Nat.le_of_ble_eq_true rfl)⟩ (Nat.le_of_ble_eq_true rfl) (by decide) (sm_cI.s2 (by decide) hS (g163_0 (K := fun v12 M11 => K v12 M11) hS h)) (fun v12 M11 h => ?_)
        obtain ⟨hS13, h⟩ := h
        exact sm_w.end t198 sr198 33 (o := .returned (some (.int (v12)))) (M2 := M11) rfl rfl (by decide) (⟨_, rfl, h⟩)
      · have h := h.2 hc
        refine sm_w.run t198 sr198 18 4 (M2 := M) (f2 := (43, [some (.ref 116), some (.int (x1)), some (.int (x2)), some (.int (x3)), some (.int (x4)), some (.int (x5)), none], [.long ((1 : Int64)), .long ((0 : Int64)), .long (x4.toInt64)])) rfl ⟨trivial, trivial, trivial, trivial, trivial⟩ ?_
        refine sm_w.cI t198 sr198 22 (i := 166) (as := [.long (x4.toInt64), .long ((0 : Int64)), .long ((1 : Int64))]) (g := (43, [some (.ref 116), some (.int (x1)), some (.int (x2)), some (.int (x3)), some (.int (x4)), some (.int (x5)), none], [])) rfl ⟨(Nat.le_of_ble_eq_true rfl), (Nat.le_of_ble_eq_true rfl)⟩ (Nat.le_of_ble_eq_true rfl) (by decide) (p166_c hS) (fun vz M2 hz => ?_)
        obtain ⟨hz1, hz2⟩ := hz
        subst hz1
        have hz2 := hz2.symm
        subst hz2
        refine sm_w.run t198 sr198 23 1 (M2 := M) (f2 := (if (p166_0 M x4.toInt64 (0 : Int64) (1 : Int64)) = 0 then 62 else 49, [some (.ref 116), some (.int (x1)), some (.int (x2)), some (.int (x3)), some (.int (x4)), some (.int (x5)), none], [])) rfl ⟨trivial, trivial⟩ ?_
        refine sm_w.ite (fun hc => ?_) (fun hc => ?_)
        · have h := h.1 hc
          refine sm_w.run t198 sr198 30 2 (M2 := M) (f2 := (64, [some (.ref 116), some (.int (x1)), some (.int (x2)), some (.int (x3)), some (.int (x4)), some (.int (x5)), none], [.int ((1 : Int32)), .ref 116])) rfl ⟨trivial, trivial, trivial⟩ ?_
          refine sm_w.cI t198 sr198 32 (i := 163) (as := [.ref 116, .int ((1 : Int32))]) (g := (64, [some (.ref 116), some (.int (x1)), some (.int (x2)), some (.int (x3)), some (.int (x4)), some (.int (x5)), none], [])) rfl ⟨by decide, by decide, (Nat.le_of_ble_eq_true rfl), (sm_K.g (k_116 hS) (sm_sh.rf _)).1, (sm_K.g (k_116 hS) (sm_sh.rf _)).2, (Nat.le_of_ble_eq_true rfl)⟩ (Nat.le_of_ble_eq_true rfl) (by decide) (sm_cI.s2 (by decide) hS (g163_0 (K := fun v17 M16 => K v17 M16) hS h)) (fun v17 M16 h => ?_)
          obtain ⟨hS18, h⟩ := h
          exact sm_w.end t198 sr198 33 (o := .returned (some (.int (v17)))) (M2 := M16) rfl rfl (by decide) (⟨_, rfl, h⟩)
        · have h := h.2 hc
          refine sm_w.run t198 sr198 24 4 (M2 := M) (f2 := (56, [some (.ref 116), some (.int (x1)), some (.int (x2)), some (.int (x3)), some (.int (x4)), some (.int (x5)), none], [.long ((10000 : Int64)), .long ((1 : Int64)), .long (x5.toInt64)])) rfl ⟨trivial, trivial, trivial, trivial, trivial⟩ ?_
          refine sm_w.cI t198 sr198 28 (i := 166) (as := [.long (x5.toInt64), .long ((1 : Int64)), .long ((10000 : Int64))]) (g := (56, [some (.ref 116), some (.int (x1)), some (.int (x2)), some (.int (x3)), some (.int (x4)), some (.int (x5)), none], [])) rfl ⟨(Nat.le_of_ble_eq_true rfl), (Nat.le_of_ble_eq_true rfl)⟩ (Nat.le_of_ble_eq_true rfl) (by decide) (p166_c hS) (fun vz M2 hz => ?_)
          obtain ⟨hz1, hz2⟩ := hz
          subst hz1
          have hz2 := hz2.symm
          subst hz2
          refine sm_w.run t198 sr198 29 1 (M2 := M) (f2 := (if (p166_0 M x5.toInt64 (1 : Int64) (10000 : Int64)) = 0 then 62 else 68, [some (.ref 116), some (.int (x1)), some (.int (x2)), some (.int (x3)), some (.int (x4)), some (.int (x5)), none], [])) rfl ⟨trivial, trivial⟩ ?_
          refine sm_w.ite (fun hc => ?_) (fun hc => ?_)
          · have h := h.1 hc
            refine sm_w.run t198 sr198 30 2 (M2 := M) (f2 := (64, [some (.ref 116), some (.int (x1)), some (.int (x2)), some (.int (x3)), some (.int (x4)), some (.int (x5)), none], [.int ((1 : Int32)), .ref 116])) rfl ⟨trivial, trivial, trivial⟩ ?_
            refine sm_w.cI t198 sr198 32 (i := 163) (as := [.ref 116, .int ((1 : Int32))]) (g := (64, [some (.ref 116), some (.int (x1)), some (.int (x2)), some (.int (x3)), some (.int (x4)), some (.int (x5)), none], [])) rfl ⟨by decide, by decide, (Nat.le_of_ble_eq_true rfl), (sm_K.g (k_116 hS) (sm_sh.rf _)).1, (sm_K.g (k_116 hS) (sm_sh.rf _)).2, (Nat.le_of_ble_eq_true rfl)⟩ (Nat.le_of_ble_eq_true rfl) (by decide) (sm_cI.s2 (by decide) hS (g163_0 (K := fun v22 M21 => K v22 M21) hS h)) (fun v22 M21 h => ?_)
            obtain ⟨hS23, h⟩ := h
            exact sm_w.end t198 sr198 33 (o := .returned (some (.int (v22)))) (M2 := M21) rfl rfl (by decide) (⟨_, rfl, h⟩)
          · have h := h.2 hc
            refine sm_w.run t198 sr198 34 3 (M2 := M) (f2 := (if (iV M 116 56) = 0 then 75 else 81, [some (.ref 116), some (.int (x1)), some (.int (x2)), some (.int (x3)), some (.int (x4)), some (.int (x5)), none], [])) rfl ⟨trivial, sm_K.g (k_116 hS) (sm_sh.rf _), trivial, trivial⟩ ?_
            refine sm_w.ite (fun hc => ?_) (fun hc => ?_)
            · have h := h.1 hc
              refine sm_w.run t198 sr198 37 2 (M2 := M) (f2 := (77, [some (.ref 116), some (.int (x1)), some (.int (x2)), some (.int (x3)), some (.int (x4)), some (.int (x5)), none], [.int ((2 : Int32)), .ref 116])) rfl ⟨trivial, trivial, trivial⟩ ?_
              refine sm_w.cI t198 sr198 39 (i := 163) (as := [.ref 116, .int ((2 : Int32))]) (g := (77, [some (.ref 116), some (.int (x1)), some (.int (x2)), some (.int (x3)), some (.int (x4)), some (.int (x5)), none], [])) rfl ⟨by decide, by decide, (Nat.le_of_ble_eq_true rfl), (sm_K.g (k_116 hS) (sm_sh.rf _)).1, (sm_K.g (k_116 hS) (sm_sh.rf _)).2, (Nat.le_of_ble_eq_true rfl)⟩ (Nat.le_of_ble_eq_true rfl) (by decide) (sm_cI.s2 (by decide) hS (g163_0 (K := fun v27 M26 => K v27 M26) hS h)) (fun v27 M26 h => ?_)
              obtain ⟨hS28, h⟩ := h
              exact sm_w.end t198 sr198 40 (o := .returned (some (.int (v27)))) (M2 := M26) rfl rfl (by decide) (⟨_, rfl, h⟩)
            · have h := h.2 hc
              refine sm_w.run t198 sr198 41 4 (M2 := M) (f2 := (if x4 = (1 : Int32) then 88 else 92, [some (.ref 116), some (.int (x1)), some (.int (x2)), some (.int (x3)), some (.int (x4)), some (.int (x5)), none], [.ref 116])) rfl ⟨trivial, trivial, trivial, trivial, trivial⟩ ?_
              refine sm_w.ite (fun hc => ?_) (fun hc => ?_)
              · have h := h.1 hc
                refine sm_w.run t198 sr198 45 2 (M2 := M) (f2 := (93, [some (.ref 116), some (.int (x1)), some (.int (x2)), some (.int (x3)), some (.int (x4)), some (.int (x5)), none], [.int ((1 : Int32)), .ref 116])) rfl ⟨trivial, trivial, trivial⟩ ?_
                refine sm_w.cV t198 sr198 48 (i := 199) (as := [.ref 116, .int ((1 : Int32))]) (g := (93, [some (.ref 116), some (.int (x1)), some (.int (x2)), some (.int (x3)), some (.int (x4)), some (.int (x5)), none], [])) rfl ⟨by decide, by decide, (Nat.le_of_ble_eq_true rfl), (sm_K.g (k_116 hS) (sm_sh.rf _)).1, (sm_K.g (k_116 hS) (sm_sh.rf _)).2, (Nat.le_of_ble_eq_true rfl)⟩ (Nat.le_of_ble_eq_true rfl) (by decide) (sm_cV.s (by decide) hS h) (fun M31 h => ?_)
                obtain ⟨hS33, h⟩ := h
                refine sm_w.run t198 sr198 49 1 (M2 := M31) (f2 := (97, [some (.ref 116), some (.int (x1)), some (.int (x2)), some (.int (x3)), some (.int (x4)), some (.int (x5)), none], [.ref 116])) rfl ⟨trivial, trivial⟩ ?_
                refine sm_w.cI t198 sr198 50 (i := 203) (as := [.ref 116]) (g := (97, [some (.ref 116), some (.int (x1)), some (.int (x2)), some (.int (x3)), some (.int (x4)), some (.int (x5)), none], [])) rfl ⟨by decide, by decide, (Nat.le_of_ble_eq_true rfl), (sm_K.g (k_116 hS33) (sm_sh.rf _)).1, (sm_K.g (k_116 hS33) (sm_sh.rf _)).2, (Nat.le_of_ble_eq_true rfl)⟩ (Nat.le_of_ble_eq_true rfl) (by decide) (sm_cI.s (by decide) hS33 h) (fun v35 M34 h => ?_)
                obtain ⟨hS36, h⟩ := h
                refine sm_w.run t198 sr198 51 2 (M2 := M34) (f2 := (if v35 ≤ (600 : Int32) then 112 else 106, [some (.ref 116), some (.int (x1)), some (.int (x2)), some (.int (x3)), some (.int (x4)), some (.int (x5)), none], [])) rfl ⟨trivial, trivial, trivial⟩ ?_
                refine sm_w.ite (fun hc => ?_) (fun hc => ?_)
                · have h := h.1 hc
                  refine sm_w.run t198 sr198 57 3 (M2 := sm_wI M34 116 0 (0 : Int32)) (f2 := (117, [some (.ref 116), some (.int (x1)), some (.int (x2)), some (.int (x3)), some (.int (x4)), some (.int (x5)), none], [])) rfl ⟨trivial, trivial, ⟨(sm_K.p (k_116 hS36) (sm_sh.rf _)).1, (sm_K.p (k_116 hS36) (sm_sh.rf _)).2.1, (sm_K.p (k_116 hS36) (sm_sh.rf _)).2.2, Or.inl rfl⟩, trivial⟩ ?_
                  have hS38 : SH (sm_wI M34 116 0 (0 : Int32)) := SH.wI hS36 _ _ _
                  have h := h _ hS38 rfl
                  generalize sm_wI M34 116 0 (0 : Int32) = M37 at h hS38 ⊢
                  refine sm_w.run t198 sr198 60 3 (M2 := sm_wI M37 116 59 (1 : Int32)) (f2 := (122, [some (.ref 116), some (.int (x1)), some (.int (x2)), some (.int (x3)), some (.int (x4)), some (.int (x5)), none], [])) rfl ⟨trivial, trivial, ⟨(sm_K.p (k_116 hS38) (sm_sh.rf _)).1, (sm_K.p (k_116 hS38) (sm_sh.rf _)).2.1, (sm_K.p (k_116 hS38) (sm_sh.rf _)).2.2, Or.inr ⟨rfl, Or.inr rfl⟩⟩, trivial⟩ ?_
                  have hS40 : SH (sm_wI M37 116 59 (1 : Int32)) := SH.wI hS38 _ _ _
                  have h := h _ hS40 rfl
                  generalize sm_wI M37 116 59 (1 : Int32) = M39 at h hS40 ⊢
                  refine sm_w.run t198 sr198 63 3 (M2 := sm_wI M39 116 60 x1) (f2 := (127, [some (.ref 116), some (.int (x1)), some (.int (x2)), some (.int (x3)), some (.int (x4)), some (.int (x5)), none], [])) rfl ⟨trivial, trivial, ⟨(sm_K.p (k_116 hS40) (sm_sh.rf _)).1, (sm_K.p (k_116 hS40) (sm_sh.rf _)).2.1, (sm_K.p (k_116 hS40) (sm_sh.rf _)).2.2, Or.inl rfl⟩, trivial⟩ ?_
                  have hS42 : SH (sm_wI M39 116 60 x1) := SH.wI hS40 _ _ _
                  have h := h _ hS42 rfl
                  generalize sm_wI M39 116 60 x1 = M41 at h hS42 ⊢
                  refine sm_w.run t198 sr198 66 3 (M2 := sm_wI M41 116 61 x2) (f2 := (132, [some (.ref 116), some (.int (x1)), some (.int (x2)), some (.int (x3)), some (.int (x4)), some (.int (x5)), none], [])) rfl ⟨trivial, trivial, ⟨(sm_K.p (k_116 hS42) (sm_sh.rf _)).1, (sm_K.p (k_116 hS42) (sm_sh.rf _)).2.1, (sm_K.p (k_116 hS42) (sm_sh.rf _)).2.2, Or.inl rfl⟩, trivial⟩ ?_
                  have hS44 : SH (sm_wI M41 116 61 x2) := SH.wI hS42 _ _ _
                  have h := h _ hS44 rfl
                  generalize sm_wI M41 116 61 x2 = M43 at h hS44 ⊢
                  refine sm_w.run t198 sr198 69 3 (M2 := sm_wI M43 116 62 x3) (f2 := (137, [some (.ref 116), some (.int (x1)), some (.int (x2)), some (.int (x3)), some (.int (x4)), some (.int (x5)), none], [])) rfl ⟨trivial, trivial, ⟨(sm_K.p (k_116 hS44) (sm_sh.rf _)).1, (sm_K.p (k_116 hS44) (sm_sh.rf _)).2.1, (sm_K.p (k_116 hS44) (sm_sh.rf _)).2.2, Or.inl rfl⟩, trivial⟩ ?_
                  have hS46 : SH (sm_wI M43 116 62 x3) := SH.wI hS44 _ _ _
                  have h := h _ hS46 rfl
                  generalize sm_wI M43 116 62 x3 = M45 at h hS46 ⊢
                  refine sm_w.run t198 sr198 72 2 (M2 := M45) (f2 := (140, [some (.ref 116), some (.int (x1)), some (.int (x2)), some (.int (x3)), some (.int (x4)), some (.int (x5)), some (.int ((0 : Int32)))], [])) rfl ⟨trivial, (Nat.le_of_ble_eq_true rfl), trivial⟩ ?_
                  refine sm_w.weak (ls := [some (.ref 116), none, none, none, none, some (.int (x5)), some (.int ((0 : Int32)))]) (sm_leI [true, false, false, false, false, true, true] rfl) ?_
                  exact h
                · have h := h.2 hc
                  refine sm_w.run t198 sr198 53 2 (M2 := M34) (f2 := (108, [some (.ref 116), some (.int (x1)), some (.int (x2)), some (.int (x3)), some (.int (x4)), some (.int (x5)), none], [.int ((3 : Int32)), .ref 116])) rfl ⟨trivial, trivial, trivial⟩ ?_
                  refine sm_w.cI t198 sr198 55 (i := 163) (as := [.ref 116, .int ((3 : Int32))]) (g := (108, [some (.ref 116), some (.int (x1)), some (.int (x2)), some (.int (x3)), some (.int (x4)), some (.int (x5)), none], [])) rfl ⟨by decide, by decide, (Nat.le_of_ble_eq_true rfl), (sm_K.g (k_116 hS36) (sm_sh.rf _)).1, (sm_K.g (k_116 hS36) (sm_sh.rf _)).2, (Nat.le_of_ble_eq_true rfl)⟩ (Nat.le_of_ble_eq_true rfl) (by decide) (sm_cI.s2 (by decide) hS36 (g163_0 (K := fun v48 M47 => K v48 M47) hS36 h)) (fun v48 M47 h => ?_)
                  obtain ⟨hS49, h⟩ := h
                  exact sm_w.end t198 sr198 56 (o := .returned (some (.int (v48)))) (M2 := M47) rfl rfl (by decide) (⟨_, rfl, h⟩)
              · have h := h.2 hc
                refine sm_w.run t198 sr198 47 1 (M2 := M) (f2 := (93, [some (.ref 116), some (.int (x1)), some (.int (x2)), some (.int (x3)), some (.int (x4)), some (.int (x5)), none], [.int ((0 : Int32)), .ref 116])) rfl ⟨trivial, trivial⟩ ?_
                refine sm_w.cV t198 sr198 48 (i := 199) (as := [.ref 116, .int ((0 : Int32))]) (g := (93, [some (.ref 116), some (.int (x1)), some (.int (x2)), some (.int (x3)), some (.int (x4)), some (.int (x5)), none], [])) rfl ⟨by decide, by decide, (Nat.le_of_ble_eq_true rfl), (sm_K.g (k_116 hS) (sm_sh.rf _)).1, (sm_K.g (k_116 hS) (sm_sh.rf _)).2, (Nat.le_of_ble_eq_true rfl)⟩ (Nat.le_of_ble_eq_true rfl) (by decide) (sm_cV.s (by decide) hS h) (fun M52 h => ?_)
                obtain ⟨hS54, h⟩ := h
                refine sm_w.run t198 sr198 49 1 (M2 := M52) (f2 := (97, [some (.ref 116), some (.int (x1)), some (.int (x2)), some (.int (x3)), some (.int (x4)), some (.int (x5)), none], [.ref 116])) rfl ⟨trivial, trivial⟩ ?_
                refine sm_w.cI t198 sr198 50 (i := 203) (as := [.ref 116]) (g := (97, [some (.ref 116), some (.int (x1)), some (.int (x2)), some (.int (x3)), some (.int (x4)), some (.int (x5)), none], [])) rfl ⟨by decide, by decide, (Nat.le_of_ble_eq_true rfl), (sm_K.g (k_116 hS54) (sm_sh.rf _)).1, (sm_K.g (k_116 hS54) (sm_sh.rf _)).2, (Nat.le_of_ble_eq_true rfl)⟩ (Nat.le_of_ble_eq_true rfl) (by decide) (sm_cI.s (by decide) hS54 h) (fun v56 M55 h => ?_)
                obtain ⟨hS57, h⟩ := h
                refine sm_w.run t198 sr198 51 2 (M2 := M55) (f2 := (if v56 ≤ (600 : Int32) then 112 else 106, [some (.ref 116), some (.int (x1)), some (.int (x2)), some (.int (x3)), some (.int (x4)), some (.int (x5)), none], [])) rfl ⟨trivial, trivial, trivial⟩ ?_
                refine sm_w.ite (fun hc => ?_) (fun hc => ?_)
                · have h := h.1 hc
                  refine sm_w.run t198 sr198 57 3 (M2 := sm_wI M55 116 0 (0 : Int32)) (f2 := (117, [some (.ref 116), some (.int (x1)), some (.int (x2)), some (.int (x3)), some (.int (x4)), some (.int (x5)), none], [])) rfl ⟨trivial, trivial, ⟨(sm_K.p (k_116 hS57) (sm_sh.rf _)).1, (sm_K.p (k_116 hS57) (sm_sh.rf _)).2.1, (sm_K.p (k_116 hS57) (sm_sh.rf _)).2.2, Or.inl rfl⟩, trivial⟩ ?_
                  have hS59 : SH (sm_wI M55 116 0 (0 : Int32)) := SH.wI hS57 _ _ _
                  have h := h _ hS59 rfl
                  generalize sm_wI M55 116 0 (0 : Int32) = M58 at h hS59 ⊢
                  refine sm_w.run t198 sr198 60 3 (M2 := sm_wI M58 116 59 (1 : Int32)) (f2 := (122, [some (.ref 116), some (.int (x1)), some (.int (x2)), some (.int (x3)), some (.int (x4)), some (.int (x5)), none], [])) rfl ⟨trivial, trivial, ⟨(sm_K.p (k_116 hS59) (sm_sh.rf _)).1, (sm_K.p (k_116 hS59) (sm_sh.rf _)).2.1, (sm_K.p (k_116 hS59) (sm_sh.rf _)).2.2, Or.inr ⟨rfl, Or.inr rfl⟩⟩, trivial⟩ ?_
                  have hS61 : SH (sm_wI M58 116 59 (1 : Int32)) := SH.wI hS59 _ _ _
                  have h := h _ hS61 rfl
                  generalize sm_wI M58 116 59 (1 : Int32) = M60 at h hS61 ⊢
                  refine sm_w.run t198 sr198 63 3 (M2 := sm_wI M60 116 60 x1) (f2 := (127, [some (.ref 116), some (.int (x1)), some (.int (x2)), some (.int (x3)), some (.int (x4)), some (.int (x5)), none], [])) rfl ⟨trivial, trivial, ⟨(sm_K.p (k_116 hS61) (sm_sh.rf _)).1, (sm_K.p (k_116 hS61) (sm_sh.rf _)).2.1, (sm_K.p (k_116 hS61) (sm_sh.rf _)).2.2, Or.inl rfl⟩, trivial⟩ ?_
                  have hS63 : SH (sm_wI M60 116 60 x1) := SH.wI hS61 _ _ _
                  have h := h _ hS63 rfl
                  generalize sm_wI M60 116 60 x1 = M62 at h hS63 ⊢
                  refine sm_w.run t198 sr198 66 3 (M2 := sm_wI M62 116 61 x2) (f2 := (132, [some (.ref 116), some (.int (x1)), some (.int (x2)), some (.int (x3)), some (.int (x4)), some (.int (x5)), none], [])) rfl ⟨trivial, trivial, ⟨(sm_K.p (k_116 hS63) (sm_sh.rf _)).1, (sm_K.p (k_116 hS63) (sm_sh.rf _)).2.1, (sm_K.p (k_116 hS63) (sm_sh.rf _)).2.2, Or.inl rfl⟩, trivial⟩ ?_
                  have hS65 : SH (sm_wI M62 116 61 x2) := SH.wI hS63 _ _ _
                  have h := h _ hS65 rfl
                  generalize sm_wI M62 116 61 x2 = M64 at h hS65 ⊢
                  refine sm_w.run t198 sr198 69 3 (M2 := sm_wI M64 116 62 x3) (f2 := (137, [some (.ref 116), some (.int (x1)), some (.int (x2)), some (.int (x3)), some (.int (x4)), some (.int (x5)), none], [])) rfl ⟨trivial, trivial, ⟨(sm_K.p (k_116 hS65) (sm_sh.rf _)).1, (sm_K.p (k_116 hS65) (sm_sh.rf _)).2.1, (sm_K.p (k_116 hS65) (sm_sh.rf _)).2.2, Or.inl rfl⟩, trivial⟩ ?_
                  have hS67 : SH (sm_wI M64 116 62 x3) := SH.wI hS65 _ _ _
                  have h := h _ hS67 rfl
                  generalize sm_wI M64 116 62 x3 = M66 at h hS67 ⊢
                  refine sm_w.run t198 sr198 72 2 (M2 := M66) (f2 := (140, [some (.ref 116), some (.int (x1)), some (.int (x2)), some (.int (x3)), some (.int (x4)), some (.int (x5)), some (.int ((0 : Int32)))], [])) rfl ⟨trivial, (Nat.le_of_ble_eq_true rfl), trivial⟩ ?_
                  refine sm_w.weak (ls := [some (.ref 116), none, none, none, none, some (.int (x5)), some (.int ((0 : Int32)))]) (sm_leI [true, false, false, false, false, true, true] rfl) ?_
                  exact h
                · have h := h.2 hc
                  refine sm_w.run t198 sr198 53 2 (M2 := M55) (f2 := (108, [some (.ref 116), some (.int (x1)), some (.int (x2)), some (.int (x3)), some (.int (x4)), some (.int (x5)), none], [.int ((3 : Int32)), .ref 116])) rfl ⟨trivial, trivial, trivial⟩ ?_
                  refine sm_w.cI t198 sr198 55 (i := 163) (as := [.ref 116, .int ((3 : Int32))]) (g := (108, [some (.ref 116), some (.int (x1)), some (.int (x2)), some (.int (x3)), some (.int (x4)), some (.int (x5)), none], [])) rfl ⟨by decide, by decide, (Nat.le_of_ble_eq_true rfl), (sm_K.g (k_116 hS57) (sm_sh.rf _)).1, (sm_K.g (k_116 hS57) (sm_sh.rf _)).2, (Nat.le_of_ble_eq_true rfl)⟩ (Nat.le_of_ble_eq_true rfl) (by decide) (sm_cI.s2 (by decide) hS57 (g163_0 (K := fun v69 M68 => K v69 M68) hS57 h)) (fun v69 M68 h => ?_)
                  obtain ⟨hS70, h⟩ := h
                  exact sm_w.end t198 sr198 56 (o := .returned (some (.int (v69)))) (M2 := M68) rfl rfl (by decide) (⟨_, rfl, h⟩)
theorem g198_1 {M : sm_M} {x5 : Int32} {x6 : Int32} {K : Int32 → sm_M → Prop} (hS : SH M)  (h : (((iV M 116 56) ≤ x6 → ∀ M1, SH M1 → M1 = sm_wI M 116 69 (iV M 116 56) → sm_cV 205 [.ref 116] M1 (fun M3 => SH M3 → ∀ M6, SH M6 → M6 = sm_wI M3 116 65 x5 → sm_cI 206 [.ref 116, .int (x5), .int ((0 : Int32))] M6 (fun v9 M8 => SH M8 → ((v9 = 0 → ∀ M11, SH M11 → M11 = sm_wI M8 116 65 (10000 : Int32) → sm_cI 206 [.ref 116, .int ((10000 : Int32)), .int ((0 : Int32))] M11 (fun v14 M13 => SH M13 → ((v14 = 0 → ∀ M16, SH M16 → M16 = sm_wI M13 116 65 (10001 : Int32) → sm_cI 206 [.ref 116, .int ((0 : Int32)), .int ((1 : Int32))] M16 (fun v19 M18 => SH M18 → sm_cV 213 [.ref 116] M18 (fun M21 => SH M21 → K (iV M21 116 64) M21))) ∧ (¬ v14 = 0 → sm_cV 213 [.ref 116] M13 (fun M24 => SH M24 → K (iV M24 116 64) M24))))) ∧ (¬ v9 = 0 → sm_cV 213 [.ref 116] M8 (fun M27 => SH M27 → K (iV M27 116 64) M27)))))) ∧ (¬ (iV M 116 56) ≤ x6 → (vp_in x6 4001) ∧ ∀ M31, SH M31 → M31 = sm_wI M 149 x6.toNatClampNeg (iV M 146 x6.toNatClampNeg) → sm_w 198 (140, [some (.ref 116), none, none, none, none, some (.int (x5)), some (.int (x6 + (1 : Int32)))], []) M31 (rI K)))) : sm_w 198 (140, [some (.ref 116), none, none, none, none, some (.int (x5)), some (.int (x6))], []) M (rI K) := by
  refine sm_w.run t198 sr198 74 4 (M2 := M) (f2 := (if (iV M 116 56) ≤ x6 then 169 else 149, [some (.ref 116), none, none, none, none, some (.int (x5)), some (.int (x6))], [])) rfl ⟨trivial, trivial, sm_K.g (k_116 hS) (sm_sh.rf _), trivial, trivial⟩ ?_
  refine sm_w.ite (fun hc => ?_) (fun hc => ?_)
  · have h := h.1 hc
    refine sm_w.run t198 sr198 88 4 (M2 := sm_wI M 116 69 (iV M 116 56)) (f2 := (177, [some (.ref 116), none, none, none, none, some (.int (x5)), some (.int (x6))], [])) rfl ⟨trivial, trivial, sm_K.g (k_116 hS) (sm_sh.rf _), ⟨(sm_K.p (k_116 hS) (sm_sh.rf _)).1, (sm_K.p (k_116 hS) (sm_sh.rf _)).2.1, (sm_K.p (k_116 hS) (sm_sh.rf _)).2.2, Or.inl rfl⟩, trivial⟩ ?_
    have hS2 : SH (sm_wI M 116 69 (iV M 116 56)) := SH.wI hS _ _ _
    have h := h _ hS2 rfl
    generalize sm_wI M 116 69 (iV M 116 56) = M1 at h hS2 ⊢
    refine sm_w.run t198 sr198 92 1 (M2 := M1) (f2 := (178, [some (.ref 116), none, none, none, none, some (.int (x5)), some (.int (x6))], [.ref 116])) rfl ⟨trivial, trivial⟩ ?_
    refine sm_w.cV t198 sr198 93 (i := 205) (as := [.ref 116]) (g := (178, [some (.ref 116), none, none, none, none, some (.int (x5)), some (.int (x6))], [])) rfl ⟨by decide, by decide, (Nat.le_of_ble_eq_true rfl), (sm_K.g (k_116 hS2) (sm_sh.rf _)).1, (sm_K.g (k_116 hS2) (sm_sh.rf _)).2, (Nat.le_of_ble_eq_true rfl)⟩ (Nat.le_of_ble_eq_true rfl) (by decide) (sm_cV.s (by decide) hS2 h) (fun M3 h => ?_)
    obtain ⟨hS5, h⟩ := h
    refine sm_w.run t198 sr198 94 3 (M2 := sm_wI M3 116 65 x5) (f2 := (187, [some (.ref 116), none, none, none, none, some (.int (x5)), some (.int (x6))], [])) rfl ⟨trivial, trivial, ⟨(sm_K.p (k_116 hS5) (sm_sh.rf _)).1, (sm_K.p (k_116 hS5) (sm_sh.rf _)).2.1, (sm_K.p (k_116 hS5) (sm_sh.rf _)).2.2, Or.inl rfl⟩, trivial⟩ ?_
    have hS7 : SH (sm_wI M3 116 65 x5) := SH.wI hS5 _ _ _
    have h := h _ hS7 rfl
    generalize sm_wI M3 116 65 x5 = M6 at h hS7 ⊢
    refine sm_w.run t198 sr198 97 3 (M2 := M6) (f2 := (191, [some (.ref 116), none, none, none, none, some (.int (x5)), some (.int (x6))], [.int ((0 : Int32)), .int (x5), .ref 116])) rfl ⟨trivial, trivial, trivial, trivial⟩ ?_
    refine sm_w.cI t198 sr198 100 (i := 206) (as := [.ref 116, .int (x5), .int ((0 : Int32))]) (g := (191, [some (.ref 116), none, none, none, none, some (.int (x5)), some (.int (x6))], [])) rfl ⟨by decide, by decide, (Nat.le_of_ble_eq_true rfl), (sm_K.g (k_116 hS7) (sm_sh.rf _)).1, (sm_K.g (k_116 hS7) (sm_sh.rf _)).2, (Nat.le_of_ble_eq_true rfl)⟩ (Nat.le_of_ble_eq_true rfl) (by decide) (sm_cI.s (by decide) hS7 h) (fun v9 M8 h => ?_)
    obtain ⟨hS10, h⟩ := h
    refine sm_w.run t198 sr198 101 1 (M2 := M8) (f2 := (if v9 = 0 then 197 else 229, [some (.ref 116), none, none, none, none, some (.int (x5)), some (.int (x6))], [])) rfl ⟨trivial, trivial⟩ ?_
    refine sm_w.ite (fun hc => ?_) (fun hc => ?_)
    · have h := h.1 hc
      refine sm_w.run t198 sr198 102 3 (M2 := sm_wI M8 116 65 (10000 : Int32)) (f2 := (204, [some (.ref 116), none, none, none, none, some (.int (x5)), some (.int (x6))], [])) rfl ⟨trivial, trivial, ⟨(sm_K.p (k_116 hS10) (sm_sh.rf _)).1, (sm_K.p (k_116 hS10) (sm_sh.rf _)).2.1, (sm_K.p (k_116 hS10) (sm_sh.rf _)).2.2, Or.inl rfl⟩, trivial⟩ ?_
      have hS12 : SH (sm_wI M8 116 65 (10000 : Int32)) := SH.wI hS10 _ _ _
      have h := h _ hS12 rfl
      generalize sm_wI M8 116 65 (10000 : Int32) = M11 at h hS12 ⊢
      refine sm_w.run t198 sr198 105 3 (M2 := M11) (f2 := (209, [some (.ref 116), none, none, none, none, some (.int (x5)), some (.int (x6))], [.int ((0 : Int32)), .int ((10000 : Int32)), .ref 116])) rfl ⟨trivial, trivial, trivial, trivial⟩ ?_
      refine sm_w.cI t198 sr198 108 (i := 206) (as := [.ref 116, .int ((10000 : Int32)), .int ((0 : Int32))]) (g := (209, [some (.ref 116), none, none, none, none, some (.int (x5)), some (.int (x6))], [])) rfl ⟨by decide, by decide, (Nat.le_of_ble_eq_true rfl), (sm_K.g (k_116 hS12) (sm_sh.rf _)).1, (sm_K.g (k_116 hS12) (sm_sh.rf _)).2, (Nat.le_of_ble_eq_true rfl)⟩ (Nat.le_of_ble_eq_true rfl) (by decide) (sm_cI.s (by decide) hS12 h) (fun v14 M13 h => ?_)
      obtain ⟨hS15, h⟩ := h
      refine sm_w.run t198 sr198 109 1 (M2 := M13) (f2 := (if v14 = 0 then 215 else 229, [some (.ref 116), none, none, none, none, some (.int (x5)), some (.int (x6))], [])) rfl ⟨trivial, trivial⟩ ?_
      refine sm_w.ite (fun hc => ?_) (fun hc => ?_)
      · have h := h.1 hc
        refine sm_w.run t198 sr198 110 3 (M2 := sm_wI M13 116 65 (10001 : Int32)) (f2 := (222, [some (.ref 116), none, none, none, none, some (.int (x5)), some (.int (x6))], [])) rfl ⟨trivial, trivial, ⟨(sm_K.p (k_116 hS15) (sm_sh.rf _)).1, (sm_K.p (k_116 hS15) (sm_sh.rf _)).2.1, (sm_K.p (k_116 hS15) (sm_sh.rf _)).2.2, Or.inl rfl⟩, trivial⟩ ?_
        have hS17 : SH (sm_wI M13 116 65 (10001 : Int32)) := SH.wI hS15 _ _ _
        have h := h _ hS17 rfl
        generalize sm_wI M13 116 65 (10001 : Int32) = M16 at h hS17 ⊢
        refine sm_w.run t198 sr198 113 3 (M2 := M16) (f2 := (225, [some (.ref 116), none, none, none, none, some (.int (x5)), some (.int (x6))], [.int ((1 : Int32)), .int ((0 : Int32)), .ref 116])) rfl ⟨trivial, trivial, trivial, trivial⟩ ?_
        refine sm_w.cI t198 sr198 116 (i := 206) (as := [.ref 116, .int ((0 : Int32)), .int ((1 : Int32))]) (g := (225, [some (.ref 116), none, none, none, none, some (.int (x5)), some (.int (x6))], [])) rfl ⟨by decide, by decide, (Nat.le_of_ble_eq_true rfl), (sm_K.g (k_116 hS17) (sm_sh.rf _)).1, (sm_K.g (k_116 hS17) (sm_sh.rf _)).2, (Nat.le_of_ble_eq_true rfl)⟩ (Nat.le_of_ble_eq_true rfl) (by decide) (sm_cI.s (by decide) hS17 h) (fun v19 M18 h => ?_)
        obtain ⟨hS20, h⟩ := h
        refine sm_w.run t198 sr198 117 2 (M2 := M18) (f2 := (230, [some (.ref 116), none, none, none, none, some (.int (x5)), some (.int (x6))], [.ref 116])) rfl ⟨rfl, trivial, trivial⟩ ?_
        refine sm_w.cV t198 sr198 119 (i := 213) (as := [.ref 116]) (g := (230, [some (.ref 116), none, none, none, none, some (.int (x5)), some (.int (x6))], [])) rfl ⟨by decide, by decide, (Nat.le_of_ble_eq_true rfl), (sm_K.g (k_116 hS20) (sm_sh.rf _)).1, (sm_K.g (k_116 hS20) (sm_sh.rf _)).2, (Nat.le_of_ble_eq_true rfl)⟩ (Nat.le_of_ble_eq_true rfl) (by decide) (sm_cV.s (by decide) hS20 h) (fun M21 h => ?_)
        obtain ⟨hS23, h⟩ := h
        refine sm_w.run t198 sr198 120 2 (M2 := M21) (f2 := (237, [some (.ref 116), none, none, none, none, some (.int (x5)), some (.int (x6))], [.int (iV M21 116 64)])) rfl ⟨trivial, sm_K.g (k_116 hS23) (sm_sh.rf _), trivial⟩ ?_
        exact sm_w.end t198 sr198 122 (o := .returned (some (.int (iV M21 116 64)))) (M2 := M21) rfl rfl (by decide) (⟨_, rfl, h⟩)
      · have h := h.2 hc
        refine sm_w.run t198 sr198 118 1 (M2 := M13) (f2 := (230, [some (.ref 116), none, none, none, none, some (.int (x5)), some (.int (x6))], [.ref 116])) rfl ⟨trivial, trivial⟩ ?_
        refine sm_w.cV t198 sr198 119 (i := 213) (as := [.ref 116]) (g := (230, [some (.ref 116), none, none, none, none, some (.int (x5)), some (.int (x6))], [])) rfl ⟨by decide, by decide, (Nat.le_of_ble_eq_true rfl), (sm_K.g (k_116 hS15) (sm_sh.rf _)).1, (sm_K.g (k_116 hS15) (sm_sh.rf _)).2, (Nat.le_of_ble_eq_true rfl)⟩ (Nat.le_of_ble_eq_true rfl) (by decide) (sm_cV.s (by decide) hS15 h) (fun M24 h => ?_)
        obtain ⟨hS26, h⟩ := h
        refine sm_w.run t198 sr198 120 2 (M2 := M24) (f2 := (237, [some (.ref 116), none, none, none, none, some (.int (x5)), some (.int (x6))], [.int (iV M24 116 64)])) rfl ⟨trivial, sm_K.g (k_116 hS26) (sm_sh.rf _), trivial⟩ ?_
        exact sm_w.end t198 sr198 122 (o := .returned (some (.int (iV M24 116 64)))) (M2 := M24) rfl rfl (by decide) (⟨_, rfl, h⟩)
    · have h := h.2 hc
      refine sm_w.run t198 sr198 118 1 (M2 := M8) (f2 := (230, [some (.ref 116), none, none, none, none, some (.int (x5)), some (.int (x6))], [.ref 116])) rfl ⟨trivial, trivial⟩ ?_
      refine sm_w.cV t198 sr198 119 (i := 213) (as := [.ref 116]) (g := (230, [some (.ref 116), none, none, none, none, some (.int (x5)), some (.int (x6))], [])) rfl ⟨by decide, by decide, (Nat.le_of_ble_eq_true rfl), (sm_K.g (k_116 hS10) (sm_sh.rf _)).1, (sm_K.g (k_116 hS10) (sm_sh.rf _)).2, (Nat.le_of_ble_eq_true rfl)⟩ (Nat.le_of_ble_eq_true rfl) (by decide) (sm_cV.s (by decide) hS10 h) (fun M27 h => ?_)
      obtain ⟨hS29, h⟩ := h
      refine sm_w.run t198 sr198 120 2 (M2 := M27) (f2 := (237, [some (.ref 116), none, none, none, none, some (.int (x5)), some (.int (x6))], [.int (iV M27 116 64)])) rfl ⟨trivial, sm_K.g (k_116 hS29) (sm_sh.rf _), trivial⟩ ?_
      exact sm_w.end t198 sr198 122 (o := .returned (some (.int (iV M27 116 64)))) (M2 := M27) rfl rfl (by decide) (⟨_, rfl, h⟩)
  · have h := h.2 hc
    refine sm_w.run t198 sr198 78 2 (M2 := M) (f2 := (153, [some (.ref 116), none, none, none, none, some (.int (x5)), some (.int (x6))], [va_rf (sm_rv M 116 68)])) rfl ⟨trivial, sm_K.g (k_116 hS) (sm_sh.rf _), trivial⟩ ?_
    refine sm_w.fld (r_116_68 hS) ?_
    refine sm_w.run t198 sr198 80 3 (M2 := M) (f2 := (159, [some (.ref 116), none, none, none, none, some (.int (x5)), some (.int (x6))], [va_rf (sm_rv M 116 54), .int (x6), .ref 149])) rfl ⟨trivial, trivial, sm_K.g (k_116 hS) (sm_sh.rf _), trivial⟩ ?_
    refine sm_w.fld (r_116_54 hS) ?_
    obtain ⟨c30, h⟩ := h
    refine sm_w.run t198 sr198 83 3 (M2 := sm_wI M 149 x6.toNatClampNeg (iV M 146 x6.toNatClampNeg)) (f2 := (163, [some (.ref 116), none, none, none, none, some (.int (x5)), some (.int (x6))], [])) rfl ⟨trivial, sm_K.a2 (k_146 hS) (l_146 hS) c30, sm_K.s2 (k_149 hS) (l_149 hS) c30, trivial⟩ ?_
    have hS32 : SH (sm_wI M 149 x6.toNatClampNeg (iV M 146 x6.toNatClampNeg)) := SH.wI hS _ _ _
    have h := h _ hS32 rfl
    generalize sm_wI M 149 x6.toNatClampNeg (iV M 146 x6.toNatClampNeg) = M31 at h hS32 ⊢
    refine sm_w.run t198 sr198 86 2 (M2 := M31) (f2 := (140, [some (.ref 116), none, none, none, none, some (.int (x5)), some (.int (x6 + (1 : Int32)))], [])) rfl ⟨(Nat.le_of_ble_eq_true rfl), trivial, trivial⟩ ?_
    exact h
-- 214 LineSetterModel.told(I)J
theorem t214 : sP 214 = (2, sp_214, sh_214) := rfl
theorem sr214 : sm_srt sp_214 = true := by decide +kernel
theorem g214_0 {M : sm_M} {x1 : Int32} {K : Int64 → sm_M → Prop} (hS : SH M)  (h : (((p166_0 M x1.toInt64 (0 : Int64) (5 : Int64)) = 0 → ∀ M4, SH M4 → M4 = sm_wI M 116 0 (1 : Int32) → K (0 : Int32).toInt64 M4) ∧ (¬ (p166_0 M x1.toInt64 (0 : Int64) (5 : Int64)) = 0 → (((iV M 116 59) = 0 → ∀ M9, SH M9 → M9 = sm_wI M 116 0 (2 : Int32) → K (0 : Int32).toInt64 M9) ∧ (¬ (iV M 116 59) = 0 → ∀ M11, SH M11 → M11 = sm_wI M 116 0 (0 : Int32) → ((x1 = 0 → K (jV M11 116 66) M11) ∧ (¬ x1 = 0 → ((x1 = (1 : Int32) → K ((iV M11 116 65).toInt64) M11) ∧ (¬ x1 = (1 : Int32) → ((x1 = (2 : Int32) → K ((iV M11 116 63).toInt64) M11) ∧ (¬ x1 = (2 : Int32) → ((x1 = (3 : Int32) → K ((iV M11 116 64).toInt64) M11) ∧ (¬ x1 = (3 : Int32) → ((x1 = (4 : Int32) → K (jV M11 116 67) M11) ∧ (¬ x1 = (4 : Int32) → sm_cV 207 [.ref 116, .int ((0 : Int32)), .int (iV M11 116 63)] M11 (fun M13 => SH M13 → K (jV M13 116 78) M13)))))))))))))))) : sm_w 214 (sm_in sP 214 [.ref 116, .int (x1)]) M (rJ K) := by
  show sm_w 214 (0, [some (.ref 116), some (.int (x1))], []) M (rJ K)
  refine sm_w.run t214 sr214 0 4 (M2 := M) (f2 := (6, [some (.ref 116), some (.int (x1))], [.long ((5 : Int64)), .long ((0 : Int64)), .long (x1.toInt64)])) rfl ⟨trivial, trivial, trivial, trivial, trivial⟩ ?_
  refine sm_w.cI t214 sr214 4 (i := 166) (as := [.long (x1.toInt64), .long ((0 : Int64)), .long ((5 : Int64))]) (g := (6, [some (.ref 116), some (.int (x1))], [])) rfl ⟨(Nat.le_of_ble_eq_true rfl), (Nat.le_of_ble_eq_true rfl)⟩ (Nat.le_of_ble_eq_true rfl) (by decide) (p166_c hS) (fun vz M2 hz => ?_)
  obtain ⟨hz1, hz2⟩ := hz
  subst hz1
  have hz2 := hz2.symm
  subst hz2
  refine sm_w.run t214 sr214 5 1 (M2 := M) (f2 := (if (p166_0 M x1.toInt64 (0 : Int64) (5 : Int64)) = 0 then 12 else 19, [some (.ref 116), some (.int (x1))], [])) rfl ⟨trivial, trivial⟩ ?_
  refine sm_w.ite (fun hc => ?_) (fun hc => ?_)
  · have h := h.1 hc
    refine sm_w.run t214 sr214 6 2 (M2 := M) (f2 := (14, [some (.ref 116), some (.int (x1))], [.int ((1 : Int32)), .ref 116])) rfl ⟨trivial, trivial, trivial⟩ ?_
    refine sm_w.cI t214 sr214 8 (i := 163) (as := [.ref 116, .int ((1 : Int32))]) (g := (14, [some (.ref 116), some (.int (x1))], [])) rfl ⟨by decide, by decide, (Nat.le_of_ble_eq_true rfl), (sm_K.g (k_116 hS) (sm_sh.rf _)).1, (sm_K.g (k_116 hS) (sm_sh.rf _)).2, (Nat.le_of_ble_eq_true rfl)⟩ (Nat.le_of_ble_eq_true rfl) (by decide) (sm_cI.s2 (by decide) hS (g163_0 (K := fun v2 M1 => K v2.toInt64 M1) hS h)) (fun v2 M1 h => ?_)
    obtain ⟨hS3, h⟩ := h
    refine sm_w.run t214 sr214 9 1 (M2 := M1) (f2 := (18, [some (.ref 116), some (.int (x1))], [.long (v2.toInt64)])) rfl ⟨trivial, trivial⟩ ?_
    exact sm_w.end t214 sr214 10 (o := .returned (some (.long (v2.toInt64)))) (M2 := M1) rfl trivial (by decide) (⟨_, rfl, h⟩)
  · have h := h.2 hc
    refine sm_w.run t214 sr214 11 3 (M2 := M) (f2 := (if (iV M 116 59) = 0 then 26 else 33, [some (.ref 116), some (.int (x1))], [])) rfl ⟨trivial, sm_K.g (k_116 hS) (sm_sh.rf _), trivial, trivial⟩ ?_
    refine sm_w.ite (fun hc => ?_) (fun hc => ?_)
    · have h := h.1 hc
      refine sm_w.run t214 sr214 14 2 (M2 := M) (f2 := (28, [some (.ref 116), some (.int (x1))], [.int ((2 : Int32)), .ref 116])) rfl ⟨trivial, trivial, trivial⟩ ?_
      refine sm_w.cI t214 sr214 16 (i := 163) (as := [.ref 116, .int ((2 : Int32))]) (g := (28, [some (.ref 116), some (.int (x1))], [])) rfl ⟨by decide, by decide, (Nat.le_of_ble_eq_true rfl), (sm_K.g (k_116 hS) (sm_sh.rf _)).1, (sm_K.g (k_116 hS) (sm_sh.rf _)).2, (Nat.le_of_ble_eq_true rfl)⟩ (Nat.le_of_ble_eq_true rfl) (by decide) (sm_cI.s2 (by decide) hS (g163_0 (K := fun v7 M6 => K v7.toInt64 M6) hS h)) (fun v7 M6 h => ?_)
      obtain ⟨hS8, h⟩ := h
      refine sm_w.run t214 sr214 17 1 (M2 := M6) (f2 := (32, [some (.ref 116), some (.int (x1))], [.long (v7.toInt64)])) rfl ⟨trivial, trivial⟩ ?_
      exact sm_w.end t214 sr214 18 (o := .returned (some (.long (v7.toInt64)))) (M2 := M6) rfl trivial (by decide) (⟨_, rfl, h⟩)
    · have h := h.2 hc
      refine sm_w.run t214 sr214 19 3 (M2 := sm_wI M 116 0 (0 : Int32)) (f2 := (38, [some (.ref 116), some (.int (x1))], [])) rfl ⟨trivial, trivial, ⟨(sm_K.p (k_116 hS) (sm_sh.rf _)).1, (sm_K.p (k_116 hS) (sm_sh.rf _)).2.1, (sm_K.p (k_116 hS) (sm_sh.rf _)).2.2, Or.inl rfl⟩, trivial⟩ ?_
      have hS12 : SH (sm_wI M 116 0 (0 : Int32)) := SH.wI hS _ _ _
      have h := h _ hS12 rfl
      generalize sm_wI M 116 0 (0 : Int32) = M11 at h hS12 ⊢
      refine sm_w.run t214 sr214 22 2 (M2 := M11) (f2 := (if x1 = 0 then 42 else 47, [some (.ref 116), some (.int (x1))], [])) rfl ⟨trivial, trivial, trivial⟩ ?_
      refine sm_w.ite (fun hc => ?_) (fun hc => ?_)
      · have h := h.1 hc
        refine sm_w.run t214 sr214 24 2 (M2 := M11) (f2 := (46, [some (.ref 116), some (.int (x1))], [.long (jV M11 116 66)])) rfl ⟨trivial, sm_K.g (k_116 hS12) (sm_sh.rf _), trivial⟩ ?_
        exact sm_w.end t214 sr214 26 (o := .returned (some (.long (jV M11 116 66)))) (M2 := M11) rfl trivial (by decide) (⟨_, rfl, h⟩)
      · have h := h.2 hc
        refine sm_w.run t214 sr214 27 3 (M2 := M11) (f2 := (if x1 = (1 : Int32) then 52 else 58, [some (.ref 116), some (.int (x1))], [])) rfl ⟨trivial, trivial, trivial, trivial⟩ ?_
        refine sm_w.ite (fun hc => ?_) (fun hc => ?_)
        · have h := h.1 hc
          refine sm_w.run t214 sr214 30 3 (M2 := M11) (f2 := (57, [some (.ref 116), some (.int (x1))], [.long ((iV M11 116 65).toInt64)])) rfl ⟨trivial, sm_K.g (k_116 hS12) (sm_sh.rf _), trivial, trivial⟩ ?_
          exact sm_w.end t214 sr214 33 (o := .returned (some (.long ((iV M11 116 65).toInt64)))) (M2 := M11) rfl trivial (by decide) (⟨_, rfl, h⟩)
        · have h := h.2 hc
          refine sm_w.run t214 sr214 34 3 (M2 := M11) (f2 := (if x1 = (2 : Int32) then 63 else 69, [some (.ref 116), some (.int (x1))], [])) rfl ⟨trivial, trivial, trivial, trivial⟩ ?_
          refine sm_w.ite (fun hc => ?_) (fun hc => ?_)
          · have h := h.1 hc
            refine sm_w.run t214 sr214 37 3 (M2 := M11) (f2 := (68, [some (.ref 116), some (.int (x1))], [.long ((iV M11 116 63).toInt64)])) rfl ⟨trivial, sm_K.g (k_116 hS12) (sm_sh.rf _), trivial, trivial⟩ ?_
            exact sm_w.end t214 sr214 40 (o := .returned (some (.long ((iV M11 116 63).toInt64)))) (M2 := M11) rfl trivial (by decide) (⟨_, rfl, h⟩)
          · have h := h.2 hc
            refine sm_w.run t214 sr214 41 3 (M2 := M11) (f2 := (if x1 = (3 : Int32) then 74 else 80, [some (.ref 116), some (.int (x1))], [])) rfl ⟨trivial, trivial, trivial, trivial⟩ ?_
            refine sm_w.ite (fun hc => ?_) (fun hc => ?_)
            · have h := h.1 hc
              refine sm_w.run t214 sr214 44 3 (M2 := M11) (f2 := (79, [some (.ref 116), some (.int (x1))], [.long ((iV M11 116 64).toInt64)])) rfl ⟨trivial, sm_K.g (k_116 hS12) (sm_sh.rf _), trivial, trivial⟩ ?_
              exact sm_w.end t214 sr214 47 (o := .returned (some (.long ((iV M11 116 64).toInt64)))) (M2 := M11) rfl trivial (by decide) (⟨_, rfl, h⟩)
            · have h := h.2 hc
              refine sm_w.run t214 sr214 48 3 (M2 := M11) (f2 := (if x1 = (4 : Int32) then 85 else 90, [some (.ref 116), some (.int (x1))], [])) rfl ⟨trivial, trivial, trivial, trivial⟩ ?_
              refine sm_w.ite (fun hc => ?_) (fun hc => ?_)
              · have h := h.1 hc
                refine sm_w.run t214 sr214 51 2 (M2 := M11) (f2 := (89, [some (.ref 116), some (.int (x1))], [.long (jV M11 116 67)])) rfl ⟨trivial, sm_K.g (k_116 hS12) (sm_sh.rf _), trivial⟩ ?_
                exact sm_w.end t214 sr214 53 (o := .returned (some (.long (jV M11 116 67)))) (M2 := M11) rfl trivial (by decide) (⟨_, rfl, h⟩)
              · have h := h.2 hc
                refine sm_w.run t214 sr214 54 4 (M2 := M11) (f2 := (96, [some (.ref 116), some (.int (x1))], [.int (iV M11 116 63), .int ((0 : Int32)), .ref 116])) rfl ⟨trivial, trivial, trivial, sm_K.g (k_116 hS12) (sm_sh.rf _), trivial⟩ ?_
                refine sm_w.cV t214 sr214 58 (i := 207) (as := [.ref 116, .int ((0 : Int32)), .int (iV M11 116 63)]) (g := (96, [some (.ref 116), some (.int (x1))], [])) rfl ⟨by decide, by decide, (Nat.le_of_ble_eq_true rfl), (sm_K.g (k_116 hS12) (sm_sh.rf _)).1, (sm_K.g (k_116 hS12) (sm_sh.rf _)).2, (Nat.le_of_ble_eq_true rfl)⟩ (Nat.le_of_ble_eq_true rfl) (by decide) (sm_cV.s (by decide) hS12 h) (fun M13 h => ?_)
                obtain ⟨hS15, h⟩ := h
                refine sm_w.run t214 sr214 59 2 (M2 := M13) (f2 := (103, [some (.ref 116), some (.int (x1))], [.long (jV M13 116 78)])) rfl ⟨trivial, sm_K.g (k_116 hS15) (sm_sh.rf _), trivial⟩ ?_
                exact sm_w.end t214 sr214 61 (o := .returned (some (.long (jV M13 116 78)))) (M2 := M13) rfl trivial (by decide) (⟨_, rfl, h⟩)
