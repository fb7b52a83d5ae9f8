/-! METHODS by their segments. -/
-- 100 LineSetter$Font.partWidth([B[III)J
theorem t100 : sP 100 = (11, sp_100, sh_100) := rfl
theorem sr100 : sm_srt sp_100 = true := by decide +kernel
theorem g100_0 {M : sm_M} {x0 : Nat} {x1 : Nat} {nx1 : Nat} {x2 : Nat} {nx2 : Nat} {x3 : Int32} {x4 : Int32} {K : Int64 → sm_M → Prop} (hS : SH M) (hx0 : fF x0) (hx1 : sA x1 1 nx1) (hx2 : sA x2 0 nx2) (h : sm_w 100 (24, [some (.ref x0), some (.ref x1), some (.ref x2), some (.int (x3)), none, some (.long ((0 : Int64))), none, some (.int (if (if (Int32.ofNat nx2) < (Int32.ofNat nx1) then (Int32.ofNat nx2) else (Int32.ofNat nx1)) < x4 then (if (Int32.ofNat nx2) < (Int32.ofNat nx1) then (Int32.ofNat nx2) else (Int32.ofNat nx1)) else x4)), some (.int (if x3 < (0 : Int32) then (0 : Int32) else x3)), none, none], []) M (rJ K)) : sm_w 100 (sm_in sP 100 [.ref x0, .ref x1, .ref x2, .int (x3), .int (x4)]) M (rJ K) := by
  show sm_w 100 (0, [some (.ref x0), some (.ref x1), some (.ref x2), some (.int (x3)), some (.int (x4)), none, none, none, none, none, none], []) M (rJ K)
  refine sm_w.run t100 sr100 0 5 (M2 := M) (f2 := (7, [some (.ref x0), some (.ref x1), some (.ref x2), some (.int (x3)), some (.int (x4)), some (.long ((0 : Int64))), none, none, none, none, none], [.int (Int32.ofNat (sm_ln M x1)), .int (x4)])) rfl ⟨trivial, (Nat.le_of_ble_eq_true rfl), trivial, trivial, sm_K.l (hx1.K hS) (sm_sh.rf _) (by decide), trivial⟩ ?_
  refine sm_w.aln (hx1.L hS) ?_
  refine sm_w.run t100 sr100 5 2 (M2 := M) (f2 := (9, [some (.ref x0), some (.ref x1), some (.ref x2), some (.int (x3)), some (.int (x4)), some (.long ((0 : Int64))), none, none, none, none, none], [.int (Int32.ofNat (sm_ln M x2)), .int (Int32.ofNat nx1), .int (x4)])) rfl ⟨trivial, sm_K.l (hx2.K hS) (sm_sh.rf _) (by decide), trivial⟩ ?_
  refine sm_w.aln (hx2.L hS) ?_
  refine sm_w.run t100 sr100 7 7 (M2 := M) (f2 := (24, [some (.ref x0), some (.ref x1), some (.ref x2), some (.int (x3)), some (.int (x4)), some (.long ((0 : Int64))), none, some (.int (if (if (Int32.ofNat nx2) < (Int32.ofNat nx1) then (Int32.ofNat nx2) else (Int32.ofNat nx1)) < x4 then (if (Int32.ofNat nx2) < (Int32.ofNat nx1) then (Int32.ofNat nx2) else (Int32.ofNat nx1)) else x4)), some (.int (if x3 < (0 : Int32) then (0 : Int32) else x3)), none, none], [])) rfl ⟨(Nat.le_of_ble_eq_true rfl), (Nat.le_of_ble_eq_true rfl), (Nat.le_of_ble_eq_true rfl), trivial, trivial, (Nat.le_of_ble_eq_true rfl), (Nat.le_of_ble_eq_true rfl), trivial⟩ ?_
  refine sm_w.weak (ls := [some (.ref x0), some (.ref x1), some (.ref x2), some (.int (x3)), none, some (.long ((0 : Int64))), none, some (.int (if (if (Int32.ofNat nx2) < (Int32.ofNat nx1) then (Int32.ofNat nx2) else (Int32.ofNat nx1)) < x4 then (if (Int32.ofNat nx2) < (Int32.ofNat nx1) then (Int32.ofNat nx2) else (Int32.ofNat nx1)) else x4)), some (.int (if x3 < (0 : Int32) then (0 : Int32) else x3)), none, none]) (sm_leI [true, true, true, true, false, true, false, true, true, false, false] rfl) ?_
  exact h
theorem g100_1 {M : sm_M} {x0 : Nat} {x1 : Nat} {nx1 : Nat} {x2 : Nat} {nx2 : Nat} {x3 : Int32} {x5 : Int64} {x7 : Int32} {x8 : Int32} {K : Int64 → sm_M → Prop} (hS : SH M) (hx0 : fF x0) (hx1 : sA x1 1 nx1) (hx2 : sA x2 0 nx2) (h : ((x7 ≤ x8 → K (if (0 : Int64) < x5 then x5 else (0 : Int64)) M) ∧ (¬ x7 ≤ x8 → ((x8 ≤ x3 → sm_w 100 (81, [some (.ref x0), some (.ref x1), some (.ref x2), some (.int (x3)), none, some (.long (x5)), none, some (.int (x7)), some (.int (x8)), none, none], []) M (rJ K)) ∧ (¬ x8 ≤ x3 → (vp_in (x8 - (1 : Int32)) nx2) ∧ (vp_in x8 nx2) ∧ (((iV M x2 (x8 - (1 : Int32)).toNatClampNeg) = (iV M x2 x8.toNatClampNeg) → (vp_in (x8 - (1 : Int32)) nx1) ∧ (vp_in x8 nx1) ∧ sm_cI 101 [.ref (x0 + 3), .int (iV M x1 (x8 - (1 : Int32)).toNatClampNeg), .int (iV M x1 x8.toNatClampNeg), .int ((0 : Int32))] M (fun v6 M5 => SH M5 → (vp_in x8 nx2) ∧ sm_w 100 (81, [some (.ref x0), some (.ref x1), some (.ref x2), some (.int (x3)), none, some (.long (x5 + ((p99_0 M5 v6 (iV M5 x2 x8.toNatClampNeg)).toInt64))), none, some (.int (x7)), some (.int (x8)), none, none], []) M5 (rJ K))) ∧ (¬ (iV M x2 (x8 - (1 : Int32)).toNatClampNeg) = (iV M x2 x8.toNatClampNeg) → sm_w 100 (81, [some (.ref x0), some (.ref x1), some (.ref x2), some (.int (x3)), none, some (.long (x5)), none, some (.int (x7)), some (.int (x8)), none, none], []) M (rJ K)))))))) : sm_w 100 (24, [some (.ref x0), some (.ref x1), some (.ref x2), some (.int (x3)), none, some (.long (x5)), none, some (.int (x7)), some (.int (x8)), none, none], []) M (rJ K) := by
  refine sm_w.run t100 sr100 14 3 (M2 := M) (f2 := (if x7 ≤ x8 then 190 else 31, [some (.ref x0), some (.ref x1), some (.ref x2), some (.int (x3)), none, some (.long (x5)), none, some (.int (x7)), some (.int (x8)), none, none], [])) rfl ⟨trivial, trivial, trivial, trivial⟩ ?_
  refine sm_w.ite (fun hc => ?_) (fun hc => ?_)
  · have h := h.1 hc
    refine sm_w.run t100 sr100 112 3 (M2 := M) (f2 := (196, [some (.ref x0), some (.ref x1), some (.ref x2), some (.int (x3)), none, some (.long (x5)), none, some (.int (x7)), some (.int (x8)), none, none], [.long (if (0 : Int64) < x5 then x5 else (0 : Int64))])) rfl ⟨trivial, trivial, (Nat.le_of_ble_eq_true rfl), trivial⟩ ?_
    exact sm_w.end t100 sr100 115 (o := .returned (some (.long (if (0 : Int64) < x5 then x5 else (0 : Int64))))) (M2 := M) rfl trivial (by decide) (⟨_, rfl, h⟩)
  · have h := h.2 hc
    refine sm_w.run t100 sr100 17 3 (M2 := M) (f2 := (if x8 ≤ x3 then 81 else 37, [some (.ref x0), some (.ref x1), some (.ref x2), some (.int (x3)), none, some (.long (x5)), none, some (.int (x7)), some (.int (x8)), none, none], [])) rfl ⟨trivial, trivial, trivial, trivial⟩ ?_
    refine sm_w.ite (fun hc => ?_) (fun hc => ?_)
    · have h := h.1 hc
      exact h
    · have h := h.2 hc
      obtain ⟨c1, c2, h⟩ := h
      refine sm_w.run t100 sr100 20 9 (M2 := M) (f2 := (if (iV M x2 (x8 - (1 : Int32)).toNatClampNeg) = (iV M x2 x8.toNatClampNeg) then 50 else 81, [some (.ref x0), some (.ref x1), some (.ref x2), some (.int (x3)), none, some (.long (x5)), none, some (.int (x7)), some (.int (x8)), none, none], [])) rfl ⟨trivial, trivial, trivial, trivial, sm_K.a2 (hx2.K hS) (hx2.L hS) c1, trivial, trivial, sm_K.a2 (hx2.K hS) (hx2.L hS) c2, trivial, trivial⟩ ?_
      refine sm_w.ite (fun hc => ?_) (fun hc => ?_)
      · have h := h.1 hc
        refine sm_w.run t100 sr100 29 3 (M2 := M) (f2 := (56, [some (.ref x0), some (.ref x1), some (.ref x2), some (.int (x3)), none, some (.long (x5)), none, some (.int (x7)), some (.int (x8)), none, none], [va_rf (sm_rv M x0 3), .long (x5)])) rfl ⟨trivial, trivial, sm_K.g (kF_0 hS hx0) (sm_sh.rf _), trivial⟩ ?_
        refine sm_w.fld (rF_3 hS hx0) ?_
        obtain ⟨c3, c4, h⟩ := h
        refine sm_w.run t100 sr100 32 9 (M2 := M) (f2 := (67, [some (.ref x0), some (.ref x1), some (.ref x2), some (.int (x3)), none, some (.long (x5)), none, some (.int (x7)), some (.int (x8)), none, none], [.int ((0 : Int32)), .int (iV M x1 x8.toNatClampNeg), .int (iV M x1 (x8 - (1 : Int32)).toNatClampNeg), .ref (x0 + 3), .long (x5)])) rfl ⟨trivial, trivial, trivial, trivial, sm_K.a2 (hx1.K hS) (hx1.L hS) c3, trivial, trivial, sm_K.a2 (hx1.K hS) (hx1.L hS) c4, trivial, trivial⟩ ?_
        refine sm_w.cI t100 sr100 41 (i := 101) (as := [.ref (x0 + 3), .int (iV M x1 (x8 - (1 : Int32)).toNatClampNeg), .int (iV M x1 x8.toNatClampNeg), .int ((0 : Int32))]) (g := (67, [some (.ref x0), some (.ref x1), some (.ref x2), some (.int (x3)), none, some (.long (x5)), none, some (.int (x7)), some (.int (x8)), none, none], [.long (x5)])) rfl ⟨by decide, by decide, (Nat.le_of_ble_eq_true rfl), (sm_K.g (kQ_0 hS (fF_3 hx0)) (sm_sh.rf _)).1, (sm_K.g (kQ_0 hS (fF_3 hx0)) (sm_sh.rf _)).2, (Nat.le_of_ble_eq_true rfl)⟩ (Nat.le_of_ble_eq_true rfl) (by decide) (sm_cI.s (by decide) hS h) (fun v6 M5 h => ?_)
        obtain ⟨hS7, h⟩ := h
        obtain ⟨c8, h⟩ := h
        refine sm_w.run t100 sr100 42 3 (M2 := M5) (f2 := (74, [some (.ref x0), some (.ref x1), some (.ref x2), some (.int (x3)), none, some (.long (x5)), none, some (.int (x7)), some (.int (x8)), none, none], [.int (iV M5 x2 x8.toNatClampNeg), .int (v6), .long (x5)])) rfl ⟨trivial, trivial, sm_K.a2 (hx2.K hS7) (hx2.L hS7) c8, trivial⟩ ?_
        refine sm_w.cI t100 sr100 45 (i := 99) (as := [.int (v6), .int (iV M5 x2 x8.toNatClampNeg)]) (g := (74, [some (.ref x0), some (.ref x1), some (.ref x2), some (.int (x3)), none, some (.long (x5)), none, some (.int (x7)), some (.int (x8)), none, none], [.long (x5)])) rfl ⟨(Nat.le_of_ble_eq_true rfl), (Nat.le_of_ble_eq_true rfl)⟩ (Nat.le_of_ble_eq_true rfl) (by decide) (p99_c hS7) (fun vz M2 hz => ?_)
        obtain ⟨hz1, hz2⟩ := hz
        subst hz1
        have hz2 := hz2.symm
        subst hz2
        refine sm_w.run t100 sr100 46 3 (M2 := M5) (f2 := (81, [some (.ref x0), some (.ref x1), some (.ref x2), some (.int (x3)), none, some (.long (x5 + ((p99_0 M5 v6 (iV M5 x2 x8.toNatClampNeg)).toInt64))), none, some (.int (x7)), some (.int (x8)), none, none], [])) rfl ⟨trivial, trivial, (Nat.le_of_ble_eq_true rfl), trivial⟩ ?_
        exact h
      · have h := h.2 hc
        exact h
theorem g100_2 {M : sm_M} {x0 : Nat} {x1 : Nat} {nx1 : Nat} {x2 : Nat} {nx2 : Nat} {x3 : Int32} {x5 : Int64} {x7 : Int32} {x8 : Int32} {K : Int64 → sm_M → Prop} (hS : SH M) (hx0 : fF x0) (hx1 : sA x1 1 nx1) (hx2 : sA x2 0 nx2) (h : ((x7 ≤ (x8 + (1 : Int32)) → sm_w 100 (107, [some (.ref x0), some (.ref x1), some (.ref x2), some (.int (x3)), none, some (.long (x5)), none, some (.int (x7)), some (.int (x8)), none, none], []) M (rJ K)) ∧ (¬ x7 ≤ (x8 + (1 : Int32)) → (vp_in (x8 + (1 : Int32)) nx2) ∧ (vp_in x8 nx2) ∧ (((iV M x2 (x8 + (1 : Int32)).toNatClampNeg) = (iV M x2 x8.toNatClampNeg) → (vp_in x8 nx1) ∧ (vp_in (x8 + (1 : Int32)) nx1) ∧ sm_cI 101 [.ref (x0 + 8), .int (iV M x1 x8.toNatClampNeg), .int (iV M x1 (x8 + (1 : Int32)).toNatClampNeg), .int ((-1 : Int32))] M (fun v6 M5 => SH M5 → ((v6 = (-1 : Int32) → (vp_in x8 nx1) ∧ (vp_in x8 nx2) ∧ (q98_0 M5 x0 (iV M5 x1 x8.toNatClampNeg) (iV M5 x2 x8.toNatClampNeg)) ∧ sm_w 100 (24, [some (.ref x0), some (.ref x1), some (.ref x2), some (.int (x3)), none, some (.long (x5 + ((p98_0 M5 x0 (iV M5 x1 x8.toNatClampNeg) (iV M5 x2 x8.toNatClampNeg)).toInt64))), none, some (.int (x7)), some (.int (x8 + (1 : Int32))), none, none], []) M5 (rJ K)) ∧ (¬ v6 = (-1 : Int32) → (vp_in x8 nx2) ∧ sm_w 100 (24, [some (.ref x0), some (.ref x1), some (.ref x2), some (.int (x3)), none, some (.long (x5 + ((p99_0 M5 v6 (iV M5 x2 x8.toNatClampNeg)).toInt64))), none, some (.int (x7)), some (.int (x8 + (2 : Int32))), none, none], []) M5 (rJ K))))) ∧ (¬ (iV M x2 (x8 + (1 : Int32)).toNatClampNeg) = (iV M x2 x8.toNatClampNeg) → sm_w 100 (107, [some (.ref x0), some (.ref x1), some (.ref x2), some (.int (x3)), none, some (.long (x5)), none, some (.int (x7)), some (.int (x8)), none, none], []) M (rJ K)))))) : sm_w 100 (81, [some (.ref x0), some (.ref x1), some (.ref x2), some (.int (x3)), none, some (.long (x5)), none, some (.int (x7)), some (.int (x8)), none, none], []) M (rJ K) := by
  refine sm_w.run t100 sr100 49 5 (M2 := M) (f2 := (if x7 ≤ (x8 + (1 : Int32)) then 107 else 90, [some (.ref x0), some (.ref x1), some (.ref x2), some (.int (x3)), none, some (.long (x5)), none, some (.int (x7)), some (.int (x8)), none, none], [])) rfl ⟨trivial, trivial, trivial, trivial, trivial, trivial⟩ ?_
  refine sm_w.ite (fun hc => ?_) (fun hc => ?_)
  · have h := h.1 hc
    exact h
  · have h := h.2 hc
    obtain ⟨c1, c2, h⟩ := h
    refine sm_w.run t100 sr100 54 9 (M2 := M) (f2 := (if (iV M x2 (x8 + (1 : Int32)).toNatClampNeg) = (iV M x2 x8.toNatClampNeg) then 103 else 107, [some (.ref x0), some (.ref x1), some (.ref x2), some (.int (x3)), none, some (.long (x5)), none, some (.int (x7)), some (.int (x8)), none, none], [])) rfl ⟨trivial, trivial, trivial, trivial, sm_K.a2 (hx2.K hS) (hx2.L hS) c1, trivial, trivial, sm_K.a2 (hx2.K hS) (hx2.L hS) c2, trivial, trivial⟩ ?_
    refine sm_w.ite (fun hc => ?_) (fun hc => ?_)
    · have h := h.1 hc
      refine sm_w.run t100 sr100 63 2 (M2 := M) (f2 := (108, [some (.ref x0), some (.ref x1), some (.ref x2), some (.int (x3)), none, some (.long (x5)), none, some (.int (x7)), some (.int (x8)), none, none], [.int ((1 : Int32))])) rfl ⟨trivial, trivial, trivial⟩ ?_
      refine sm_w.run t100 sr100 66 3 (M2 := M) (f2 := (if (1 : Int32) = 0 then 136 else 115, [some (.ref x0), some (.ref x1), some (.ref x2), some (.int (x3)), none, some (.long (x5)), none, some (.int (x7)), some (.int (x8)), some (.int ((1 : Int32))), none], [])) rfl ⟨(Nat.le_of_ble_eq_true rfl), trivial, trivial, trivial⟩ ?_
      rw [if_neg (by decide)]
      refine sm_w.run t100 sr100 69 2 (M2 := M) (f2 := (119, [some (.ref x0), some (.ref x1), some (.ref x2), some (.int (x3)), none, some (.long (x5)), none, some (.int (x7)), some (.int (x8)), some (.int ((1 : Int32))), none], [va_rf (sm_rv M x0 4)])) rfl ⟨trivial, sm_K.g (kF_0 hS hx0) (sm_sh.rf _), trivial⟩ ?_
      refine sm_w.fld (rF_4 hS hx0) ?_
      obtain ⟨c3, c4, h⟩ := h
      refine sm_w.run t100 sr100 71 9 (M2 := M) (f2 := (130, [some (.ref x0), some (.ref x1), some (.ref x2), some (.int (x3)), none, some (.long (x5)), none, some (.int (x7)), some (.int (x8)), some (.int ((1 : Int32))), none], [.int ((-1 : Int32)), .int (iV M x1 (x8 + (1 : Int32)).toNatClampNeg), .int (iV M x1 x8.toNatClampNeg), .ref (x0 + 8)])) rfl ⟨trivial, trivial, sm_K.a2 (hx1.K hS) (hx1.L hS) c3, trivial, trivial, trivial, trivial, sm_K.a2 (hx1.K hS) (hx1.L hS) c4, trivial, trivial⟩ ?_
      refine sm_w.cI t100 sr100 80 (i := 101) (as := [.ref (x0 + 8), .int (iV M x1 x8.toNatClampNeg), .int (iV M x1 (x8 + (1 : Int32)).toNatClampNeg), .int ((-1 : Int32))]) (g := (130, [some (.ref x0), some (.ref x1), some (.ref x2), some (.int (x3)), none, some (.long (x5)), none, some (.int (x7)), some (.int (x8)), some (.int ((1 : Int32))), none], [])) rfl ⟨by decide, by decide, (Nat.le_of_ble_eq_true rfl), (sm_K.g (kQ_0 hS (fF_8 hx0)) (sm_sh.rf _)).1, (sm_K.g (kQ_0 hS (fF_8 hx0)) (sm_sh.rf _)).2, (Nat.le_of_ble_eq_true rfl)⟩ (Nat.le_of_ble_eq_true rfl) (by decide) (sm_cI.s (by decide) hS h) (fun v6 M5 h => ?_)
      obtain ⟨hS7, h⟩ := h
      refine sm_w.run t100 sr100 81 1 (M2 := M5) (f2 := (137, [some (.ref x0), some (.ref x1), some (.ref x2), some (.int (x3)), none, some (.long (x5)), none, some (.int (x7)), some (.int (x8)), some (.int ((1 : Int32))), none], [.int (v6)])) rfl ⟨trivial, trivial⟩ ?_
      refine sm_w.run t100 sr100 83 4 (M2 := M5) (f2 := (if v6 = (-1 : Int32) then 145 else 169, [some (.ref x0), some (.ref x1), some (.ref x2), some (.int (x3)), none, some (.long (x5)), none, some (.int (x7)), some (.int (x8)), some (.int ((1 : Int32))), some (.int (v6))], [])) rfl ⟨(Nat.le_of_ble_eq_true rfl), trivial, trivial, trivial, trivial⟩ ?_
      refine sm_w.ite (fun hc => ?_) (fun hc => ?_)
      · have h := h.1 hc
        obtain ⟨c8, c9, c10, h⟩ := h
        refine sm_w.run t100 sr100 87 8 (M2 := M5) (f2 := (156, [some (.ref x0), some (.ref x1), some (.ref x2), some (.int (x3)), none, some (.long (x5)), none, some (.int (x7)), some (.int (x8)), some (.int ((1 : Int32))), some (.int (v6))], [.int (iV M5 x2 x8.toNatClampNeg), .int (iV M5 x1 x8.toNatClampNeg), .ref x0, .long (x5)])) rfl ⟨trivial, trivial, trivial, trivial, sm_K.a2 (hx1.K hS7) (hx1.L hS7) c8, trivial, trivial, sm_K.a2 (hx2.K hS7) (hx2.L hS7) c9, trivial⟩ ?_
        refine sm_w.cI t100 sr100 95 (i := 98) (as := [.ref x0, .int (iV M5 x1 x8.toNatClampNeg), .int (iV M5 x2 x8.toNatClampNeg)]) (g := (156, [some (.ref x0), some (.ref x1), some (.ref x2), some (.int (x3)), none, some (.long (x5)), none, some (.int (x7)), some (.int (x8)), some (.int ((1 : Int32))), some (.int (v6))], [.long (x5)])) rfl ⟨by decide, by decide, (Nat.le_of_ble_eq_true rfl), (sm_K.g (kF_0 hS7 hx0) (sm_sh.rf _)).1, (sm_K.g (kF_0 hS7 hx0) (sm_sh.rf _)).2, (Nat.le_of_ble_eq_true rfl)⟩ (Nat.le_of_ble_eq_true rfl) (by decide) (p98_c hS7 hx0 c10) (fun vz M2 hz => ?_)
        obtain ⟨hz1, hz2⟩ := hz
        subst hz1
        have hz2 := hz2.symm
        subst hz2
        refine sm_w.run t100 sr100 96 5 (M2 := M5) (f2 := (187, [some (.ref x0), some (.ref x1), some (.ref x2), some (.int (x3)), none, some (.long (x5 + ((p98_0 M5 x0 (iV M5 x1 x8.toNatClampNeg) (iV M5 x2 x8.toNatClampNeg)).toInt64))), none, some (.int (x7)), some (.int (x8 + (1 : Int32))), some (.int ((1 : Int32))), some (.int (v6))], [])) rfl ⟨trivial, trivial, (Nat.le_of_ble_eq_true rfl), (Nat.le_of_ble_eq_true rfl), trivial, trivial⟩ ?_
        refine sm_w.run t100 sr100 111 1 (M2 := M5) (f2 := (24, [some (.ref x0), some (.ref x1), some (.ref x2), some (.int (x3)), none, some (.long (x5 + ((p98_0 M5 x0 (iV M5 x1 x8.toNatClampNeg) (iV M5 x2 x8.toNatClampNeg)).toInt64))), none, some (.int (x7)), some (.int (x8 + (1 : Int32))), some (.int ((1 : Int32))), some (.int (v6))], [])) rfl ⟨trivial, trivial⟩ ?_
        refine sm_w.weak (ls := [some (.ref x0), some (.ref x1), some (.ref x2), some (.int (x3)), none, some (.long (x5 + ((p98_0 M5 x0 (iV M5 x1 x8.toNatClampNeg) (iV M5 x2 x8.toNatClampNeg)).toInt64))), none, some (.int (x7)), some (.int (x8 + (1 : Int32))), none, none]) (sm_leI [true, true, true, true, false, true, false, true, true, false, false] rfl) ?_
        exact h
      · have h := h.2 hc
        obtain ⟨c11, h⟩ := h
        refine sm_w.run t100 sr100 101 5 (M2 := M5) (f2 := (177, [some (.ref x0), some (.ref x1), some (.ref x2), some (.int (x3)), none, some (.long (x5)), none, some (.int (x7)), some (.int (x8)), some (.int ((1 : Int32))), some (.int (v6))], [.int (iV M5 x2 x8.toNatClampNeg), .int (v6), .long (x5)])) rfl ⟨trivial, trivial, trivial, trivial, sm_K.a2 (hx2.K hS7) (hx2.L hS7) c11, trivial⟩ ?_
        refine sm_w.cI t100 sr100 106 (i := 99) (as := [.int (v6), .int (iV M5 x2 x8.toNatClampNeg)]) (g := (177, [some (.ref x0), some (.ref x1), some (.ref x2), some (.int (x3)), none, some (.long (x5)), none, some (.int (x7)), some (.int (x8)), some (.int ((1 : Int32))), some (.int (v6))], [.long (x5)])) rfl ⟨(Nat.le_of_ble_eq_true rfl), (Nat.le_of_ble_eq_true rfl)⟩ (Nat.le_of_ble_eq_true rfl) (by decide) (p99_c hS7) (fun vz M2 hz => ?_)
        obtain ⟨hz1, hz2⟩ := hz
        subst hz1
        have hz2 := hz2.symm
        subst hz2
        refine sm_w.run t100 sr100 107 5 (M2 := M5) (f2 := (24, [some (.ref x0), some (.ref x1), some (.ref x2), some (.int (x3)), none, some (.long (x5 + ((p99_0 M5 v6 (iV M5 x2 x8.toNatClampNeg)).toInt64))), none, some (.int (x7)), some (.int (x8 + (2 : Int32))), some (.int ((1 : Int32))), some (.int (v6))], [])) rfl ⟨trivial, trivial, (Nat.le_of_ble_eq_true rfl), (Nat.le_of_ble_eq_true rfl), trivial, trivial⟩ ?_
        refine sm_w.weak (ls := [some (.ref x0), some (.ref x1), some (.ref x2), some (.int (x3)), none, some (.long (x5 + ((p99_0 M5 v6 (iV M5 x2 x8.toNatClampNeg)).toInt64))), none, some (.int (x7)), some (.int (x8 + (2 : Int32))), none, none]) (sm_leI [true, true, true, true, false, true, false, true, true, false, false] rfl) ?_
        exact h
    · have h := h.2 hc
      exact h
theorem g100_3 {M : sm_M} {x0 : Nat} {x1 : Nat} {nx1 : Nat} {x2 : Nat} {nx2 : Nat} {x3 : Int32} {x5 : Int64} {x7 : Int32} {x8 : Int32} {K : Int64 → sm_M → Prop} (hS : SH M) (hx0 : fF x0) (hx1 : sA x1 1 nx1) (hx2 : sA x2 0 nx2) (h : (vp_in x8 nx1) ∧ (vp_in x8 nx2) ∧ (q98_0 M x0 (iV M x1 x8.toNatClampNeg) (iV M x2 x8.toNatClampNeg)) ∧ sm_w 100 (24, [some (.ref x0), some (.ref x1), some (.ref x2), some (.int (x3)), none, some (.long (x5 + ((p98_0 M x0 (iV M x1 x8.toNatClampNeg) (iV M x2 x8.toNatClampNeg)).toInt64))), none, some (.int (x7)), some (.int (x8 + (1 : Int32))), none, none], []) M (rJ K)) : sm_w 100 (107, [some (.ref x0), some (.ref x1), some (.ref x2), some (.int (x3)), none, some (.long (x5)), none, some (.int (x7)), some (.int (x8)), none, none], []) M (rJ K) := by
  refine sm_w.run t100 sr100 65 4 (M2 := M) (f2 := (if (0 : Int32) = 0 then 136 else 115, [some (.ref x0), some (.ref x1), some (.ref x2), some (.int (x3)), none, some (.long (x5)), none, some (.int (x7)), some (.int (x8)), some (.int ((0 : Int32))), none], [])) rfl ⟨trivial, (Nat.le_of_ble_eq_true rfl), trivial, trivial, trivial⟩ ?_
  rw [if_pos (by decide)]
  refine sm_w.run t100 sr100 82 5 (M2 := M) (f2 := (if (-1 : Int32) = (-1 : Int32) then 145 else 169, [some (.ref x0), some (.ref x1), some (.ref x2), some (.int (x3)), none, some (.long (x5)), none, some (.int (x7)), some (.int (x8)), some (.int ((0 : Int32))), some (.int ((-1 : Int32)))], [])) rfl ⟨trivial, (Nat.le_of_ble_eq_true rfl), trivial, trivial, trivial, trivial⟩ ?_
  rw [if_pos (by decide)]
  obtain ⟨c1, c2, c3, h⟩ := h
  refine sm_w.run t100 sr100 87 8 (M2 := M) (f2 := (156, [some (.ref x0), some (.ref x1), some (.ref x2), some (.int (x3)), none, some (.long (x5)), none, some (.int (x7)), some (.int (x8)), some (.int ((0 : Int32))), some (.int ((-1 : Int32)))], [.int (iV M x2 x8.toNatClampNeg), .int (iV M x1 x8.toNatClampNeg), .ref x0, .long (x5)])) rfl ⟨trivial, trivial, trivial, trivial, sm_K.a2 (hx1.K hS) (hx1.L hS) c1, trivial, trivial, sm_K.a2 (hx2.K hS) (hx2.L hS) c2, trivial⟩ ?_
  refine sm_w.cI t100 sr100 95 (i := 98) (as := [.ref x0, .int (iV M x1 x8.toNatClampNeg), .int (iV M x2 x8.toNatClampNeg)]) (g := (156, [some (.ref x0), some (.ref x1), some (.ref x2), some (.int (x3)), none, some (.long (x5)), none, some (.int (x7)), some (.int (x8)), some (.int ((0 : Int32))), some (.int ((-1 : Int32)))], [.long (x5)])) rfl ⟨by decide, by decide, (Nat.le_of_ble_eq_true rfl), (sm_K.g (kF_0 hS hx0) (sm_sh.rf _)).1, (sm_K.g (kF_0 hS hx0) (sm_sh.rf _)).2, (Nat.le_of_ble_eq_true rfl)⟩ (Nat.le_of_ble_eq_true rfl) (by decide) (p98_c hS hx0 c3) (fun vz M2 hz => ?_)
  obtain ⟨hz1, hz2⟩ := hz
  subst hz1
  have hz2 := hz2.symm
  subst hz2
  refine sm_w.run t100 sr100 96 5 (M2 := M) (f2 := (187, [some (.ref x0), some (.ref x1), some (.ref x2), some (.int (x3)), none, some (.long (x5 + ((p98_0 M x0 (iV M x1 x8.toNatClampNeg) (iV M x2 x8.toNatClampNeg)).toInt64))), none, some (.int (x7)), some (.int (x8 + (1 : Int32))), some (.int ((0 : Int32))), some (.int ((-1 : Int32)))], [])) rfl ⟨trivial, trivial, (Nat.le_of_ble_eq_true rfl), (Nat.le_of_ble_eq_true rfl), trivial, trivial⟩ ?_
  refine sm_w.run t100 sr100 111 1 (M2 := M) (f2 := (24, [some (.ref x0), some (.ref x1), some (.ref x2), some (.int (x3)), none, some (.long (x5 + ((p98_0 M x0 (iV M x1 x8.toNatClampNeg) (iV M x2 x8.toNatClampNeg)).toInt64))), none, some (.int (x7)), some (.int (x8 + (1 : Int32))), some (.int ((0 : Int32))), some (.int ((-1 : Int32)))], [])) rfl ⟨trivial, trivial⟩ ?_
  refine sm_w.weak (ls := [some (.ref x0), some (.ref x1), some (.ref x2), some (.int (x3)), none, some (.long (x5 + ((p98_0 M x0 (iV M x1 x8.toNatClampNeg) (iV M x2 x8.toNatClampNeg)).toInt64))), none, some (.int (x7)), some (.int (x8 + (1 : Int32))), none, none]) (sm_leI [true, true, true, true, false, true, false, true, true, false, false] rfl) ?_
  exact h
-- 102 LineSetter$Breaks.addBreak(IIJI)V
theorem t102 : sP 102 = (6, sp_102, sh_102) := rfl
theorem sr102 : sm_srt sp_102 = true := by decide +kernel
theorem g102_0 {M : sm_M} {x0 : Nat} {x1 : Int32} {x2 : Int32} {x3 : Int64} {x5 : Int32} {K : sm_M → Prop} (hS : SH M) (hx0 : fK x0) (h : (((iV M x0 3) < (600 : Int32) → ∀ M1, SH M1 → M1 = sm_wI M x0 3 ((iV M x0 3) + (1 : Int32)) → (vp_in (iV M1 x0 3) 601) ∧ ∀ M4, SH M4 → M4 = sm_wI M1 (x0 + 3) (iV M1 x0 3).toNatClampNeg x1 → (vp_in (iV M4 x0 3) 601) ∧ ∀ M7, SH M7 → M7 = sm_wI M4 (x0 + 4) (iV M4 x0 3).toNatClampNeg x2 → (vp_in (iV M7 x0 3) 601) ∧ ∀ M10, SH M10 → M10 = sm_wI M7 (x0 + 5) (iV M7 x0 3).toNatClampNeg x5 → (vp_in ((iV M10 x0 3) - (1 : Int32)) 601) ∧ (vp_in (iV M10 x0 3) 601) ∧ ∀ M14, SH M14 → M14 = sm_wI M10 (x0 + 6) (iV M10 x0 3).toNatClampNeg (iV M10 (x0 + 6) ((iV M10 x0 3) - (1 : Int32)).toNatClampNeg) → (vp_in ((iV M14 x0 3) - (1 : Int32)) 601) ∧ (vp_in (iV M14 x0 3) 601) ∧ ∀ M18, SH M18 → M18 = sm_wJ M14 (x0 + 7) (iV M14 x0 3).toNatClampNeg ((jV M14 (x0 + 7) ((iV M14 x0 3) - (1 : Int32)).toNatClampNeg) + x3) → (vp_in ((iV M18 x0 3) - (1 : Int32)) 601) ∧ (vp_in (iV M18 x0 3) 601) ∧ ∀ M22, SH M22 → M22 = sm_wJ M18 (x0 + 8) (iV M18 x0 3).toNatClampNeg (jV M18 (x0 + 8) ((iV M18 x0 3) - (1 : Int32)).toNatClampNeg) → (vp_in ((iV M22 x0 3) - (1 : Int32)) 601) ∧ (vp_in (iV M22 x0 3) 601) ∧ ∀ M26, SH M26 → M26 = sm_wJ M22 (x0 + 9) (iV M22 x0 3).toNatClampNeg (jV M22 (x0 + 9) ((iV M22 x0 3) - (1 : Int32)).toNatClampNeg) → (vp_in ((iV M26 x0 3) - (1 : Int32)) 601) ∧ (vp_in (iV M26 x0 3) 601) ∧ ∀ M30, SH M30 → M30 = sm_wJ M26 (x0 + 10) (iV M26 x0 3).toNatClampNeg (jV M26 (x0 + 10) ((iV M26 x0 3) - (1 : Int32)).toNatClampNeg) → ∀ M32, SH M32 → M32 = sm_wJ M30 x0 12 (if (x3 + x5.toInt64) < (jV M30 x0 12) then (jV M30 x0 12) else (x3 + x5.toInt64)) → K M32) ∧ (¬ (iV M x0 3) < (600 : Int32) → K M))) : sm_w 102 (sm_in sP 102 [.ref x0, .int (x1), .int (x2), .long (x3), .int (x5)]) M (rV K) := by
  show sm_w 102 (0, [some (.ref x0), some (.int (x1)), some (.int (x2)), some (.long (x3)), none, some (.int (x5))], []) M (rV K)
  refine sm_w.run t102 sr102 0 4 (M2 := M) (f2 := (if (iV M x0 3) < (600 : Int32) then 11 else 10, [some (.ref x0), some (.int (x1)), some (.int (x2)), some (.long (x3)), none, some (.int (x5))], [])) rfl ⟨trivial, sm_K.g (kK_0 hS hx0) (sm_sh.rf _), trivial, trivial, trivial⟩ ?_
  refine sm_w.ite (fun hc => ?_) (fun hc => ?_)
  · have h := h.1 hc
    refine sm_w.run t102 sr102 5 6 (M2 := sm_wI M x0 3 ((iV M x0 3) + (1 : Int32))) (f2 := (21, [some (.ref x0), some (.int (x1)), some (.int (x2)), some (.long (x3)), none, some (.int (x5))], [])) rfl ⟨trivial, rfl, sm_K.g (kK_0 hS hx0) (sm_sh.rf _), trivial, trivial, ⟨(sm_K.p (kK_0 hS hx0) (sm_sh.rf _)).1, (sm_K.p (kK_0 hS hx0) (sm_sh.rf _)).2.1, (sm_K.p (kK_0 hS hx0) (sm_sh.rf _)).2.2, Or.inl rfl⟩, trivial⟩ ?_
    have hS2 : SH (sm_wI M x0 3 ((iV M x0 3) + (1 : Int32))) := SH.wI hS _ _ _
    have h := h _ hS2 rfl
    generalize sm_wI M x0 3 ((iV M x0 3) + (1 : Int32)) = M1 at h hS2 ⊢
    refine sm_w.run t102 sr102 11 2 (M2 := M1) (f2 := (25, [some (.ref x0), some (.int (x1)), some (.int (x2)), some (.long (x3)), none, some (.int (x5))], [va_rf (sm_rv M1 x0 4)])) rfl ⟨trivial, sm_K.g (kK_0 hS2 hx0) (sm_sh.rf _), trivial⟩ ?_
    refine sm_w.fld (rK_4 hS2 hx0) ?_
    obtain ⟨c3, h⟩ := h
    refine sm_w.run t102 sr102 13 4 (M2 := sm_wI M1 (x0 + 3) (iV M1 x0 3).toNatClampNeg x1) (f2 := (31, [some (.ref x0), some (.int (x1)), some (.int (x2)), some (.long (x3)), none, some (.int (x5))], [])) rfl ⟨trivial, sm_K.g (kK_0 hS2 hx0) (sm_sh.rf _), trivial, sm_K.s2 (kK_3 hS2 hx0) (lK_3 hS2 hx0) c3, trivial⟩ ?_
    have hS5 : SH (sm_wI M1 (x0 + 3) (iV M1 x0 3).toNatClampNeg x1) := SH.wI hS2 _ _ _
    have h := h _ hS5 rfl
    generalize sm_wI M1 (x0 + 3) (iV M1 x0 3).toNatClampNeg x1 = M4 at h hS5 ⊢
    refine sm_w.run t102 sr102 17 2 (M2 := M4) (f2 := (35, [some (.ref x0), some (.int (x1)), some (.int (x2)), some (.long (x3)), none, some (.int (x5))], [va_rf (sm_rv M4 x0 5)])) rfl ⟨trivial, sm_K.g (kK_0 hS5 hx0) (sm_sh.rf _), trivial⟩ ?_
    refine sm_w.fld (rK_5 hS5 hx0) ?_
    obtain ⟨c6, h⟩ := h
    refine sm_w.run t102 sr102 19 4 (M2 := sm_wI M4 (x0 + 4) (iV M4 x0 3).toNatClampNeg x2) (f2 := (41, [some (.ref x0), some (.int (x1)), some (.int (x2)), some (.long (x3)), none, some (.int (x5))], [])) rfl ⟨trivial, sm_K.g (kK_0 hS5 hx0) (sm_sh.rf _), trivial, sm_K.s2 (kK_4 hS5 hx0) (lK_4 hS5 hx0) c6, trivial⟩ ?_
    have hS8 : SH (sm_wI M4 (x0 + 4) (iV M4 x0 3).toNatClampNeg x2) := SH.wI hS5 _ _ _
    have h := h _ hS8 rfl
    generalize sm_wI M4 (x0 + 4) (iV M4 x0 3).toNatClampNeg x2 = M7 at h hS8 ⊢
    refine sm_w.run t102 sr102 23 2 (M2 := M7) (f2 := (45, [some (.ref x0), some (.int (x1)), some (.int (x2)), some (.long (x3)), none, some (.int (x5))], [va_rf (sm_rv M7 x0 6)])) rfl ⟨trivial, sm_K.g (kK_0 hS8 hx0) (sm_sh.rf _), trivial⟩ ?_
    refine sm_w.fld (rK_6 hS8 hx0) ?_
    obtain ⟨c9, h⟩ := h
    refine sm_w.run t102 sr102 25 4 (M2 := sm_wI M7 (x0 + 5) (iV M7 x0 3).toNatClampNeg x5) (f2 := (52, [some (.ref x0), some (.int (x1)), some (.int (x2)), some (.long (x3)), none, some (.int (x5))], [])) rfl ⟨trivial, sm_K.g (kK_0 hS8 hx0) (sm_sh.rf _), trivial, sm_K.s2 (kK_5 hS8 hx0) (lK_5 hS8 hx0) c9, trivial⟩ ?_
    have hS11 : SH (sm_wI M7 (x0 + 5) (iV M7 x0 3).toNatClampNeg x5) := SH.wI hS8 _ _ _
    have h := h _ hS11 rfl
    generalize sm_wI M7 (x0 + 5) (iV M7 x0 3).toNatClampNeg x5 = M10 at h hS11 ⊢
    refine sm_w.run t102 sr102 29 2 (M2 := M10) (f2 := (56, [some (.ref x0), some (.int (x1)), some (.int (x2)), some (.long (x3)), none, some (.int (x5))], [va_rf (sm_rv M10 x0 7)])) rfl ⟨trivial, sm_K.g (kK_0 hS11 hx0) (sm_sh.rf _), trivial⟩ ?_
    refine sm_w.fld (rK_7 hS11 hx0) ?_
    refine sm_w.run t102 sr102 31 4 (M2 := M10) (f2 := (64, [some (.ref x0), some (.int (x1)), some (.int (x2)), some (.long (x3)), none, some (.int (x5))], [va_rf (sm_rv M10 x0 7), .int (iV M10 x0 3), .ref (x0 + 6)])) rfl ⟨trivial, sm_K.g (kK_0 hS11 hx0) (sm_sh.rf _), trivial, sm_K.g (kK_0 hS11 hx0) (sm_sh.rf _), trivial⟩ ?_
    refine sm_w.fld (rK_7 hS11 hx0) ?_
    obtain ⟨c12, c13, h⟩ := h
    refine sm_w.run t102 sr102 35 6 (M2 := sm_wI M10 (x0 + 6) (iV M10 x0 3).toNatClampNeg (iV M10 (x0 + 6) ((iV M10 x0 3) - (1 : Int32)).toNatClampNeg)) (f2 := (72, [some (.ref x0), some (.int (x1)), some (.int (x2)), some (.long (x3)), none, some (.int (x5))], [])) rfl ⟨trivial, sm_K.g (kK_0 hS11 hx0) (sm_sh.rf _), trivial, trivial, sm_K.a2 (kK_6 hS11 hx0) (lK_6 hS11 hx0) c12, sm_K.s2 (kK_6 hS11 hx0) (lK_6 hS11 hx0) c13, trivial⟩ ?_
    have hS15 : SH (sm_wI M10 (x0 + 6) (iV M10 x0 3).toNatClampNeg (iV M10 (x0 + 6) ((iV M10 x0 3) - (1 : Int32)).toNatClampNeg)) := SH.wI hS11 _ _ _
    have h := h _ hS15 rfl
    generalize sm_wI M10 (x0 + 6) (iV M10 x0 3).toNatClampNeg (iV M10 (x0 + 6) ((iV M10 x0 3) - (1 : Int32)).toNatClampNeg) = M14 at h hS15 ⊢
    refine sm_w.run t102 sr102 41 2 (M2 := M14) (f2 := (76, [some (.ref x0), some (.int (x1)), some (.int (x2)), some (.long (x3)), none, some (.int (x5))], [va_rf (sm_rv M14 x0 8)])) rfl ⟨trivial, sm_K.g (kK_0 hS15 hx0) (sm_sh.rf _), trivial⟩ ?_
    refine sm_w.fld (rK_8 hS15 hx0) ?_
    refine sm_w.run t102 sr102 43 4 (M2 := M14) (f2 := (84, [some (.ref x0), some (.int (x1)), some (.int (x2)), some (.long (x3)), none, some (.int (x5))], [va_rf (sm_rv M14 x0 8), .int (iV M14 x0 3), .ref (x0 + 7)])) rfl ⟨trivial, sm_K.g (kK_0 hS15 hx0) (sm_sh.rf _), trivial, sm_K.g (kK_0 hS15 hx0) (sm_sh.rf _), trivial⟩ ?_
    refine sm_w.fld (rK_8 hS15 hx0) ?_
    obtain ⟨c16, c17, h⟩ := h
    refine sm_w.run t102 sr102 47 8 (M2 := sm_wJ M14 (x0 + 7) (iV M14 x0 3).toNatClampNeg ((jV M14 (x0 + 7) ((iV M14 x0 3) - (1 : Int32)).toNatClampNeg) + x3)) (f2 := (94, [some (.ref x0), some (.int (x1)), some (.int (x2)), some (.long (x3)), none, some (.int (x5))], [])) rfl ⟨trivial, sm_K.g (kK_0 hS15 hx0) (sm_sh.rf _), trivial, trivial, sm_K.a2 (kK_7 hS15 hx0) (lK_7 hS15 hx0) c16, trivial, trivial, sm_K.s2 (kK_7 hS15 hx0) (lK_7 hS15 hx0) c17, trivial⟩ ?_
    have hS19 : SH (sm_wJ M14 (x0 + 7) (iV M14 x0 3).toNatClampNeg ((jV M14 (x0 + 7) ((iV M14 x0 3) - (1 : Int32)).toNatClampNeg) + x3)) := SH.wJ hS15 _ _ _
    have h := h _ hS19 rfl
    generalize sm_wJ M14 (x0 + 7) (iV M14 x0 3).toNatClampNeg ((jV M14 (x0 + 7) ((iV M14 x0 3) - (1 : Int32)).toNatClampNeg) + x3) = M18 at h hS19 ⊢
    refine sm_w.run t102 sr102 55 2 (M2 := M18) (f2 := (98, [some (.ref x0), some (.int (x1)), some (.int (x2)), some (.long (x3)), none, some (.int (x5))], [va_rf (sm_rv M18 x0 9)])) rfl ⟨trivial, sm_K.g (kK_0 hS19 hx0) (sm_sh.rf _), trivial⟩ ?_
    refine sm_w.fld (rK_9 hS19 hx0) ?_
    refine sm_w.run t102 sr102 57 4 (M2 := M18) (f2 := (106, [some (.ref x0), some (.int (x1)), some (.int (x2)), some (.long (x3)), none, some (.int (x5))], [va_rf (sm_rv M18 x0 9), .int (iV M18 x0 3), .ref (x0 + 8)])) rfl ⟨trivial, sm_K.g (kK_0 hS19 hx0) (sm_sh.rf _), trivial, sm_K.g (kK_0 hS19 hx0) (sm_sh.rf _), trivial⟩ ?_
    refine sm_w.fld (rK_9 hS19 hx0) ?_
    obtain ⟨c20, c21, h⟩ := h
    refine sm_w.run t102 sr102 61 6 (M2 := sm_wJ M18 (x0 + 8) (iV M18 x0 3).toNatClampNeg (jV M18 (x0 + 8) ((iV M18 x0 3) - (1 : Int32)).toNatClampNeg)) (f2 := (114, [some (.ref x0), some (.int (x1)), some (.int (x2)), some (.long (x3)), none, some (.int (x5))], [])) rfl ⟨trivial, sm_K.g (kK_0 hS19 hx0) (sm_sh.rf _), trivial, trivial, sm_K.a2 (kK_8 hS19 hx0) (lK_8 hS19 hx0) c20, sm_K.s2 (kK_8 hS19 hx0) (lK_8 hS19 hx0) c21, trivial⟩ ?_
    have hS23 : SH (sm_wJ M18 (x0 + 8) (iV M18 x0 3).toNatClampNeg (jV M18 (x0 + 8) ((iV M18 x0 3) - (1 : Int32)).toNatClampNeg)) := SH.wJ hS19 _ _ _
    have h := h _ hS23 rfl
    generalize sm_wJ M18 (x0 + 8) (iV M18 x0 3).toNatClampNeg (jV M18 (x0 + 8) ((iV M18 x0 3) - (1 : Int32)).toNatClampNeg) = M22 at h hS23 ⊢
    refine sm_w.run t102 sr102 67 2 (M2 := M22) (f2 := (118, [some (.ref x0), some (.int (x1)), some (.int (x2)), some (.long (x3)), none, some (.int (x5))], [va_rf (sm_rv M22 x0 10)])) rfl ⟨trivial, sm_K.g (kK_0 hS23 hx0) (sm_sh.rf _), trivial⟩ ?_
    refine sm_w.fld (rK_10 hS23 hx0) ?_
    refine sm_w.run t102 sr102 69 4 (M2 := M22) (f2 := (126, [some (.ref x0), some (.int (x1)), some (.int (x2)), some (.long (x3)), none, some (.int (x5))], [va_rf (sm_rv M22 x0 10), .int (iV M22 x0 3), .ref (x0 + 9)])) rfl ⟨trivial, sm_K.g (kK_0 hS23 hx0) (sm_sh.rf _), trivial, sm_K.g (kK_0 hS23 hx0) (sm_sh.rf _), trivial⟩ ?_
    refine sm_w.fld (rK_10 hS23 hx0) ?_
    obtain ⟨c24, c25, h⟩ := h
    refine sm_w.run t102 sr102 73 6 (M2 := sm_wJ M22 (x0 + 9) (iV M22 x0 3).toNatClampNeg (jV M22 (x0 + 9) ((iV M22 x0 3) - (1 : Int32)).toNatClampNeg)) (f2 := (134, [some (.ref x0), some (.int (x1)), some (.int (x2)), some (.long (x3)), none, some (.int (x5))], [])) rfl ⟨trivial, sm_K.g (kK_0 hS23 hx0) (sm_sh.rf _), trivial, trivial, sm_K.a2 (kK_9 hS23 hx0) (lK_9 hS23 hx0) c24, sm_K.s2 (kK_9 hS23 hx0) (lK_9 hS23 hx0) c25, trivial⟩ ?_
    have hS27 : SH (sm_wJ M22 (x0 + 9) (iV M22 x0 3).toNatClampNeg (jV M22 (x0 + 9) ((iV M22 x0 3) - (1 : Int32)).toNatClampNeg)) := SH.wJ hS23 _ _ _
    have h := h _ hS27 rfl
    generalize sm_wJ M22 (x0 + 9) (iV M22 x0 3).toNatClampNeg (jV M22 (x0 + 9) ((iV M22 x0 3) - (1 : Int32)).toNatClampNeg) = M26 at h hS27 ⊢
    refine sm_w.run t102 sr102 79 2 (M2 := M26) (f2 := (138, [some (.ref x0), some (.int (x1)), some (.int (x2)), some (.long (x3)), none, some (.int (x5))], [va_rf (sm_rv M26 x0 11)])) rfl ⟨trivial, sm_K.g (kK_0 hS27 hx0) (sm_sh.rf _), trivial⟩ ?_
    refine sm_w.fld (rK_11 hS27 hx0) ?_
    refine sm_w.run t102 sr102 81 4 (M2 := M26) (f2 := (146, [some (.ref x0), some (.int (x1)), some (.int (x2)), some (.long (x3)), none, some (.int (x5))], [va_rf (sm_rv M26 x0 11), .int (iV M26 x0 3), .ref (x0 + 10)])) rfl ⟨trivial, sm_K.g (kK_0 hS27 hx0) (sm_sh.rf _), trivial, sm_K.g (kK_0 hS27 hx0) (sm_sh.rf _), trivial⟩ ?_
    refine sm_w.fld (rK_11 hS27 hx0) ?_
    obtain ⟨c28, c29, h⟩ := h
    refine sm_w.run t102 sr102 85 6 (M2 := sm_wJ M26 (x0 + 10) (iV M26 x0 3).toNatClampNeg (jV M26 (x0 + 10) ((iV M26 x0 3) - (1 : Int32)).toNatClampNeg)) (f2 := (154, [some (.ref x0), some (.int (x1)), some (.int (x2)), some (.long (x3)), none, some (.int (x5))], [])) rfl ⟨trivial, sm_K.g (kK_0 hS27 hx0) (sm_sh.rf _), trivial, trivial, sm_K.a2 (kK_10 hS27 hx0) (lK_10 hS27 hx0) c28, sm_K.s2 (kK_10 hS27 hx0) (lK_10 hS27 hx0) c29, trivial⟩ ?_
    have hS31 : SH (sm_wJ M26 (x0 + 10) (iV M26 x0 3).toNatClampNeg (jV M26 (x0 + 10) ((iV M26 x0 3) - (1 : Int32)).toNatClampNeg)) := SH.wJ hS27 _ _ _
    have h := h _ hS31 rfl
    generalize sm_wJ M26 (x0 + 10) (iV M26 x0 3).toNatClampNeg (jV M26 (x0 + 10) ((iV M26 x0 3) - (1 : Int32)).toNatClampNeg) = M30 at h hS31 ⊢
    refine sm_w.run t102 sr102 91 9 (M2 := sm_wJ M30 x0 12 (if (x3 + x5.toInt64) < (jV M30 x0 12) then (jV M30 x0 12) else (x3 + x5.toInt64))) (f2 := (170, [some (.ref x0), some (.int (x1)), some (.int (x2)), some (.long (x3)), none, some (.int (x5))], [])) rfl ⟨trivial, trivial, sm_K.g (kK_0 hS31 hx0) (sm_sh.rf _), trivial, trivial, trivial, trivial, (Nat.le_of_ble_eq_true rfl), ⟨(sm_K.p (kK_0 hS31 hx0) (sm_sh.rf _)).1, (sm_K.p (kK_0 hS31 hx0) (sm_sh.rf _)).2.1, (sm_K.p (kK_0 hS31 hx0) (sm_sh.rf _)).2.2, rfl⟩, trivial⟩ ?_
    have hS33 : SH (sm_wJ M30 x0 12 (if (x3 + x5.toInt64) < (jV M30 x0 12) then (jV M30 x0 12) else (x3 + x5.toInt64))) := SH.wJ hS31 _ _ _
    have h := h _ hS33 rfl
    generalize sm_wJ M30 x0 12 (if (x3 + x5.toInt64) < (jV M30 x0 12) then (jV M30 x0 12) else (x3 + x5.toInt64)) = M32 at h hS33 ⊢
    exact sm_w.end t102 sr102 100 (o := .returned none) (M2 := M32) rfl trivial (by decide) (⟨rfl, h⟩)
  · have h := h.2 hc
    exact sm_w.end t102 sr102 4 (o := .returned none) (M2 := M) rfl trivial (by decide) (⟨rfl, h⟩)
-- 103 LineSetter$Breaks.addGlue(I)V
theorem t103 : sP 103 = (2, sp_103, sh_103) := rfl
theorem sr103 : sm_srt sp_103 = true := by decide +kernel
theorem g103_0 {M : sm_M} {x0 : Nat} {x1 : Int32} {K : sm_M → Prop} (hS : SH M) (hx0 : fK x0) (h : (vp_in (iV M x0 3) 601) ∧ ∀ M2, SH M2 → M2 = sm_wI M (x0 + 6) (iV M x0 3).toNatClampNeg ((iV M (x0 + 6) (iV M x0 3).toNatClampNeg) + (1 : Int32)) → (vp_in (iV M2 x0 3) 601) ∧ ∀ M5, SH M5 → M5 = sm_wJ M2 (x0 + 8) (iV M2 x0 3).toNatClampNeg ((jV M2 (x0 + 8) (iV M2 x0 3).toNatClampNeg) + x1.toInt64) → (vp_in (iV M5 x0 3) 601) ∧ ∀ M8, SH M8 → M8 = sm_wJ M5 (x0 + 9) (iV M5 x0 3).toNatClampNeg ((jV M5 (x0 + 9) (iV M5 x0 3).toNatClampNeg) + ((x1 / (2 : Int32)).toInt64)) → (vp_in (iV M8 x0 3) 601) ∧ ∀ M11, SH M11 → M11 = sm_wJ M8 (x0 + 10) (iV M8 x0 3).toNatClampNeg ((jV M8 (x0 + 10) (iV M8 x0 3).toNatClampNeg) + ((x1 / (3 : Int32)).toInt64)) → K M11) : sm_w 103 (sm_in sP 103 [.ref x0, .int (x1)]) M (rV K) := by
  show sm_w 103 (0, [some (.ref x0), some (.int (x1))], []) M (rV K)
  refine sm_w.run t103 sr103 0 2 (M2 := M) (f2 := (4, [some (.ref x0), some (.int (x1))], [va_rf (sm_rv M x0 7)])) rfl ⟨trivial, sm_K.g (kK_0 hS hx0) (sm_sh.rf _), trivial⟩ ?_
  refine sm_w.fld (rK_7 hS hx0) ?_
  obtain ⟨c1, h⟩ := h
  refine sm_w.run t103 sr103 2 7 (M2 := sm_wI M (x0 + 6) (iV M x0 3).toNatClampNeg ((iV M (x0 + 6) (iV M x0 3).toNatClampNeg) + (1 : Int32))) (f2 := (13, [some (.ref x0), some (.int (x1))], [])) rfl ⟨trivial, sm_K.g (kK_0 hS hx0) (sm_sh.rf _), ⟨rfl, rfl⟩, sm_K.a2 (kK_6 hS hx0) (lK_6 hS hx0) c1, trivial, trivial, sm_K.s2 (kK_6 hS hx0) (lK_6 hS hx0) c1, trivial⟩ ?_
  have hS3 : SH (sm_wI M (x0 + 6) (iV M x0 3).toNatClampNeg ((iV M (x0 + 6) (iV M x0 3).toNatClampNeg) + (1 : Int32))) := SH.wI hS _ _ _
  have h := h _ hS3 rfl
  generalize sm_wI M (x0 + 6) (iV M x0 3).toNatClampNeg ((iV M (x0 + 6) (iV M x0 3).toNatClampNeg) + (1 : Int32)) = M2 at h hS3 ⊢
  refine sm_w.run t103 sr103 9 2 (M2 := M2) (f2 := (17, [some (.ref x0), some (.int (x1))], [va_rf (sm_rv M2 x0 9)])) rfl ⟨trivial, sm_K.g (kK_0 hS3 hx0) (sm_sh.rf _), trivial⟩ ?_
  refine sm_w.fld (rK_9 hS3 hx0) ?_
  obtain ⟨c4, h⟩ := h
  refine sm_w.run t103 sr103 11 8 (M2 := sm_wJ M2 (x0 + 8) (iV M2 x0 3).toNatClampNeg ((jV M2 (x0 + 8) (iV M2 x0 3).toNatClampNeg) + x1.toInt64)) (f2 := (27, [some (.ref x0), some (.int (x1))], [])) rfl ⟨trivial, sm_K.g (kK_0 hS3 hx0) (sm_sh.rf _), ⟨rfl, rfl⟩, sm_K.a2 (kK_8 hS3 hx0) (lK_8 hS3 hx0) c4, trivial, trivial, trivial, sm_K.s2 (kK_8 hS3 hx0) (lK_8 hS3 hx0) c4, trivial⟩ ?_
  have hS6 : SH (sm_wJ M2 (x0 + 8) (iV M2 x0 3).toNatClampNeg ((jV M2 (x0 + 8) (iV M2 x0 3).toNatClampNeg) + x1.toInt64)) := SH.wJ hS3 _ _ _
  have h := h _ hS6 rfl
  generalize sm_wJ M2 (x0 + 8) (iV M2 x0 3).toNatClampNeg ((jV M2 (x0 + 8) (iV M2 x0 3).toNatClampNeg) + x1.toInt64) = M5 at h hS6 ⊢
  refine sm_w.run t103 sr103 19 2 (M2 := M5) (f2 := (31, [some (.ref x0), some (.int (x1))], [va_rf (sm_rv M5 x0 10)])) rfl ⟨trivial, sm_K.g (kK_0 hS6 hx0) (sm_sh.rf _), trivial⟩ ?_
  refine sm_w.fld (rK_10 hS6 hx0) ?_
  obtain ⟨c7, h⟩ := h
  refine sm_w.run t103 sr103 21 10 (M2 := sm_wJ M5 (x0 + 9) (iV M5 x0 3).toNatClampNeg ((jV M5 (x0 + 9) (iV M5 x0 3).toNatClampNeg) + ((x1 / (2 : Int32)).toInt64))) (f2 := (43, [some (.ref x0), some (.int (x1))], [])) rfl ⟨trivial, sm_K.g (kK_0 hS6 hx0) (sm_sh.rf _), ⟨rfl, rfl⟩, sm_K.a2 (kK_9 hS6 hx0) (lK_9 hS6 hx0) c7, trivial, trivial, by decide, trivial, trivial, sm_K.s2 (kK_9 hS6 hx0) (lK_9 hS6 hx0) c7, trivial⟩ ?_
  have hS9 : SH (sm_wJ M5 (x0 + 9) (iV M5 x0 3).toNatClampNeg ((jV M5 (x0 + 9) (iV M5 x0 3).toNatClampNeg) + ((x1 / (2 : Int32)).toInt64))) := SH.wJ hS6 _ _ _
  have h := h _ hS9 rfl
  generalize sm_wJ M5 (x0 + 9) (iV M5 x0 3).toNatClampNeg ((jV M5 (x0 + 9) (iV M5 x0 3).toNatClampNeg) + ((x1 / (2 : Int32)).toInt64)) = M8 at h hS9 ⊢
  refine sm_w.run t103 sr103 31 2 (M2 := M8) (f2 := (47, [some (.ref x0), some (.int (x1))], [va_rf (sm_rv M8 x0 11)])) rfl ⟨trivial, sm_K.g (kK_0 hS9 hx0) (sm_sh.rf _), trivial⟩ ?_
  refine sm_w.fld (rK_11 hS9 hx0) ?_
  obtain ⟨c10, h⟩ := h
  refine sm_w.run t103 sr103 33 10 (M2 := sm_wJ M8 (x0 + 10) (iV M8 x0 3).toNatClampNeg ((jV M8 (x0 + 10) (iV M8 x0 3).toNatClampNeg) + ((x1 / (3 : Int32)).toInt64))) (f2 := (59, [some (.ref x0), some (.int (x1))], [])) rfl ⟨trivial, sm_K.g (kK_0 hS9 hx0) (sm_sh.rf _), ⟨rfl, rfl⟩, sm_K.a2 (kK_10 hS9 hx0) (lK_10 hS9 hx0) c10, trivial, trivial, by decide, trivial, trivial, sm_K.s2 (kK_10 hS9 hx0) (lK_10 hS9 hx0) c10, trivial⟩ ?_
  have hS12 : SH (sm_wJ M8 (x0 + 10) (iV M8 x0 3).toNatClampNeg ((jV M8 (x0 + 10) (iV M8 x0 3).toNatClampNeg) + ((x1 / (3 : Int32)).toInt64))) := SH.wJ hS9 _ _ _
  have h := h _ hS12 rfl
  generalize sm_wJ M8 (x0 + 10) (iV M8 x0 3).toNatClampNeg ((jV M8 (x0 + 10) (iV M8 x0 3).toNatClampNeg) + ((x1 / (3 : Int32)).toInt64)) = M11 at h hS12 ⊢
  exact sm_w.end t103 sr103 43 (o := .returned none) (M2 := M11) rfl trivial (by decide) (⟨rfl, h⟩)
