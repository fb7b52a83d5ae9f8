/-! THE PROGRAM IS RIGHT: all that sm_OK asks but the addresses. -/
theorem sm_nthO {α : Type} (d : α) : ∀ (l : List α) (n : Nat), l.length ≤ n → sm_nth d l n = d
  | [], _, _ => rfl
  | _ :: r, 0, h => by simp at h
  | _ :: r, n + 1, h => sm_nthO d r n (by simpa using h)
def sTs : List Cond := lw_tbl.filter sm_gdB
theorem sTsE {ps : List Nat} {ws : List Cond} (h : ws = sm_pick lw_tbl ps) (hg : ws.all sm_gdB = true) : ∀ x ∈ ws, x ∈ sTs := fun x hx => List.mem_filter.mpr ⟨sm_pickE (by rw [← h]; exact hx), List.all_eq_true.mp hg x hx⟩
def sm_okP (mi : Nat) : Prop := (∀ q ∈ (sP mi).2.1, sm_okR mi q = true) ∧ (∀ x ∈ (sJ mi).2.2.2.2, x ∈ sTs) ∧ (sJ mi).2.2.2.1 = (sP mi).2.2.map (fun q => (q.1, q.2.1, q.2.2.1, q.2.2.2 / 64))
theorem sP_0 : sP 0 = (1, sp_0, sh_0) := rfl
theorem sJ_0 : sJ 0 = sj_0 := rfl
theorem so_0 : sm_okP 0 := by
  unfold sm_okP
  rw [sP_0, sJ_0]
  refine ⟨fun q hq => List.all_eq_true.mp sk_0 q hq, fun x hx => ?_, rfl⟩
  unfold sj_0 at hx
  dsimp only at hx
  exact sTsE (ws := sw_0) (by unfold sw_0; rfl) (by decide +kernel) x hx
theorem sP_1 : sP 1 = (2, sp_1, sh_1) := rfl
theorem sJ_1 : sJ 1 = sj_1 := rfl
theorem so_1 : sm_okP 1 := by
  unfold sm_okP
  rw [sP_1, sJ_1]
  refine ⟨fun q hq => List.all_eq_true.mp sk_1 q hq, fun x hx => ?_, rfl⟩
  unfold sj_1 at hx
  dsimp only at hx
  exact sTsE (ws := sw_1) (by unfold sw_1; rfl) (by decide +kernel) x hx
theorem sP_2 : sP 2 = (1, sp_2, sh_2) := rfl
theorem sJ_2 : sJ 2 = sj_2 := rfl
theorem so_2 : sm_okP 2 := by
  unfold sm_okP
  rw [sP_2, sJ_2]
  refine ⟨fun q hq => List.all_eq_true.mp sk_2 q hq, fun x hx => ?_, rfl⟩
  unfold sj_2 at hx
  dsimp only at hx
  exact sTsE (ws := sw_2) (by unfold sw_2; rfl) (by decide +kernel) x hx
theorem sP_3 : sP 3 = (2, sp_3, sh_3) := rfl
theorem sJ_3 : sJ 3 = sj_3 := rfl
theorem so_3 : sm_okP 3 := by
  unfold sm_okP
  rw [sP_3, sJ_3]
  refine ⟨fun q hq => List.all_eq_true.mp sk_3 q hq, fun x hx => ?_, rfl⟩
  unfold sj_3 at hx
  dsimp only at hx
  exact sTsE (ws := sw_3) (by unfold sw_3; rfl) (by decide +kernel) x hx
theorem sP_4 : sP 4 = (2, sp_4, sh_4) := rfl
theorem sJ_4 : sJ 4 = sj_4 := rfl
theorem so_4 : sm_okP 4 := by
  unfold sm_okP
  rw [sP_4, sJ_4]
  refine ⟨fun q hq => List.all_eq_true.mp sk_4 q hq, fun x hx => ?_, rfl⟩
  unfold sj_4 at hx
  dsimp only at hx
  exact sTsE (ws := sw_4) (by unfold sw_4; rfl) (by decide +kernel) x hx
theorem sP_5 : sP 5 = (1, sp_5, sh_5) := rfl
theorem sJ_5 : sJ 5 = sj_5 := rfl
theorem so_5 : sm_okP 5 := by
  unfold sm_okP
  rw [sP_5, sJ_5]
  refine ⟨fun q hq => List.all_eq_true.mp sk_5 q hq, fun x hx => ?_, rfl⟩
  unfold sj_5 at hx
  dsimp only at hx
  exact sTsE (ws := sw_5) (by unfold sw_5; rfl) (by decide +kernel) x hx
theorem sP_6 : sP 6 = (1, sp_6, sh_6) := rfl
theorem sJ_6 : sJ 6 = sj_6 := rfl
theorem so_6 : sm_okP 6 := by
  unfold sm_okP
  rw [sP_6, sJ_6]
  refine ⟨fun q hq => List.all_eq_true.mp sk_6 q hq, fun x hx => ?_, rfl⟩
  unfold sj_6 at hx
  dsimp only at hx
  exact sTsE (ws := sw_6) (by unfold sw_6; rfl) (by decide +kernel) x hx
theorem sP_7 : sP 7 = (1, sp_7, sh_7) := rfl
theorem sJ_7 : sJ 7 = sj_7 := rfl
theorem so_7 : sm_okP 7 := by
  unfold sm_okP
  rw [sP_7, sJ_7]
  refine ⟨fun q hq => List.all_eq_true.mp sk_7 q hq, fun x hx => ?_, rfl⟩
  unfold sj_7 at hx
  dsimp only at hx
  exact sTsE (ws := sw_7) (by unfold sw_7; rfl) (by decide +kernel) x hx
theorem sP_8 : sP 8 = (3, sp_8, sh_8) := rfl
theorem sJ_8 : sJ 8 = sj_8 := rfl
theorem so_8 : sm_okP 8 := by
  unfold sm_okP
  rw [sP_8, sJ_8]
  refine ⟨fun q hq => List.all_eq_true.mp sk_8 q hq, fun x hx => ?_, rfl⟩
  unfold sj_8 at hx
  dsimp only at hx
  exact sTsE (ws := sw_8) (by unfold sw_8; rfl) (by decide +kernel) x hx
theorem sP_9 : sP 9 = (4, sp_9, sh_9) := rfl
theorem sJ_9 : sJ 9 = sj_9 := rfl
theorem so_9 : sm_okP 9 := by
  unfold sm_okP
  rw [sP_9, sJ_9]
  refine ⟨fun q hq => List.all_eq_true.mp sk_9 q hq, fun x hx => ?_, rfl⟩
  unfold sj_9 at hx
  dsimp only at hx
  exact sTsE (ws := sw_9) (by unfold sw_9; rfl) (by decide +kernel) x hx
theorem sP_10 : sP 10 = (1, sp_10, sh_10) := rfl
theorem sJ_10 : sJ 10 = sj_10 := rfl
theorem so_10 : sm_okP 10 := by
  unfold sm_okP
  rw [sP_10, sJ_10]
  refine ⟨fun q hq => List.all_eq_true.mp sk_10 q hq, fun x hx => ?_, rfl⟩
  unfold sj_10 at hx
  dsimp only at hx
  exact sTsE (ws := sw_10) (by unfold sw_10; rfl) (by decide +kernel) x hx
theorem sP_11 : sP 11 = (1, sp_11, sh_11) := rfl
theorem sJ_11 : sJ 11 = sj_11 := rfl
theorem so_11 : sm_okP 11 := by
  unfold sm_okP
  rw [sP_11, sJ_11]
  refine ⟨fun q hq => List.all_eq_true.mp sk_11 q hq, fun x hx => ?_, rfl⟩
  unfold sj_11 at hx
  dsimp only at hx
  exact sTsE (ws := sw_11) (by unfold sw_11; rfl) (by decide +kernel) x hx
theorem sP_12 : sP 12 = (1, sp_12, sh_12) := rfl
theorem sJ_12 : sJ 12 = sj_12 := rfl
theorem so_12 : sm_okP 12 := by
  unfold sm_okP
  rw [sP_12, sJ_12]
  refine ⟨fun q hq => List.all_eq_true.mp sk_12 q hq, fun x hx => ?_, rfl⟩
  unfold sj_12 at hx
  dsimp only at hx
  exact sTsE (ws := sw_12) (by unfold sw_12; rfl) (by decide +kernel) x hx
theorem sP_13 : sP 13 = (1, sp_13, sh_13) := rfl
theorem sJ_13 : sJ 13 = sj_13 := rfl
theorem so_13 : sm_okP 13 := by
  unfold sm_okP
  rw [sP_13, sJ_13]
  refine ⟨fun q hq => List.all_eq_true.mp sk_13 q hq, fun x hx => ?_, rfl⟩
  unfold sj_13 at hx
  dsimp only at hx
  exact sTsE (ws := sw_13) (by unfold sw_13; rfl) (by decide +kernel) x hx
theorem sP_14 : sP 14 = (1, sp_14, sh_14) := rfl
theorem sJ_14 : sJ 14 = sj_14 := rfl
theorem so_14 : sm_okP 14 := by
  unfold sm_okP
  rw [sP_14, sJ_14]
  refine ⟨fun q hq => List.all_eq_true.mp sk_14 q hq, fun x hx => ?_, rfl⟩
  unfold sj_14 at hx
  dsimp only at hx
  exact sTsE (ws := sw_14) (by unfold sw_14; rfl) (by decide +kernel) x hx
theorem sP_15 : sP 15 = (1, sp_15, sh_15) := rfl
theorem sJ_15 : sJ 15 = sj_15 := rfl
theorem so_15 : sm_okP 15 := by
  unfold sm_okP
  rw [sP_15, sJ_15]
  refine ⟨fun q hq => List.all_eq_true.mp sk_15 q hq, fun x hx => ?_, rfl⟩
  unfold sj_15 at hx
  dsimp only at hx
  exact sTsE (ws := sw_15) (by unfold sw_15; rfl) (by decide +kernel) x hx
theorem sP_16 : sP 16 = (2, sp_16, sh_16) := rfl
theorem sJ_16 : sJ 16 = sj_16 := rfl
theorem so_16 : sm_okP 16 := by
  unfold sm_okP
  rw [sP_16, sJ_16]
  refine ⟨fun q hq => List.all_eq_true.mp sk_16 q hq, fun x hx => ?_, rfl⟩
  unfold sj_16 at hx
  dsimp only at hx
  exact sTsE (ws := sw_16) (by unfold sw_16; rfl) (by decide +kernel) x hx
theorem sP_17 : sP 17 = (8, sp_17, sh_17) := rfl
theorem sJ_17 : sJ 17 = sj_17 := rfl
theorem so_17 : sm_okP 17 := by
  unfold sm_okP
  rw [sP_17, sJ_17]
  refine ⟨fun q hq => List.all_eq_true.mp sk_17 q hq, fun x hx => ?_, rfl⟩
  unfold sj_17 at hx
  dsimp only at hx
  exact sTsE (ws := sw_17) (by unfold sw_17; rfl) (by decide +kernel) x hx
theorem sP_18 : sP 18 = (6, sp_18, sh_18) := rfl
theorem sJ_18 : sJ 18 = sj_18 := rfl
theorem so_18 : sm_okP 18 := by
  unfold sm_okP
  rw [sP_18, sJ_18]
  refine ⟨fun q hq => List.all_eq_true.mp sk_18 q hq, fun x hx => ?_, rfl⟩
  unfold sj_18 at hx
  dsimp only at hx
  exact sTsE (ws := sw_18) (by unfold sw_18; rfl) (by decide +kernel) x hx
theorem sP_19 : sP 19 = (2, sp_19, sh_19) := rfl
theorem sJ_19 : sJ 19 = sj_19 := rfl
theorem so_19 : sm_okP 19 := by
  unfold sm_okP
  rw [sP_19, sJ_19]
  refine ⟨fun q hq => List.all_eq_true.mp sk_19 q hq, fun x hx => ?_, rfl⟩
  unfold sj_19 at hx
  dsimp only at hx
  exact sTsE (ws := sw_19) (by unfold sw_19; rfl) (by decide +kernel) x hx
theorem sP_20 : sP 20 = (2, sp_20, sh_20) := rfl
theorem sJ_20 : sJ 20 = sj_20 := rfl
theorem so_20 : sm_okP 20 := by
  unfold sm_okP
  rw [sP_20, sJ_20]
  refine ⟨fun q hq => List.all_eq_true.mp sk_20 q hq, fun x hx => ?_, rfl⟩
  unfold sj_20 at hx
  dsimp only at hx
  exact sTsE (ws := sw_20) (by unfold sw_20; rfl) (by decide +kernel) x hx
theorem sP_21 : sP 21 = (4, sp_21, sh_21) := rfl
theorem sJ_21 : sJ 21 = sj_21 := rfl
theorem so_21 : sm_okP 21 := by
  unfold sm_okP
  rw [sP_21, sJ_21]
  refine ⟨fun q hq => List.all_eq_true.mp sk_21 q hq, fun x hx => ?_, rfl⟩
  unfold sj_21 at hx
  dsimp only at hx
  exact sTsE (ws := sw_21) (by unfold sw_21; rfl) (by decide +kernel) x hx
theorem sP_22 : sP 22 = (2, sp_22, sh_22) := rfl
theorem sJ_22 : sJ 22 = sj_22 := rfl
theorem so_22 : sm_okP 22 := by
  unfold sm_okP
  rw [sP_22, sJ_22]
  refine ⟨fun q hq => List.all_eq_true.mp sk_22 q hq, fun x hx => ?_, rfl⟩
  unfold sj_22 at hx
  dsimp only at hx
  exact sTsE (ws := sw_22) (by unfold sw_22; rfl) (by decide +kernel) x hx
theorem sP_23 : sP 23 = (3, sp_23, sh_23) := rfl
theorem sJ_23 : sJ 23 = sj_23 := rfl
theorem so_23 : sm_okP 23 := by
  unfold sm_okP
  rw [sP_23, sJ_23]
  refine ⟨fun q hq => List.all_eq_true.mp sk_23 q hq, fun x hx => ?_, rfl⟩
  unfold sj_23 at hx
  dsimp only at hx
  exact sTsE (ws := sw_23) (by unfold sw_23; rfl) (by decide +kernel) x hx
theorem sP_24 : sP 24 = (2, sp_24, sh_24) := rfl
theorem sJ_24 : sJ 24 = sj_24 := rfl
theorem so_24 : sm_okP 24 := by
  unfold sm_okP
  rw [sP_24, sJ_24]
  refine ⟨fun q hq => List.all_eq_true.mp sk_24 q hq, fun x hx => ?_, rfl⟩
  unfold sj_24 at hx
  dsimp only at hx
  exact sTsE (ws := sw_24) (by unfold sw_24; rfl) (by decide +kernel) x hx
theorem sP_25 : sP 25 = (4, sp_25, sh_25) := rfl
theorem sJ_25 : sJ 25 = sj_25 := rfl
theorem so_25 : sm_okP 25 := by
  unfold sm_okP
  rw [sP_25, sJ_25]
  refine ⟨fun q hq => List.all_eq_true.mp sk_25 q hq, fun x hx => ?_, rfl⟩
  unfold sj_25 at hx
  dsimp only at hx
  exact sTsE (ws := sw_25) (by unfold sw_25; rfl) (by decide +kernel) x hx
theorem sP_26 : sP 26 = (1, sp_26, sh_26) := rfl
theorem sJ_26 : sJ 26 = sj_26 := rfl
theorem so_26 : sm_okP 26 := by
  unfold sm_okP
  rw [sP_26, sJ_26]
  refine ⟨fun q hq => List.all_eq_true.mp sk_26 q hq, fun x hx => ?_, rfl⟩
  unfold sj_26 at hx
  dsimp only at hx
  exact sTsE (ws := sw_26) (by unfold sw_26; rfl) (by decide +kernel) x hx
theorem sP_27 : sP 27 = (1, sp_27, sh_27) := rfl
theorem sJ_27 : sJ 27 = sj_27 := rfl
theorem so_27 : sm_okP 27 := by
  unfold sm_okP
  rw [sP_27, sJ_27]
  refine ⟨fun q hq => List.all_eq_true.mp sk_27 q hq, fun x hx => ?_, rfl⟩
  unfold sj_27 at hx
  dsimp only at hx
  exact sTsE (ws := sw_27) (by unfold sw_27; rfl) (by decide +kernel) x hx
theorem sP_28 : sP 28 = (1, sp_28, sh_28) := rfl
theorem sJ_28 : sJ 28 = sj_28 := rfl
theorem so_28 : sm_okP 28 := by
  unfold sm_okP
  rw [sP_28, sJ_28]
  refine ⟨fun q hq => List.all_eq_true.mp sk_28 q hq, fun x hx => ?_, rfl⟩
  unfold sj_28 at hx
  dsimp only at hx
  exact sTsE (ws := sw_28) (by unfold sw_28; rfl) (by decide +kernel) x hx
theorem sP_29 : sP 29 = (3, sp_29, sh_29) := rfl
theorem sJ_29 : sJ 29 = sj_29 := rfl
theorem so_29 : sm_okP 29 := by
  unfold sm_okP
  rw [sP_29, sJ_29]
  refine ⟨fun q hq => List.all_eq_true.mp sk_29 q hq, fun x hx => ?_, rfl⟩
  unfold sj_29 at hx
  dsimp only at hx
  exact sTsE (ws := sw_29) (by unfold sw_29; rfl) (by decide +kernel) x hx
theorem sP_30 : sP 30 = (2, sp_30, sh_30) := rfl
theorem sJ_30 : sJ 30 = sj_30 := rfl
theorem so_30 : sm_okP 30 := by
  unfold sm_okP
  rw [sP_30, sJ_30]
  refine ⟨fun q hq => List.all_eq_true.mp sk_30 q hq, fun x hx => ?_, rfl⟩
  unfold sj_30 at hx
  dsimp only at hx
  exact sTsE (ws := sw_30) (by unfold sw_30; rfl) (by decide +kernel) x hx
theorem sP_31 : sP 31 = (1, sp_31, sh_31) := rfl
theorem sJ_31 : sJ 31 = sj_31 := rfl
theorem so_31 : sm_okP 31 := by
  unfold sm_okP
  rw [sP_31, sJ_31]
  refine ⟨fun q hq => List.all_eq_true.mp sk_31 q hq, fun x hx => ?_, rfl⟩
  unfold sj_31 at hx
  dsimp only at hx
  exact sTsE (ws := sw_31) (by unfold sw_31; rfl) (by decide +kernel) x hx
theorem sP_32 : sP 32 = (2, sp_32, sh_32) := rfl
theorem sJ_32 : sJ 32 = sj_32 := rfl
theorem so_32 : sm_okP 32 := by
  unfold sm_okP
  rw [sP_32, sJ_32]
  refine ⟨fun q hq => List.all_eq_true.mp sk_32 q hq, fun x hx => ?_, rfl⟩
  unfold sj_32 at hx
  dsimp only at hx
  exact sTsE (ws := sw_32) (by unfold sw_32; rfl) (by decide +kernel) x hx
theorem sP_33 : sP 33 = (3, sp_33, sh_33) := rfl
theorem sJ_33 : sJ 33 = sj_33 := rfl
theorem so_33 : sm_okP 33 := by
  unfold sm_okP
  rw [sP_33, sJ_33]
  refine ⟨fun q hq => List.all_eq_true.mp sk_33 q hq, fun x hx => ?_, rfl⟩
  unfold sj_33 at hx
  dsimp only at hx
  exact sTsE (ws := sw_33) (by unfold sw_33; rfl) (by decide +kernel) x hx
theorem sP_34 : sP 34 = (1, sp_34, sh_34) := rfl
theorem sJ_34 : sJ 34 = sj_34 := rfl
theorem so_34 : sm_okP 34 := by
  unfold sm_okP
  rw [sP_34, sJ_34]
  refine ⟨fun q hq => List.all_eq_true.mp sk_34 q hq, fun x hx => ?_, rfl⟩
  unfold sj_34 at hx
  dsimp only at hx
  exact sTsE (ws := sw_34) (by unfold sw_34; rfl) (by decide +kernel) x hx
theorem sP_35 : sP 35 = (1, sp_35, sh_35) := rfl
theorem sJ_35 : sJ 35 = sj_35 := rfl
theorem so_35 : sm_okP 35 := by
  unfold sm_okP
  rw [sP_35, sJ_35]
  refine ⟨fun q hq => List.all_eq_true.mp sk_35 q hq, fun x hx => ?_, rfl⟩
  unfold sj_35 at hx
  dsimp only at hx
  exact sTsE (ws := sw_35) (by unfold sw_35; rfl) (by decide +kernel) x hx
theorem sP_36 : sP 36 = (4, sp_36, sh_36) := rfl
theorem sJ_36 : sJ 36 = sj_36 := rfl
theorem so_36 : sm_okP 36 := by
  unfold sm_okP
  rw [sP_36, sJ_36]
  refine ⟨fun q hq => List.all_eq_true.mp sk_36 q hq, fun x hx => ?_, rfl⟩
  unfold sj_36 at hx
  dsimp only at hx
  exact sTsE (ws := sw_36) (by unfold sw_36; rfl) (by decide +kernel) x hx
theorem sP_37 : sP 37 = (2, sp_37, sh_37) := rfl
theorem sJ_37 : sJ 37 = sj_37 := rfl
theorem so_37 : sm_okP 37 := by
  unfold sm_okP
  rw [sP_37, sJ_37]
  refine ⟨fun q hq => List.all_eq_true.mp sk_37 q hq, fun x hx => ?_, rfl⟩
  unfold sj_37 at hx
  dsimp only at hx
  exact sTsE (ws := sw_37) (by unfold sw_37; rfl) (by decide +kernel) x hx
theorem sP_38 : sP 38 = (1, sp_38, sh_38) := rfl
theorem sJ_38 : sJ 38 = sj_38 := rfl
theorem so_38 : sm_okP 38 := by
  unfold sm_okP
  rw [sP_38, sJ_38]
  refine ⟨fun q hq => List.all_eq_true.mp sk_38 q hq, fun x hx => ?_, rfl⟩
  unfold sj_38 at hx
  dsimp only at hx
  exact sTsE (ws := sw_38) (by unfold sw_38; rfl) (by decide +kernel) x hx
theorem sP_39 : sP 39 = (2, sp_39, sh_39) := rfl
theorem sJ_39 : sJ 39 = sj_39 := rfl
theorem so_39 : sm_okP 39 := by
  unfold sm_okP
  rw [sP_39, sJ_39]
  refine ⟨fun q hq => List.all_eq_true.mp sk_39 q hq, fun x hx => ?_, rfl⟩
  unfold sj_39 at hx
  dsimp only at hx
  exact sTsE (ws := sw_39) (by unfold sw_39; rfl) (by decide +kernel) x hx
theorem sP_40 : sP 40 = (2, sp_40, sh_40) := rfl
theorem sJ_40 : sJ 40 = sj_40 := rfl
theorem so_40 : sm_okP 40 := by
  unfold sm_okP
  rw [sP_40, sJ_40]
  refine ⟨fun q hq => List.all_eq_true.mp sk_40 q hq, fun x hx => ?_, rfl⟩
  unfold sj_40 at hx
  dsimp only at hx
  exact sTsE (ws := sw_40) (by unfold sw_40; rfl) (by decide +kernel) x hx
theorem sP_41 : sP 41 = (1, sp_41, sh_41) := rfl
theorem sJ_41 : sJ 41 = sj_41 := rfl
theorem so_41 : sm_okP 41 := by
  unfold sm_okP
  rw [sP_41, sJ_41]
  refine ⟨fun q hq => List.all_eq_true.mp sk_41 q hq, fun x hx => ?_, rfl⟩
  unfold sj_41 at hx
  dsimp only at hx
  exact sTsE (ws := sw_41) (by unfold sw_41; rfl) (by decide +kernel) x hx
theorem sP_42 : sP 42 = (1, sp_42, sh_42) := rfl
theorem sJ_42 : sJ 42 = sj_42 := rfl
theorem so_42 : sm_okP 42 := by
  unfold sm_okP
  rw [sP_42, sJ_42]
  refine ⟨fun q hq => List.all_eq_true.mp sk_42 q hq, fun x hx => ?_, rfl⟩
  unfold sj_42 at hx
  dsimp only at hx
  exact sTsE (ws := sw_42) (by unfold sw_42; rfl) (by decide +kernel) x hx
theorem sP_43 : sP 43 = (4, sp_43, sh_43) := rfl
theorem sJ_43 : sJ 43 = sj_43 := rfl
theorem so_43 : sm_okP 43 := by
  unfold sm_okP
  rw [sP_43, sJ_43]
  refine ⟨fun q hq => List.all_eq_true.mp sk_43 q hq, fun x hx => ?_, rfl⟩
  unfold sj_43 at hx
  dsimp only at hx
  exact sTsE (ws := sw_43) (by unfold sw_43; rfl) (by decide +kernel) x hx
theorem sP_44 : sP 44 = (3, sp_44, sh_44) := rfl
theorem sJ_44 : sJ 44 = sj_44 := rfl
theorem so_44 : sm_okP 44 := by
  unfold sm_okP
  rw [sP_44, sJ_44]
  refine ⟨fun q hq => List.all_eq_true.mp sk_44 q hq, fun x hx => ?_, rfl⟩
  unfold sj_44 at hx
  dsimp only at hx
  exact sTsE (ws := sw_44) (by unfold sw_44; rfl) (by decide +kernel) x hx
theorem sP_45 : sP 45 = (1, sp_45, sh_45) := rfl
theorem sJ_45 : sJ 45 = sj_45 := rfl
theorem so_45 : sm_okP 45 := by
  unfold sm_okP
  rw [sP_45, sJ_45]
  refine ⟨fun q hq => List.all_eq_true.mp sk_45 q hq, fun x hx => ?_, rfl⟩
  unfold sj_45 at hx
  dsimp only at hx
  exact sTsE (ws := sw_45) (by unfold sw_45; rfl) (by decide +kernel) x hx
theorem sP_46 : sP 46 = (4, sp_46, sh_46) := rfl
theorem sJ_46 : sJ 46 = sj_46 := rfl
theorem so_46 : sm_okP 46 := by
  unfold sm_okP
  rw [sP_46, sJ_46]
  refine ⟨fun q hq => List.all_eq_true.mp sk_46 q hq, fun x hx => ?_, rfl⟩
  unfold sj_46 at hx
  dsimp only at hx
  exact sTsE (ws := sw_46) (by unfold sw_46; rfl) (by decide +kernel) x hx
theorem sP_47 : sP 47 = (0, sp_47, sh_47) := rfl
theorem sJ_47 : sJ 47 = sj_47 := rfl
theorem so_47 : sm_okP 47 := by
  unfold sm_okP
  rw [sP_47, sJ_47]
  refine ⟨fun q hq => List.all_eq_true.mp sk_47 q hq, fun x hx => ?_, rfl⟩
  unfold sj_47 at hx
  dsimp only at hx
  exact sTsE (ws := sw_47) (by unfold sw_47; rfl) (by decide +kernel) x hx
theorem sP_48 : sP 48 = (2, sp_48, sh_48) := rfl
theorem sJ_48 : sJ 48 = sj_48 := rfl
theorem so_48 : sm_okP 48 := by
  unfold sm_okP
  rw [sP_48, sJ_48]
  refine ⟨fun q hq => List.all_eq_true.mp sk_48 q hq, fun x hx => ?_, rfl⟩
  unfold sj_48 at hx
  dsimp only at hx
  exact sTsE (ws := sw_48) (by unfold sw_48; rfl) (by decide +kernel) x hx
theorem sP_49 : sP 49 = (3, sp_49, sh_49) := rfl
theorem sJ_49 : sJ 49 = sj_49 := rfl
theorem so_49 : sm_okP 49 := by
  unfold sm_okP
  rw [sP_49, sJ_49]
  refine ⟨fun q hq => List.all_eq_true.mp sk_49 q hq, fun x hx => ?_, rfl⟩
  unfold sj_49 at hx
  dsimp only at hx
  exact sTsE (ws := sw_49) (by unfold sw_49; rfl) (by decide +kernel) x hx
theorem sP_50 : sP 50 = (9, sp_50, sh_50) := rfl
theorem sJ_50 : sJ 50 = sj_50 := rfl
theorem so_50 : sm_okP 50 := by
  unfold sm_okP
  rw [sP_50, sJ_50]
  refine ⟨fun q hq => List.all_eq_true.mp sk_50 q hq, fun x hx => ?_, rfl⟩
  unfold sj_50 at hx
  dsimp only at hx
  exact sTsE (ws := sw_50) (by unfold sw_50; rfl) (by decide +kernel) x hx
theorem sP_51 : sP 51 = (3, sp_51, sh_51) := rfl
theorem sJ_51 : sJ 51 = sj_51 := rfl
theorem so_51 : sm_okP 51 := by
  unfold sm_okP
  rw [sP_51, sJ_51]
  refine ⟨fun q hq => List.all_eq_true.mp sk_51 q hq, fun x hx => ?_, rfl⟩
  unfold sj_51 at hx
  dsimp only at hx
  exact sTsE (ws := sw_51) (by unfold sw_51; rfl) (by decide +kernel) x hx
theorem sP_52 : sP 52 = (5, sp_52, sh_52) := rfl
theorem sJ_52 : sJ 52 = sj_52 := rfl
theorem so_52 : sm_okP 52 := by
  unfold sm_okP
  rw [sP_52, sJ_52]
  refine ⟨fun q hq => List.all_eq_true.mp sk_52 q hq, fun x hx => ?_, rfl⟩
  unfold sj_52 at hx
  dsimp only at hx
  exact sTsE (ws := sw_52) (by unfold sw_52; rfl) (by decide +kernel) x hx
theorem sP_53 : sP 53 = (5, sp_53, sh_53) := rfl
theorem sJ_53 : sJ 53 = sj_53 := rfl
theorem so_53 : sm_okP 53 := by
  unfold sm_okP
  rw [sP_53, sJ_53]
  refine ⟨fun q hq => List.all_eq_true.mp sk_53 q hq, fun x hx => ?_, rfl⟩
  unfold sj_53 at hx
  dsimp only at hx
  exact sTsE (ws := sw_53) (by unfold sw_53; rfl) (by decide +kernel) x hx
theorem sP_54 : sP 54 = (1, sp_54, sh_54) := rfl
theorem sJ_54 : sJ 54 = sj_54 := rfl
theorem so_54 : sm_okP 54 := by
  unfold sm_okP
  rw [sP_54, sJ_54]
  refine ⟨fun q hq => List.all_eq_true.mp sk_54 q hq, fun x hx => ?_, rfl⟩
  unfold sj_54 at hx
  dsimp only at hx
  exact sTsE (ws := sw_54) (by unfold sw_54; rfl) (by decide +kernel) x hx
theorem sP_55 : sP 55 = (3, sp_55, sh_55) := rfl
theorem sJ_55 : sJ 55 = sj_55 := rfl
theorem so_55 : sm_okP 55 := by
  unfold sm_okP
  rw [sP_55, sJ_55]
  refine ⟨fun q hq => List.all_eq_true.mp sk_55 q hq, fun x hx => ?_, rfl⟩
  unfold sj_55 at hx
  dsimp only at hx
  exact sTsE (ws := sw_55) (by unfold sw_55; rfl) (by decide +kernel) x hx
theorem sP_56 : sP 56 = (2, sp_56, sh_56) := rfl
theorem sJ_56 : sJ 56 = sj_56 := rfl
theorem so_56 : sm_okP 56 := by
  unfold sm_okP
  rw [sP_56, sJ_56]
  refine ⟨fun q hq => List.all_eq_true.mp sk_56 q hq, fun x hx => ?_, rfl⟩
  unfold sj_56 at hx
  dsimp only at hx
  exact sTsE (ws := sw_56) (by unfold sw_56; rfl) (by decide +kernel) x hx
theorem sP_57 : sP 57 = (3, sp_57, sh_57) := rfl
theorem sJ_57 : sJ 57 = sj_57 := rfl
theorem so_57 : sm_okP 57 := by
  unfold sm_okP
  rw [sP_57, sJ_57]
  refine ⟨fun q hq => List.all_eq_true.mp sk_57 q hq, fun x hx => ?_, rfl⟩
  unfold sj_57 at hx
  dsimp only at hx
  exact sTsE (ws := sw_57) (by unfold sw_57; rfl) (by decide +kernel) x hx
theorem sP_58 : sP 58 = (1, sp_58, sh_58) := rfl
theorem sJ_58 : sJ 58 = sj_58 := rfl
theorem so_58 : sm_okP 58 := by
  unfold sm_okP
  rw [sP_58, sJ_58]
  refine ⟨fun q hq => List.all_eq_true.mp sk_58 q hq, fun x hx => ?_, rfl⟩
  unfold sj_58 at hx
  dsimp only at hx
  exact sTsE (ws := sw_58) (by unfold sw_58; rfl) (by decide +kernel) x hx
theorem sP_59 : sP 59 = (3, sp_59, sh_59) := rfl
theorem sJ_59 : sJ 59 = sj_59 := rfl
theorem so_59 : sm_okP 59 := by
  unfold sm_okP
  rw [sP_59, sJ_59]
  refine ⟨fun q hq => List.all_eq_true.mp sk_59 q hq, fun x hx => ?_, rfl⟩
  unfold sj_59 at hx
  dsimp only at hx
  exact sTsE (ws := sw_59) (by unfold sw_59; rfl) (by decide +kernel) x hx
theorem sP_60 : sP 60 = (2, sp_60, sh_60) := rfl
theorem sJ_60 : sJ 60 = sj_60 := rfl
theorem so_60 : sm_okP 60 := by
  unfold sm_okP
  rw [sP_60, sJ_60]
  refine ⟨fun q hq => List.all_eq_true.mp sk_60 q hq, fun x hx => ?_, rfl⟩
  unfold sj_60 at hx
  dsimp only at hx
  exact sTsE (ws := sw_60) (by unfold sw_60; rfl) (by decide +kernel) x hx
theorem sP_61 : sP 61 = (1, sp_61, sh_61) := rfl
theorem sJ_61 : sJ 61 = sj_61 := rfl
theorem so_61 : sm_okP 61 := by
  unfold sm_okP
  rw [sP_61, sJ_61]
  refine ⟨fun q hq => List.all_eq_true.mp sk_61 q hq, fun x hx => ?_, rfl⟩
  unfold sj_61 at hx
  dsimp only at hx
  exact sTsE (ws := sw_61) (by unfold sw_61; rfl) (by decide +kernel) x hx
theorem sP_62 : sP 62 = (4, sp_62, sh_62) := rfl
theorem sJ_62 : sJ 62 = sj_62 := rfl
theorem so_62 : sm_okP 62 := by
  unfold sm_okP
  rw [sP_62, sJ_62]
  refine ⟨fun q hq => List.all_eq_true.mp sk_62 q hq, fun x hx => ?_, rfl⟩
  unfold sj_62 at hx
  dsimp only at hx
  exact sTsE (ws := sw_62) (by unfold sw_62; rfl) (by decide +kernel) x hx
theorem sP_63 : sP 63 = (3, sp_63, sh_63) := rfl
theorem sJ_63 : sJ 63 = sj_63 := rfl
theorem so_63 : sm_okP 63 := by
  unfold sm_okP
  rw [sP_63, sJ_63]
  refine ⟨fun q hq => List.all_eq_true.mp sk_63 q hq, fun x hx => ?_, rfl⟩
  unfold sj_63 at hx
  dsimp only at hx
  exact sTsE (ws := sw_63) (by unfold sw_63; rfl) (by decide +kernel) x hx
theorem sP_64 : sP 64 = (6, sp_64, sh_64) := rfl
theorem sJ_64 : sJ 64 = sj_64 := rfl
theorem so_64 : sm_okP 64 := by
  unfold sm_okP
  rw [sP_64, sJ_64]
  refine ⟨fun q hq => List.all_eq_true.mp sk_64 q hq, fun x hx => ?_, rfl⟩
  unfold sj_64 at hx
  dsimp only at hx
  exact sTsE (ws := sw_64) (by unfold sw_64; rfl) (by decide +kernel) x hx
theorem sP_65 : sP 65 = (3, sp_65, sh_65) := rfl
theorem sJ_65 : sJ 65 = sj_65 := rfl
theorem so_65 : sm_okP 65 := by
  unfold sm_okP
  rw [sP_65, sJ_65]
  refine ⟨fun q hq => List.all_eq_true.mp sk_65 q hq, fun x hx => ?_, rfl⟩
  unfold sj_65 at hx
  dsimp only at hx
  exact sTsE (ws := sw_65) (by unfold sw_65; rfl) (by decide +kernel) x hx
theorem sP_66 : sP 66 = (2, sp_66, sh_66) := rfl
theorem sJ_66 : sJ 66 = sj_66 := rfl
theorem so_66 : sm_okP 66 := by
  unfold sm_okP
  rw [sP_66, sJ_66]
  refine ⟨fun q hq => List.all_eq_true.mp sk_66 q hq, fun x hx => ?_, rfl⟩
  unfold sj_66 at hx
  dsimp only at hx
  exact sTsE (ws := sw_66) (by unfold sw_66; rfl) (by decide +kernel) x hx
theorem sP_67 : sP 67 = (5, sp_67, sh_67) := rfl
theorem sJ_67 : sJ 67 = sj_67 := rfl
theorem so_67 : sm_okP 67 := by
  unfold sm_okP
  rw [sP_67, sJ_67]
  refine ⟨fun q hq => List.all_eq_true.mp sk_67 q hq, fun x hx => ?_, rfl⟩
  unfold sj_67 at hx
  dsimp only at hx
  exact sTsE (ws := sw_67) (by unfold sw_67; rfl) (by decide +kernel) x hx
theorem sP_68 : sP 68 = (5, sp_68, sh_68) := rfl
theorem sJ_68 : sJ 68 = sj_68 := rfl
theorem so_68 : sm_okP 68 := by
  unfold sm_okP
  rw [sP_68, sJ_68]
  refine ⟨fun q hq => List.all_eq_true.mp sk_68 q hq, fun x hx => ?_, rfl⟩
  unfold sj_68 at hx
  dsimp only at hx
  exact sTsE (ws := sw_68) (by unfold sw_68; rfl) (by decide +kernel) x hx
theorem sP_69 : sP 69 = (6, sp_69, sh_69) := rfl
theorem sJ_69 : sJ 69 = sj_69 := rfl
theorem so_69 : sm_okP 69 := by
  unfold sm_okP
  rw [sP_69, sJ_69]
  refine ⟨fun q hq => List.all_eq_true.mp sk_69 q hq, fun x hx => ?_, rfl⟩
  unfold sj_69 at hx
  dsimp only at hx
  exact sTsE (ws := sw_69) (by unfold sw_69; rfl) (by decide +kernel) x hx
theorem sP_70 : sP 70 = (1, sp_70, sh_70) := rfl
theorem sJ_70 : sJ 70 = sj_70 := rfl
theorem so_70 : sm_okP 70 := by
  unfold sm_okP
  rw [sP_70, sJ_70]
  refine ⟨fun q hq => List.all_eq_true.mp sk_70 q hq, fun x hx => ?_, rfl⟩
  unfold sj_70 at hx
  dsimp only at hx
  exact sTsE (ws := sw_70) (by unfold sw_70; rfl) (by decide +kernel) x hx
theorem sP_71 : sP 71 = (12, sp_71, sh_71) := rfl
theorem sJ_71 : sJ 71 = sj_71 := rfl
theorem so_71 : sm_okP 71 := by
  unfold sm_okP
  rw [sP_71, sJ_71]
  refine ⟨fun q hq => List.all_eq_true.mp sk_71 q hq, fun x hx => ?_, rfl⟩
  unfold sj_71 at hx
  dsimp only at hx
  exact sTsE (ws := sw_71) (by unfold sw_71; rfl) (by decide +kernel) x hx
theorem sP_72 : sP 72 = (8, sp_72, sh_72) := rfl
theorem sJ_72 : sJ 72 = sj_72 := rfl
theorem so_72 : sm_okP 72 := by
  unfold sm_okP
  rw [sP_72, sJ_72]
  refine ⟨fun q hq => List.all_eq_true.mp sk_72 q hq, fun x hx => ?_, rfl⟩
  unfold sj_72 at hx
  dsimp only at hx
  exact sTsE (ws := sw_72) (by unfold sw_72; rfl) (by decide +kernel) x hx
theorem sP_73 : sP 73 = (5, sp_73, sh_73) := rfl
theorem sJ_73 : sJ 73 = sj_73 := rfl
theorem so_73 : sm_okP 73 := by
  unfold sm_okP
  rw [sP_73, sJ_73]
  refine ⟨fun q hq => List.all_eq_true.mp sk_73 q hq, fun x hx => ?_, rfl⟩
  unfold sj_73 at hx
  dsimp only at hx
  exact sTsE (ws := sw_73) (by unfold sw_73; rfl) (by decide +kernel) x hx
theorem sP_74 : sP 74 = (4, sp_74, sh_74) := rfl
theorem sJ_74 : sJ 74 = sj_74 := rfl
theorem so_74 : sm_okP 74 := by
  unfold sm_okP
  rw [sP_74, sJ_74]
  refine ⟨fun q hq => List.all_eq_true.mp sk_74 q hq, fun x hx => ?_, rfl⟩
  unfold sj_74 at hx
  dsimp only at hx
  exact sTsE (ws := sw_74) (by unfold sw_74; rfl) (by decide +kernel) x hx
theorem sP_75 : sP 75 = (1, sp_75, sh_75) := rfl
theorem sJ_75 : sJ 75 = sj_75 := rfl
theorem so_75 : sm_okP 75 := by
  unfold sm_okP
  rw [sP_75, sJ_75]
  refine ⟨fun q hq => List.all_eq_true.mp sk_75 q hq, fun x hx => ?_, rfl⟩
  unfold sj_75 at hx
  dsimp only at hx
  exact sTsE (ws := sw_75) (by unfold sw_75; rfl) (by decide +kernel) x hx
theorem sP_76 : sP 76 = (4, sp_76, sh_76) := rfl
theorem sJ_76 : sJ 76 = sj_76 := rfl
theorem so_76 : sm_okP 76 := by
  unfold sm_okP
  rw [sP_76, sJ_76]
  refine ⟨fun q hq => List.all_eq_true.mp sk_76 q hq, fun x hx => ?_, rfl⟩
  unfold sj_76 at hx
  dsimp only at hx
  exact sTsE (ws := sw_76) (by unfold sw_76; rfl) (by decide +kernel) x hx
theorem sP_77 : sP 77 = (3, sp_77, sh_77) := rfl
theorem sJ_77 : sJ 77 = sj_77 := rfl
theorem so_77 : sm_okP 77 := by
  unfold sm_okP
  rw [sP_77, sJ_77]
  refine ⟨fun q hq => List.all_eq_true.mp sk_77 q hq, fun x hx => ?_, rfl⟩
  unfold sj_77 at hx
  dsimp only at hx
  exact sTsE (ws := sw_77) (by unfold sw_77; rfl) (by decide +kernel) x hx
theorem sP_78 : sP 78 = (2, sp_78, sh_78) := rfl
theorem sJ_78 : sJ 78 = sj_78 := rfl
theorem so_78 : sm_okP 78 := by
  unfold sm_okP
  rw [sP_78, sJ_78]
  refine ⟨fun q hq => List.all_eq_true.mp sk_78 q hq, fun x hx => ?_, rfl⟩
  unfold sj_78 at hx
  dsimp only at hx
  exact sTsE (ws := sw_78) (by unfold sw_78; rfl) (by decide +kernel) x hx
theorem sP_79 : sP 79 = (4, sp_79, sh_79) := rfl
theorem sJ_79 : sJ 79 = sj_79 := rfl
theorem so_79 : sm_okP 79 := by
  unfold sm_okP
  rw [sP_79, sJ_79]
  refine ⟨fun q hq => List.all_eq_true.mp sk_79 q hq, fun x hx => ?_, rfl⟩
  unfold sj_79 at hx
  dsimp only at hx
  exact sTsE (ws := sw_79) (by unfold sw_79; rfl) (by decide +kernel) x hx
theorem sP_80 : sP 80 = (3, sp_80, sh_80) := rfl
theorem sJ_80 : sJ 80 = sj_80 := rfl
theorem so_80 : sm_okP 80 := by
  unfold sm_okP
  rw [sP_80, sJ_80]
  refine ⟨fun q hq => List.all_eq_true.mp sk_80 q hq, fun x hx => ?_, rfl⟩
  unfold sj_80 at hx
  dsimp only at hx
  exact sTsE (ws := sw_80) (by unfold sw_80; rfl) (by decide +kernel) x hx
theorem sP_81 : sP 81 = (6, sp_81, sh_81) := rfl
theorem sJ_81 : sJ 81 = sj_81 := rfl
theorem so_81 : sm_okP 81 := by
  unfold sm_okP
  rw [sP_81, sJ_81]
  refine ⟨fun q hq => List.all_eq_true.mp sk_81 q hq, fun x hx => ?_, rfl⟩
  unfold sj_81 at hx
  dsimp only at hx
  exact sTsE (ws := sw_81) (by unfold sw_81; rfl) (by decide +kernel) x hx
theorem sP_82 : sP 82 = (5, sp_82, sh_82) := rfl
theorem sJ_82 : sJ 82 = sj_82 := rfl
theorem so_82 : sm_okP 82 := by
  unfold sm_okP
  rw [sP_82, sJ_82]
  refine ⟨fun q hq => List.all_eq_true.mp sk_82 q hq, fun x hx => ?_, rfl⟩
  unfold sj_82 at hx
  dsimp only at hx
  exact sTsE (ws := sw_82) (by unfold sw_82; rfl) (by decide +kernel) x hx
theorem sP_83 : sP 83 = (1, sp_83, sh_83) := rfl
theorem sJ_83 : sJ 83 = sj_83 := rfl
theorem so_83 : sm_okP 83 := by
  unfold sm_okP
  rw [sP_83, sJ_83]
  refine ⟨fun q hq => List.all_eq_true.mp sk_83 q hq, fun x hx => ?_, rfl⟩
  unfold sj_83 at hx
  dsimp only at hx
  exact sTsE (ws := sw_83) (by unfold sw_83; rfl) (by decide +kernel) x hx
theorem sP_84 : sP 84 = (3, sp_84, sh_84) := rfl
theorem sJ_84 : sJ 84 = sj_84 := rfl
theorem so_84 : sm_okP 84 := by
  unfold sm_okP
  rw [sP_84, sJ_84]
  refine ⟨fun q hq => List.all_eq_true.mp sk_84 q hq, fun x hx => ?_, rfl⟩
  unfold sj_84 at hx
  dsimp only at hx
  exact sTsE (ws := sw_84) (by unfold sw_84; rfl) (by decide +kernel) x hx
theorem sP_85 : sP 85 = (8, sp_85, sh_85) := rfl
theorem sJ_85 : sJ 85 = sj_85 := rfl
theorem so_85 : sm_okP 85 := by
  unfold sm_okP
  rw [sP_85, sJ_85]
  refine ⟨fun q hq => List.all_eq_true.mp sk_85 q hq, fun x hx => ?_, rfl⟩
  unfold sj_85 at hx
  dsimp only at hx
  exact sTsE (ws := sw_85) (by unfold sw_85; rfl) (by decide +kernel) x hx
theorem sP_86 : sP 86 = (8, sp_86, sh_86) := rfl
theorem sJ_86 : sJ 86 = sj_86 := rfl
theorem so_86 : sm_okP 86 := by
  unfold sm_okP
  rw [sP_86, sJ_86]
  refine ⟨fun q hq => List.all_eq_true.mp sk_86 q hq, fun x hx => ?_, rfl⟩
  unfold sj_86 at hx
  dsimp only at hx
  exact sTsE (ws := sw_86) (by unfold sw_86; rfl) (by decide +kernel) x hx
theorem sP_87 : sP 87 = (4, sp_87, sh_87) := rfl
theorem sJ_87 : sJ 87 = sj_87 := rfl
theorem so_87 : sm_okP 87 := by
  unfold sm_okP
  rw [sP_87, sJ_87]
  refine ⟨fun q hq => List.all_eq_true.mp sk_87 q hq, fun x hx => ?_, rfl⟩
  unfold sj_87 at hx
  dsimp only at hx
  exact sTsE (ws := sw_87) (by unfold sw_87; rfl) (by decide +kernel) x hx
theorem sP_88 : sP 88 = (4, sp_88, sh_88) := rfl
theorem sJ_88 : sJ 88 = sj_88 := rfl
theorem so_88 : sm_okP 88 := by
  unfold sm_okP
  rw [sP_88, sJ_88]
  refine ⟨fun q hq => List.all_eq_true.mp sk_88 q hq, fun x hx => ?_, rfl⟩
  unfold sj_88 at hx
  dsimp only at hx
  exact sTsE (ws := sw_88) (by unfold sw_88; rfl) (by decide +kernel) x hx
theorem sP_89 : sP 89 = (1, sp_89, sh_89) := rfl
theorem sJ_89 : sJ 89 = sj_89 := rfl
theorem so_89 : sm_okP 89 := by
  unfold sm_okP
  rw [sP_89, sJ_89]
  refine ⟨fun q hq => List.all_eq_true.mp sk_89 q hq, fun x hx => ?_, rfl⟩
  unfold sj_89 at hx
  dsimp only at hx
  exact sTsE (ws := sw_89) (by unfold sw_89; rfl) (by decide +kernel) x hx
theorem sP_90 : sP 90 = (10, sp_90, sh_90) := rfl
theorem sJ_90 : sJ 90 = sj_90 := rfl
theorem so_90 : sm_okP 90 := by
  unfold sm_okP
  rw [sP_90, sJ_90]
  refine ⟨fun q hq => List.all_eq_true.mp sk_90 q hq, fun x hx => ?_, rfl⟩
  unfold sj_90 at hx
  dsimp only at hx
  exact sTsE (ws := sw_90) (by unfold sw_90; rfl) (by decide +kernel) x hx
theorem sP_91 : sP 91 = (8, sp_91, sh_91) := rfl
theorem sJ_91 : sJ 91 = sj_91 := rfl
theorem so_91 : sm_okP 91 := by
  unfold sm_okP
  rw [sP_91, sJ_91]
  refine ⟨fun q hq => List.all_eq_true.mp sk_91 q hq, fun x hx => ?_, rfl⟩
  unfold sj_91 at hx
  dsimp only at hx
  exact sTsE (ws := sw_91) (by unfold sw_91; rfl) (by decide +kernel) x hx
theorem sP_92 : sP 92 = (5, sp_92, sh_92) := rfl
theorem sJ_92 : sJ 92 = sj_92 := rfl
theorem so_92 : sm_okP 92 := by
  unfold sm_okP
  rw [sP_92, sJ_92]
  refine ⟨fun q hq => List.all_eq_true.mp sk_92 q hq, fun x hx => ?_, rfl⟩
  unfold sj_92 at hx
  dsimp only at hx
  exact sTsE (ws := sw_92) (by unfold sw_92; rfl) (by decide +kernel) x hx
theorem sP_93 : sP 93 = (3, sp_93, sh_93) := rfl
theorem sJ_93 : sJ 93 = sj_93 := rfl
theorem so_93 : sm_okP 93 := by
  unfold sm_okP
  rw [sP_93, sJ_93]
  refine ⟨fun q hq => List.all_eq_true.mp sk_93 q hq, fun x hx => ?_, rfl⟩
  unfold sj_93 at hx
  dsimp only at hx
  exact sTsE (ws := sw_93) (by unfold sw_93; rfl) (by decide +kernel) x hx
theorem sP_94 : sP 94 = (7, sp_94, sh_94) := rfl
theorem sJ_94 : sJ 94 = sj_94 := rfl
theorem so_94 : sm_okP 94 := by
  unfold sm_okP
  rw [sP_94, sJ_94]
  refine ⟨fun q hq => List.all_eq_true.mp sk_94 q hq, fun x hx => ?_, rfl⟩
  unfold sj_94 at hx
  dsimp only at hx
  exact sTsE (ws := sw_94) (by unfold sw_94; rfl) (by decide +kernel) x hx
theorem sP_95 : sP 95 = (3, sp_95, sh_95) := rfl
theorem sJ_95 : sJ 95 = sj_95 := rfl
theorem so_95 : sm_okP 95 := by
  unfold sm_okP
  rw [sP_95, sJ_95]
  refine ⟨fun q hq => List.all_eq_true.mp sk_95 q hq, fun x hx => ?_, rfl⟩
  unfold sj_95 at hx
  dsimp only at hx
  exact sTsE (ws := sw_95) (by unfold sw_95; rfl) (by decide +kernel) x hx
theorem sP_96 : sP 96 = (3, sp_96, sh_96) := rfl
theorem sJ_96 : sJ 96 = sj_96 := rfl
theorem so_96 : sm_okP 96 := by
  unfold sm_okP
  rw [sP_96, sJ_96]
  refine ⟨fun q hq => List.all_eq_true.mp sk_96 q hq, fun x hx => ?_, rfl⟩
  unfold sj_96 at hx
  dsimp only at hx
  exact sTsE (ws := sw_96) (by unfold sw_96; rfl) (by decide +kernel) x hx
theorem sP_97 : sP 97 = (6, sp_97, sh_97) := rfl
theorem sJ_97 : sJ 97 = sj_97 := rfl
theorem so_97 : sm_okP 97 := by
  unfold sm_okP
  rw [sP_97, sJ_97]
  refine ⟨fun q hq => List.all_eq_true.mp sk_97 q hq, fun x hx => ?_, rfl⟩
  unfold sj_97 at hx
  dsimp only at hx
  exact sTsE (ws := sw_97) (by unfold sw_97; rfl) (by decide +kernel) x hx
theorem sP_98 : sP 98 = (3, sp_98, sh_98) := rfl
theorem sJ_98 : sJ 98 = sj_98 := rfl
theorem so_98 : sm_okP 98 := by
  unfold sm_okP
  rw [sP_98, sJ_98]
  refine ⟨fun q hq => List.all_eq_true.mp sk_98 q hq, fun x hx => ?_, rfl⟩
  unfold sj_98 at hx
  dsimp only at hx
  exact sTsE (ws := sw_98) (by unfold sw_98; rfl) (by decide +kernel) x hx
theorem sP_99 : sP 99 = (2, sp_99, sh_99) := rfl
theorem sJ_99 : sJ 99 = sj_99 := rfl
theorem so_99 : sm_okP 99 := by
  unfold sm_okP
  rw [sP_99, sJ_99]
  refine ⟨fun q hq => List.all_eq_true.mp sk_99 q hq, fun x hx => ?_, rfl⟩
  unfold sj_99 at hx
  dsimp only at hx
  exact sTsE (ws := sw_99) (by unfold sw_99; rfl) (by decide +kernel) x hx
theorem sP_100 : sP 100 = (11, sp_100, sh_100) := rfl
theorem sJ_100 : sJ 100 = sj_100 := rfl
theorem so_100 : sm_okP 100 := by
  unfold sm_okP
  rw [sP_100, sJ_100]
  refine ⟨fun q hq => List.all_eq_true.mp sk_100 q hq, fun x hx => ?_, rfl⟩
  unfold sj_100 at hx
  dsimp only at hx
  exact sTsE (ws := sw_100) (by unfold sw_100; rfl) (by decide +kernel) x hx
theorem sP_101 : sP 101 = (5, sp_101, sh_101) := rfl
theorem sJ_101 : sJ 101 = sj_101 := rfl
theorem so_101 : sm_okP 101 := by
  unfold sm_okP
  rw [sP_101, sJ_101]
  refine ⟨fun q hq => List.all_eq_true.mp sk_101 q hq, fun x hx => ?_, rfl⟩
  unfold sj_101 at hx
  dsimp only at hx
  exact sTsE (ws := sw_101) (by unfold sw_101; rfl) (by decide +kernel) x hx
theorem sP_102 : sP 102 = (6, sp_102, sh_102) := rfl
theorem sJ_102 : sJ 102 = sj_102 := rfl
theorem so_102 : sm_okP 102 := by
  unfold sm_okP
  rw [sP_102, sJ_102]
  refine ⟨fun q hq => List.all_eq_true.mp sk_102 q hq, fun x hx => ?_, rfl⟩
  unfold sj_102 at hx
  dsimp only at hx
  exact sTsE (ws := sw_102) (by unfold sw_102; rfl) (by decide +kernel) x hx
theorem sP_103 : sP 103 = (2, sp_103, sh_103) := rfl
theorem sJ_103 : sJ 103 = sj_103 := rfl
theorem so_103 : sm_okP 103 := by
  unfold sm_okP
  rw [sP_103, sJ_103]
  refine ⟨fun q hq => List.all_eq_true.mp sk_103 q hq, fun x hx => ?_, rfl⟩
  unfold sj_103 at hx
  dsimp only at hx
  exact sTsE (ws := sw_103) (by unfold sw_103; rfl) (by decide +kernel) x hx
theorem sP_104 : sP 104 = (4, sp_104, sh_104) := rfl
theorem sJ_104 : sJ 104 = sj_104 := rfl
theorem so_104 : sm_okP 104 := by
  unfold sm_okP
  rw [sP_104, sJ_104]
  refine ⟨fun q hq => List.all_eq_true.mp sk_104 q hq, fun x hx => ?_, rfl⟩
  unfold sj_104 at hx
  dsimp only at hx
  exact sTsE (ws := sw_104) (by unfold sw_104; rfl) (by decide +kernel) x hx
theorem sP_105 : sP 105 = (3, sp_105, sh_105) := rfl
theorem sJ_105 : sJ 105 = sj_105 := rfl
theorem so_105 : sm_okP 105 := by
  unfold sm_okP
  rw [sP_105, sJ_105]
  refine ⟨fun q hq => List.all_eq_true.mp sk_105 q hq, fun x hx => ?_, rfl⟩
  unfold sj_105 at hx
  dsimp only at hx
  exact sTsE (ws := sw_105) (by unfold sw_105; rfl) (by decide +kernel) x hx
theorem sP_106 : sP 106 = (5, sp_106, sh_106) := rfl
theorem sJ_106 : sJ 106 = sj_106 := rfl
theorem so_106 : sm_okP 106 := by
  unfold sm_okP
  rw [sP_106, sJ_106]
  refine ⟨fun q hq => List.all_eq_true.mp sk_106 q hq, fun x hx => ?_, rfl⟩
  unfold sj_106 at hx
  dsimp only at hx
  exact sTsE (ws := sw_106) (by unfold sw_106; rfl) (by decide +kernel) x hx
theorem sP_107 : sP 107 = (6, sp_107, sh_107) := rfl
theorem sJ_107 : sJ 107 = sj_107 := rfl
theorem so_107 : sm_okP 107 := by
  unfold sm_okP
  rw [sP_107, sJ_107]
  refine ⟨fun q hq => List.all_eq_true.mp sk_107 q hq, fun x hx => ?_, rfl⟩
  unfold sj_107 at hx
  dsimp only at hx
  exact sTsE (ws := sw_107) (by unfold sw_107; rfl) (by decide +kernel) x hx
theorem sP_108 : sP 108 = (2, sp_108, sh_108) := rfl
theorem sJ_108 : sJ 108 = sj_108 := rfl
theorem so_108 : sm_okP 108 := by
  unfold sm_okP
  rw [sP_108, sJ_108]
  refine ⟨fun q hq => List.all_eq_true.mp sk_108 q hq, fun x hx => ?_, rfl⟩
  unfold sj_108 at hx
  dsimp only at hx
  exact sTsE (ws := sw_108) (by unfold sw_108; rfl) (by decide +kernel) x hx
theorem sP_109 : sP 109 = (5, sp_109, sh_109) := rfl
theorem sJ_109 : sJ 109 = sj_109 := rfl
theorem so_109 : sm_okP 109 := by
  unfold sm_okP
  rw [sP_109, sJ_109]
  refine ⟨fun q hq => List.all_eq_true.mp sk_109 q hq, fun x hx => ?_, rfl⟩
  unfold sj_109 at hx
  dsimp only at hx
  exact sTsE (ws := sw_109) (by unfold sw_109; rfl) (by decide +kernel) x hx
theorem sP_110 : sP 110 = (3, sp_110, sh_110) := rfl
theorem sJ_110 : sJ 110 = sj_110 := rfl
theorem so_110 : sm_okP 110 := by
  unfold sm_okP
  rw [sP_110, sJ_110]
  refine ⟨fun q hq => List.all_eq_true.mp sk_110 q hq, fun x hx => ?_, rfl⟩
  unfold sj_110 at hx
  dsimp only at hx
  exact sTsE (ws := sw_110) (by unfold sw_110; rfl) (by decide +kernel) x hx
theorem sP_111 : sP 111 = (4, sp_111, sh_111) := rfl
theorem sJ_111 : sJ 111 = sj_111 := rfl
theorem so_111 : sm_okP 111 := by
  unfold sm_okP
  rw [sP_111, sJ_111]
  refine ⟨fun q hq => List.all_eq_true.mp sk_111 q hq, fun x hx => ?_, rfl⟩
  unfold sj_111 at hx
  dsimp only at hx
  exact sTsE (ws := sw_111) (by unfold sw_111; rfl) (by decide +kernel) x hx
theorem sP_112 : sP 112 = (4, sp_112, sh_112) := rfl
theorem sJ_112 : sJ 112 = sj_112 := rfl
theorem so_112 : sm_okP 112 := by
  unfold sm_okP
  rw [sP_112, sJ_112]
  refine ⟨fun q hq => List.all_eq_true.mp sk_112 q hq, fun x hx => ?_, rfl⟩
  unfold sj_112 at hx
  dsimp only at hx
  exact sTsE (ws := sw_112) (by unfold sw_112; rfl) (by decide +kernel) x hx
theorem sP_113 : sP 113 = (2, sp_113, sh_113) := rfl
theorem sJ_113 : sJ 113 = sj_113 := rfl
theorem so_113 : sm_okP 113 := by
  unfold sm_okP
  rw [sP_113, sJ_113]
  refine ⟨fun q hq => List.all_eq_true.mp sk_113 q hq, fun x hx => ?_, rfl⟩
  unfold sj_113 at hx
  dsimp only at hx
  exact sTsE (ws := sw_113) (by unfold sw_113; rfl) (by decide +kernel) x hx
theorem sP_114 : sP 114 = (3, sp_114, sh_114) := rfl
theorem sJ_114 : sJ 114 = sj_114 := rfl
theorem so_114 : sm_okP 114 := by
  unfold sm_okP
  rw [sP_114, sJ_114]
  refine ⟨fun q hq => List.all_eq_true.mp sk_114 q hq, fun x hx => ?_, rfl⟩
  unfold sj_114 at hx
  dsimp only at hx
  exact sTsE (ws := sw_114) (by unfold sw_114; rfl) (by decide +kernel) x hx
theorem sP_115 : sP 115 = (1, sp_115, sh_115) := rfl
theorem sJ_115 : sJ 115 = sj_115 := rfl
theorem so_115 : sm_okP 115 := by
  unfold sm_okP
  rw [sP_115, sJ_115]
  refine ⟨fun q hq => List.all_eq_true.mp sk_115 q hq, fun x hx => ?_, rfl⟩
  unfold sj_115 at hx
  dsimp only at hx
  exact sTsE (ws := sw_115) (by unfold sw_115; rfl) (by decide +kernel) x hx
theorem sP_116 : sP 116 = (1, sp_116, sh_116) := rfl
theorem sJ_116 : sJ 116 = sj_116 := rfl
theorem so_116 : sm_okP 116 := by
  unfold sm_okP
  rw [sP_116, sJ_116]
  refine ⟨fun q hq => List.all_eq_true.mp sk_116 q hq, fun x hx => ?_, rfl⟩
  unfold sj_116 at hx
  dsimp only at hx
  exact sTsE (ws := sw_116) (by unfold sw_116; rfl) (by decide +kernel) x hx
theorem sP_117 : sP 117 = (3, sp_117, sh_117) := rfl
theorem sJ_117 : sJ 117 = sj_117 := rfl
theorem so_117 : sm_okP 117 := by
  unfold sm_okP
  rw [sP_117, sJ_117]
  refine ⟨fun q hq => List.all_eq_true.mp sk_117 q hq, fun x hx => ?_, rfl⟩
  unfold sj_117 at hx
  dsimp only at hx
  exact sTsE (ws := sw_117) (by unfold sw_117; rfl) (by decide +kernel) x hx
theorem sP_118 : sP 118 = (1, sp_118, sh_118) := rfl
theorem sJ_118 : sJ 118 = sj_118 := rfl
theorem so_118 : sm_okP 118 := by
  unfold sm_okP
  rw [sP_118, sJ_118]
  refine ⟨fun q hq => List.all_eq_true.mp sk_118 q hq, fun x hx => ?_, rfl⟩
  unfold sj_118 at hx
  dsimp only at hx
  exact sTsE (ws := sw_118) (by unfold sw_118; rfl) (by decide +kernel) x hx
theorem sP_119 : sP 119 = (2, sp_119, sh_119) := rfl
theorem sJ_119 : sJ 119 = sj_119 := rfl
theorem so_119 : sm_okP 119 := by
  unfold sm_okP
  rw [sP_119, sJ_119]
  refine ⟨fun q hq => List.all_eq_true.mp sk_119 q hq, fun x hx => ?_, rfl⟩
  unfold sj_119 at hx
  dsimp only at hx
  exact sTsE (ws := sw_119) (by unfold sw_119; rfl) (by decide +kernel) x hx
theorem sP_120 : sP 120 = (10, sp_120, sh_120) := rfl
theorem sJ_120 : sJ 120 = sj_120 := rfl
theorem so_120 : sm_okP 120 := by
  unfold sm_okP
  rw [sP_120, sJ_120]
  refine ⟨fun q hq => List.all_eq_true.mp sk_120 q hq, fun x hx => ?_, rfl⟩
  unfold sj_120 at hx
  dsimp only at hx
  exact sTsE (ws := sw_120) (by unfold sw_120; rfl) (by decide +kernel) x hx
theorem sP_121 : sP 121 = (5, sp_121, sh_121) := rfl
theorem sJ_121 : sJ 121 = sj_121 := rfl
theorem so_121 : sm_okP 121 := by
  unfold sm_okP
  rw [sP_121, sJ_121]
  refine ⟨fun q hq => List.all_eq_true.mp sk_121 q hq, fun x hx => ?_, rfl⟩
  unfold sj_121 at hx
  dsimp only at hx
  exact sTsE (ws := sw_121) (by unfold sw_121; rfl) (by decide +kernel) x hx
theorem sP_122 : sP 122 = (2, sp_122, sh_122) := rfl
theorem sJ_122 : sJ 122 = sj_122 := rfl
theorem so_122 : sm_okP 122 := by
  unfold sm_okP
  rw [sP_122, sJ_122]
  refine ⟨fun q hq => List.all_eq_true.mp sk_122 q hq, fun x hx => ?_, rfl⟩
  unfold sj_122 at hx
  dsimp only at hx
  exact sTsE (ws := sw_122) (by unfold sw_122; rfl) (by decide +kernel) x hx
theorem sP_123 : sP 123 = (3, sp_123, sh_123) := rfl
theorem sJ_123 : sJ 123 = sj_123 := rfl
theorem so_123 : sm_okP 123 := by
  unfold sm_okP
  rw [sP_123, sJ_123]
  refine ⟨fun q hq => List.all_eq_true.mp sk_123 q hq, fun x hx => ?_, rfl⟩
  unfold sj_123 at hx
  dsimp only at hx
  exact sTsE (ws := sw_123) (by unfold sw_123; rfl) (by decide +kernel) x hx
theorem sP_124 : sP 124 = (6, sp_124, sh_124) := rfl
theorem sJ_124 : sJ 124 = sj_124 := rfl
theorem so_124 : sm_okP 124 := by
  unfold sm_okP
  rw [sP_124, sJ_124]
  refine ⟨fun q hq => List.all_eq_true.mp sk_124 q hq, fun x hx => ?_, rfl⟩
  unfold sj_124 at hx
  dsimp only at hx
  exact sTsE (ws := sw_124) (by unfold sw_124; rfl) (by decide +kernel) x hx
theorem sP_125 : sP 125 = (2, sp_125, sh_125) := rfl
theorem sJ_125 : sJ 125 = sj_125 := rfl
theorem so_125 : sm_okP 125 := by
  unfold sm_okP
  rw [sP_125, sJ_125]
  refine ⟨fun q hq => List.all_eq_true.mp sk_125 q hq, fun x hx => ?_, rfl⟩
  unfold sj_125 at hx
  dsimp only at hx
  exact sTsE (ws := sw_125) (by unfold sw_125; rfl) (by decide +kernel) x hx
theorem sP_126 : sP 126 = (8, sp_126, sh_126) := rfl
theorem sJ_126 : sJ 126 = sj_126 := rfl
theorem so_126 : sm_okP 126 := by
  unfold sm_okP
  rw [sP_126, sJ_126]
  refine ⟨fun q hq => List.all_eq_true.mp sk_126 q hq, fun x hx => ?_, rfl⟩
  unfold sj_126 at hx
  dsimp only at hx
  exact sTsE (ws := sw_126) (by unfold sw_126; rfl) (by decide +kernel) x hx
theorem sP_127 : sP 127 = (8, sp_127, sh_127) := rfl
theorem sJ_127 : sJ 127 = sj_127 := rfl
theorem so_127 : sm_okP 127 := by
  unfold sm_okP
  rw [sP_127, sJ_127]
  refine ⟨fun q hq => List.all_eq_true.mp sk_127 q hq, fun x hx => ?_, rfl⟩
  unfold sj_127 at hx
  dsimp only at hx
  exact sTsE (ws := sw_127) (by unfold sw_127; rfl) (by decide +kernel) x hx
theorem sP_128 : sP 128 = (4, sp_128, sh_128) := rfl
theorem sJ_128 : sJ 128 = sj_128 := rfl
theorem so_128 : sm_okP 128 := by
  unfold sm_okP
  rw [sP_128, sJ_128]
  refine ⟨fun q hq => List.all_eq_true.mp sk_128 q hq, fun x hx => ?_, rfl⟩
  unfold sj_128 at hx
  dsimp only at hx
  exact sTsE (ws := sw_128) (by unfold sw_128; rfl) (by decide +kernel) x hx
theorem sP_129 : sP 129 = (3, sp_129, sh_129) := rfl
theorem sJ_129 : sJ 129 = sj_129 := rfl
theorem so_129 : sm_okP 129 := by
  unfold sm_okP
  rw [sP_129, sJ_129]
  refine ⟨fun q hq => List.all_eq_true.mp sk_129 q hq, fun x hx => ?_, rfl⟩
  unfold sj_129 at hx
  dsimp only at hx
  exact sTsE (ws := sw_129) (by unfold sw_129; rfl) (by decide +kernel) x hx
theorem sP_130 : sP 130 = (1, sp_130, sh_130) := rfl
theorem sJ_130 : sJ 130 = sj_130 := rfl
theorem so_130 : sm_okP 130 := by
  unfold sm_okP
  rw [sP_130, sJ_130]
  refine ⟨fun q hq => List.all_eq_true.mp sk_130 q hq, fun x hx => ?_, rfl⟩
  unfold sj_130 at hx
  dsimp only at hx
  exact sTsE (ws := sw_130) (by unfold sw_130; rfl) (by decide +kernel) x hx
theorem sP_131 : sP 131 = (5, sp_131, sh_131) := rfl
theorem sJ_131 : sJ 131 = sj_131 := rfl
theorem so_131 : sm_okP 131 := by
  unfold sm_okP
  rw [sP_131, sJ_131]
  refine ⟨fun q hq => List.all_eq_true.mp sk_131 q hq, fun x hx => ?_, rfl⟩
  unfold sj_131 at hx
  dsimp only at hx
  exact sTsE (ws := sw_131) (by unfold sw_131; rfl) (by decide +kernel) x hx
theorem sP_132 : sP 132 = (4, sp_132, sh_132) := rfl
theorem sJ_132 : sJ 132 = sj_132 := rfl
theorem so_132 : sm_okP 132 := by
  unfold sm_okP
  rw [sP_132, sJ_132]
  refine ⟨fun q hq => List.all_eq_true.mp sk_132 q hq, fun x hx => ?_, rfl⟩
  unfold sj_132 at hx
  dsimp only at hx
  exact sTsE (ws := sw_132) (by unfold sw_132; rfl) (by decide +kernel) x hx
theorem sP_133 : sP 133 = (5, sp_133, sh_133) := rfl
theorem sJ_133 : sJ 133 = sj_133 := rfl
theorem so_133 : sm_okP 133 := by
  unfold sm_okP
  rw [sP_133, sJ_133]
  refine ⟨fun q hq => List.all_eq_true.mp sk_133 q hq, fun x hx => ?_, rfl⟩
  unfold sj_133 at hx
  dsimp only at hx
  exact sTsE (ws := sw_133) (by unfold sw_133; rfl) (by decide +kernel) x hx
theorem sP_134 : sP 134 = (3, sp_134, sh_134) := rfl
theorem sJ_134 : sJ 134 = sj_134 := rfl
theorem so_134 : sm_okP 134 := by
  unfold sm_okP
  rw [sP_134, sJ_134]
  refine ⟨fun q hq => List.all_eq_true.mp sk_134 q hq, fun x hx => ?_, rfl⟩
  unfold sj_134 at hx
  dsimp only at hx
  exact sTsE (ws := sw_134) (by unfold sw_134; rfl) (by decide +kernel) x hx
theorem sP_135 : sP 135 = (2, sp_135, sh_135) := rfl
theorem sJ_135 : sJ 135 = sj_135 := rfl
theorem so_135 : sm_okP 135 := by
  unfold sm_okP
  rw [sP_135, sJ_135]
  refine ⟨fun q hq => List.all_eq_true.mp sk_135 q hq, fun x hx => ?_, rfl⟩
  unfold sj_135 at hx
  dsimp only at hx
  exact sTsE (ws := sw_135) (by unfold sw_135; rfl) (by decide +kernel) x hx
theorem sP_136 : sP 136 = (6, sp_136, sh_136) := rfl
theorem sJ_136 : sJ 136 = sj_136 := rfl
theorem so_136 : sm_okP 136 := by
  unfold sm_okP
  rw [sP_136, sJ_136]
  refine ⟨fun q hq => List.all_eq_true.mp sk_136 q hq, fun x hx => ?_, rfl⟩
  unfold sj_136 at hx
  dsimp only at hx
  exact sTsE (ws := sw_136) (by unfold sw_136; rfl) (by decide +kernel) x hx
theorem sP_137 : sP 137 = (3, sp_137, sh_137) := rfl
theorem sJ_137 : sJ 137 = sj_137 := rfl
theorem so_137 : sm_okP 137 := by
  unfold sm_okP
  rw [sP_137, sJ_137]
  refine ⟨fun q hq => List.all_eq_true.mp sk_137 q hq, fun x hx => ?_, rfl⟩
  unfold sj_137 at hx
  dsimp only at hx
  exact sTsE (ws := sw_137) (by unfold sw_137; rfl) (by decide +kernel) x hx
theorem sP_138 : sP 138 = (5, sp_138, sh_138) := rfl
theorem sJ_138 : sJ 138 = sj_138 := rfl
theorem so_138 : sm_okP 138 := by
  unfold sm_okP
  rw [sP_138, sJ_138]
  refine ⟨fun q hq => List.all_eq_true.mp sk_138 q hq, fun x hx => ?_, rfl⟩
  unfold sj_138 at hx
  dsimp only at hx
  exact sTsE (ws := sw_138) (by unfold sw_138; rfl) (by decide +kernel) x hx
theorem sP_139 : sP 139 = (3, sp_139, sh_139) := rfl
theorem sJ_139 : sJ 139 = sj_139 := rfl
theorem so_139 : sm_okP 139 := by
  unfold sm_okP
  rw [sP_139, sJ_139]
  refine ⟨fun q hq => List.all_eq_true.mp sk_139 q hq, fun x hx => ?_, rfl⟩
  unfold sj_139 at hx
  dsimp only at hx
  exact sTsE (ws := sw_139) (by unfold sw_139; rfl) (by decide +kernel) x hx
theorem sP_140 : sP 140 = (6, sp_140, sh_140) := rfl
theorem sJ_140 : sJ 140 = sj_140 := rfl
theorem so_140 : sm_okP 140 := by
  unfold sm_okP
  rw [sP_140, sJ_140]
  refine ⟨fun q hq => List.all_eq_true.mp sk_140 q hq, fun x hx => ?_, rfl⟩
  unfold sj_140 at hx
  dsimp only at hx
  exact sTsE (ws := sw_140) (by unfold sw_140; rfl) (by decide +kernel) x hx
theorem sP_141 : sP 141 = (4, sp_141, sh_141) := rfl
theorem sJ_141 : sJ 141 = sj_141 := rfl
theorem so_141 : sm_okP 141 := by
  unfold sm_okP
  rw [sP_141, sJ_141]
  refine ⟨fun q hq => List.all_eq_true.mp sk_141 q hq, fun x hx => ?_, rfl⟩
  unfold sj_141 at hx
  dsimp only at hx
  exact sTsE (ws := sw_141) (by unfold sw_141; rfl) (by decide +kernel) x hx
theorem sP_142 : sP 142 = (5, sp_142, sh_142) := rfl
theorem sJ_142 : sJ 142 = sj_142 := rfl
theorem so_142 : sm_okP 142 := by
  unfold sm_okP
  rw [sP_142, sJ_142]
  refine ⟨fun q hq => List.all_eq_true.mp sk_142 q hq, fun x hx => ?_, rfl⟩
  unfold sj_142 at hx
  dsimp only at hx
  exact sTsE (ws := sw_142) (by unfold sw_142; rfl) (by decide +kernel) x hx
theorem sP_143 : sP 143 = (4, sp_143, sh_143) := rfl
theorem sJ_143 : sJ 143 = sj_143 := rfl
theorem so_143 : sm_okP 143 := by
  unfold sm_okP
  rw [sP_143, sJ_143]
  refine ⟨fun q hq => List.all_eq_true.mp sk_143 q hq, fun x hx => ?_, rfl⟩
  unfold sj_143 at hx
  dsimp only at hx
  exact sTsE (ws := sw_143) (by unfold sw_143; rfl) (by decide +kernel) x hx
theorem sP_144 : sP 144 = (5, sp_144, sh_144) := rfl
theorem sJ_144 : sJ 144 = sj_144 := rfl
theorem so_144 : sm_okP 144 := by
  unfold sm_okP
  rw [sP_144, sJ_144]
  refine ⟨fun q hq => List.all_eq_true.mp sk_144 q hq, fun x hx => ?_, rfl⟩
  unfold sj_144 at hx
  dsimp only at hx
  exact sTsE (ws := sw_144) (by unfold sw_144; rfl) (by decide +kernel) x hx
theorem sP_145 : sP 145 = (2, sp_145, sh_145) := rfl
theorem sJ_145 : sJ 145 = sj_145 := rfl
theorem so_145 : sm_okP 145 := by
  unfold sm_okP
  rw [sP_145, sJ_145]
  refine ⟨fun q hq => List.all_eq_true.mp sk_145 q hq, fun x hx => ?_, rfl⟩
  unfold sj_145 at hx
  dsimp only at hx
  exact sTsE (ws := sw_145) (by unfold sw_145; rfl) (by decide +kernel) x hx
theorem sP_146 : sP 146 = (3, sp_146, sh_146) := rfl
theorem sJ_146 : sJ 146 = sj_146 := rfl
theorem so_146 : sm_okP 146 := by
  unfold sm_okP
  rw [sP_146, sJ_146]
  refine ⟨fun q hq => List.all_eq_true.mp sk_146 q hq, fun x hx => ?_, rfl⟩
  unfold sj_146 at hx
  dsimp only at hx
  exact sTsE (ws := sw_146) (by unfold sw_146; rfl) (by decide +kernel) x hx
theorem sP_147 : sP 147 = (2, sp_147, sh_147) := rfl
theorem sJ_147 : sJ 147 = sj_147 := rfl
theorem so_147 : sm_okP 147 := by
  unfold sm_okP
  rw [sP_147, sJ_147]
  refine ⟨fun q hq => List.all_eq_true.mp sk_147 q hq, fun x hx => ?_, rfl⟩
  unfold sj_147 at hx
  dsimp only at hx
  exact sTsE (ws := sw_147) (by unfold sw_147; rfl) (by decide +kernel) x hx
theorem sP_148 : sP 148 = (6, sp_148, sh_148) := rfl
theorem sJ_148 : sJ 148 = sj_148 := rfl
theorem so_148 : sm_okP 148 := by
  unfold sm_okP
  rw [sP_148, sJ_148]
  refine ⟨fun q hq => List.all_eq_true.mp sk_148 q hq, fun x hx => ?_, rfl⟩
  unfold sj_148 at hx
  dsimp only at hx
  exact sTsE (ws := sw_148) (by unfold sw_148; rfl) (by decide +kernel) x hx
theorem sP_149 : sP 149 = (2, sp_149, sh_149) := rfl
theorem sJ_149 : sJ 149 = sj_149 := rfl
theorem so_149 : sm_okP 149 := by
  unfold sm_okP
  rw [sP_149, sJ_149]
  refine ⟨fun q hq => List.all_eq_true.mp sk_149 q hq, fun x hx => ?_, rfl⟩
  unfold sj_149 at hx
  dsimp only at hx
  exact sTsE (ws := sw_149) (by unfold sw_149; rfl) (by decide +kernel) x hx
theorem sP_150 : sP 150 = (10, sp_150, sh_150) := rfl
theorem sJ_150 : sJ 150 = sj_150 := rfl
theorem so_150 : sm_okP 150 := by
  unfold sm_okP
  rw [sP_150, sJ_150]
  refine ⟨fun q hq => List.all_eq_true.mp sk_150 q hq, fun x hx => ?_, rfl⟩
  unfold sj_150 at hx
  dsimp only at hx
  exact sTsE (ws := sw_150) (by unfold sw_150; rfl) (by decide +kernel) x hx
theorem sP_151 : sP 151 = (3, sp_151, sh_151) := rfl
theorem sJ_151 : sJ 151 = sj_151 := rfl
theorem so_151 : sm_okP 151 := by
  unfold sm_okP
  rw [sP_151, sJ_151]
  refine ⟨fun q hq => List.all_eq_true.mp sk_151 q hq, fun x hx => ?_, rfl⟩
  unfold sj_151 at hx
  dsimp only at hx
  exact sTsE (ws := sw_151) (by unfold sw_151; rfl) (by decide +kernel) x hx
theorem sP_152 : sP 152 = (3, sp_152, sh_152) := rfl
theorem sJ_152 : sJ 152 = sj_152 := rfl
theorem so_152 : sm_okP 152 := by
  unfold sm_okP
  rw [sP_152, sJ_152]
  refine ⟨fun q hq => List.all_eq_true.mp sk_152 q hq, fun x hx => ?_, rfl⟩
  unfold sj_152 at hx
  dsimp only at hx
  exact sTsE (ws := sw_152) (by unfold sw_152; rfl) (by decide +kernel) x hx
theorem sP_153 : sP 153 = (3, sp_153, sh_153) := rfl
theorem sJ_153 : sJ 153 = sj_153 := rfl
theorem so_153 : sm_okP 153 := by
  unfold sm_okP
  rw [sP_153, sJ_153]
  refine ⟨fun q hq => List.all_eq_true.mp sk_153 q hq, fun x hx => ?_, rfl⟩
  unfold sj_153 at hx
  dsimp only at hx
  exact sTsE (ws := sw_153) (by unfold sw_153; rfl) (by decide +kernel) x hx
theorem sP_154 : sP 154 = (4, sp_154, sh_154) := rfl
theorem sJ_154 : sJ 154 = sj_154 := rfl
theorem so_154 : sm_okP 154 := by
  unfold sm_okP
  rw [sP_154, sJ_154]
  refine ⟨fun q hq => List.all_eq_true.mp sk_154 q hq, fun x hx => ?_, rfl⟩
  unfold sj_154 at hx
  dsimp only at hx
  exact sTsE (ws := sw_154) (by unfold sw_154; rfl) (by decide +kernel) x hx
theorem sP_155 : sP 155 = (4, sp_155, sh_155) := rfl
theorem sJ_155 : sJ 155 = sj_155 := rfl
theorem so_155 : sm_okP 155 := by
  unfold sm_okP
  rw [sP_155, sJ_155]
  refine ⟨fun q hq => List.all_eq_true.mp sk_155 q hq, fun x hx => ?_, rfl⟩
  unfold sj_155 at hx
  dsimp only at hx
  exact sTsE (ws := sw_155) (by unfold sw_155; rfl) (by decide +kernel) x hx
theorem sP_156 : sP 156 = (4, sp_156, sh_156) := rfl
theorem sJ_156 : sJ 156 = sj_156 := rfl
theorem so_156 : sm_okP 156 := by
  unfold sm_okP
  rw [sP_156, sJ_156]
  refine ⟨fun q hq => List.all_eq_true.mp sk_156 q hq, fun x hx => ?_, rfl⟩
  unfold sj_156 at hx
  dsimp only at hx
  exact sTsE (ws := sw_156) (by unfold sw_156; rfl) (by decide +kernel) x hx
theorem sP_157 : sP 157 = (5, sp_157, sh_157) := rfl
theorem sJ_157 : sJ 157 = sj_157 := rfl
theorem so_157 : sm_okP 157 := by
  unfold sm_okP
  rw [sP_157, sJ_157]
  refine ⟨fun q hq => List.all_eq_true.mp sk_157 q hq, fun x hx => ?_, rfl⟩
  unfold sj_157 at hx
  dsimp only at hx
  exact sTsE (ws := sw_157) (by unfold sw_157; rfl) (by decide +kernel) x hx
theorem sP_158 : sP 158 = (4, sp_158, sh_158) := rfl
theorem sJ_158 : sJ 158 = sj_158 := rfl
theorem so_158 : sm_okP 158 := by
  unfold sm_okP
  rw [sP_158, sJ_158]
  refine ⟨fun q hq => List.all_eq_true.mp sk_158 q hq, fun x hx => ?_, rfl⟩
  unfold sj_158 at hx
  dsimp only at hx
  exact sTsE (ws := sw_158) (by unfold sw_158; rfl) (by decide +kernel) x hx
theorem sP_159 : sP 159 = (2, sp_159, sh_159) := rfl
theorem sJ_159 : sJ 159 = sj_159 := rfl
theorem so_159 : sm_okP 159 := by
  unfold sm_okP
  rw [sP_159, sJ_159]
  refine ⟨fun q hq => List.all_eq_true.mp sk_159 q hq, fun x hx => ?_, rfl⟩
  unfold sj_159 at hx
  dsimp only at hx
  exact sTsE (ws := sw_159) (by unfold sw_159; rfl) (by decide +kernel) x hx
theorem sP_160 : sP 160 = (2, sp_160, sh_160) := rfl
theorem sJ_160 : sJ 160 = sj_160 := rfl
theorem so_160 : sm_okP 160 := by
  unfold sm_okP
  rw [sP_160, sJ_160]
  refine ⟨fun q hq => List.all_eq_true.mp sk_160 q hq, fun x hx => ?_, rfl⟩
  unfold sj_160 at hx
  dsimp only at hx
  exact sTsE (ws := sw_160) (by unfold sw_160; rfl) (by decide +kernel) x hx
theorem sP_161 : sP 161 = (1, sp_161, sh_161) := rfl
theorem sJ_161 : sJ 161 = sj_161 := rfl
theorem so_161 : sm_okP 161 := by
  unfold sm_okP
  rw [sP_161, sJ_161]
  refine ⟨fun q hq => List.all_eq_true.mp sk_161 q hq, fun x hx => ?_, rfl⟩
  unfold sj_161 at hx
  dsimp only at hx
  exact sTsE (ws := sw_161) (by unfold sw_161; rfl) (by decide +kernel) x hx
theorem sP_162 : sP 162 = (6, sp_162, sh_162) := rfl
theorem sJ_162 : sJ 162 = sj_162 := rfl
theorem so_162 : sm_okP 162 := by
  unfold sm_okP
  rw [sP_162, sJ_162]
  refine ⟨fun q hq => List.all_eq_true.mp sk_162 q hq, fun x hx => ?_, rfl⟩
  unfold sj_162 at hx
  dsimp only at hx
  exact sTsE (ws := sw_162) (by unfold sw_162; rfl) (by decide +kernel) x hx
theorem sP_163 : sP 163 = (2, sp_163, sh_163) := rfl
theorem sJ_163 : sJ 163 = sj_163 := rfl
theorem so_163 : sm_okP 163 := by
  unfold sm_okP
  rw [sP_163, sJ_163]
  refine ⟨fun q hq => List.all_eq_true.mp sk_163 q hq, fun x hx => ?_, rfl⟩
  unfold sj_163 at hx
  dsimp only at hx
  exact sTsE (ws := sw_163) (by unfold sw_163; rfl) (by decide +kernel) x hx
theorem sP_164 : sP 164 = (3, sp_164, sh_164) := rfl
theorem sJ_164 : sJ 164 = sj_164 := rfl
theorem so_164 : sm_okP 164 := by
  unfold sm_okP
  rw [sP_164, sJ_164]
  refine ⟨fun q hq => List.all_eq_true.mp sk_164 q hq, fun x hx => ?_, rfl⟩
  unfold sj_164 at hx
  dsimp only at hx
  exact sTsE (ws := sw_164) (by unfold sw_164; rfl) (by decide +kernel) x hx
theorem sP_165 : sP 165 = (2, sp_165, sh_165) := rfl
theorem sJ_165 : sJ 165 = sj_165 := rfl
theorem so_165 : sm_okP 165 := by
  unfold sm_okP
  rw [sP_165, sJ_165]
  refine ⟨fun q hq => List.all_eq_true.mp sk_165 q hq, fun x hx => ?_, rfl⟩
  unfold sj_165 at hx
  dsimp only at hx
  exact sTsE (ws := sw_165) (by unfold sw_165; rfl) (by decide +kernel) x hx
theorem sP_166 : sP 166 = (6, sp_166, sh_166) := rfl
theorem sJ_166 : sJ 166 = sj_166 := rfl
theorem so_166 : sm_okP 166 := by
  unfold sm_okP
  rw [sP_166, sJ_166]
  refine ⟨fun q hq => List.all_eq_true.mp sk_166 q hq, fun x hx => ?_, rfl⟩
  unfold sj_166 at hx
  dsimp only at hx
  exact sTsE (ws := sw_166) (by unfold sw_166; rfl) (by decide +kernel) x hx
theorem sP_167 : sP 167 = (1, sp_167, sh_167) := rfl
theorem sJ_167 : sJ 167 = sj_167 := rfl
theorem so_167 : sm_okP 167 := by
  unfold sm_okP
  rw [sP_167, sJ_167]
  refine ⟨fun q hq => List.all_eq_true.mp sk_167 q hq, fun x hx => ?_, rfl⟩
  unfold sj_167 at hx
  dsimp only at hx
  exact sTsE (ws := sw_167) (by unfold sw_167; rfl) (by decide +kernel) x hx
theorem sP_168 : sP 168 = (6, sp_168, sh_168) := rfl
theorem sJ_168 : sJ 168 = sj_168 := rfl
theorem so_168 : sm_okP 168 := by
  unfold sm_okP
  rw [sP_168, sJ_168]
  refine ⟨fun q hq => List.all_eq_true.mp sk_168 q hq, fun x hx => ?_, rfl⟩
  unfold sj_168 at hx
  dsimp only at hx
  exact sTsE (ws := sw_168) (by unfold sw_168; rfl) (by decide +kernel) x hx
theorem sP_169 : sP 169 = (2, sp_169, sh_169) := rfl
theorem sJ_169 : sJ 169 = sj_169 := rfl
theorem so_169 : sm_okP 169 := by
  unfold sm_okP
  rw [sP_169, sJ_169]
  refine ⟨fun q hq => List.all_eq_true.mp sk_169 q hq, fun x hx => ?_, rfl⟩
  unfold sj_169 at hx
  dsimp only at hx
  exact sTsE (ws := sw_169) (by unfold sw_169; rfl) (by decide +kernel) x hx
theorem sP_170 : sP 170 = (2, sp_170, sh_170) := rfl
theorem sJ_170 : sJ 170 = sj_170 := rfl
theorem so_170 : sm_okP 170 := by
  unfold sm_okP
  rw [sP_170, sJ_170]
  refine ⟨fun q hq => List.all_eq_true.mp sk_170 q hq, fun x hx => ?_, rfl⟩
  unfold sj_170 at hx
  dsimp only at hx
  exact sTsE (ws := sw_170) (by unfold sw_170; rfl) (by decide +kernel) x hx
theorem sP_171 : sP 171 = (2, sp_171, sh_171) := rfl
theorem sJ_171 : sJ 171 = sj_171 := rfl
theorem so_171 : sm_okP 171 := by
  unfold sm_okP
  rw [sP_171, sJ_171]
  refine ⟨fun q hq => List.all_eq_true.mp sk_171 q hq, fun x hx => ?_, rfl⟩
  unfold sj_171 at hx
  dsimp only at hx
  exact sTsE (ws := sw_171) (by unfold sw_171; rfl) (by decide +kernel) x hx
theorem sP_172 : sP 172 = (1, sp_172, sh_172) := rfl
theorem sJ_172 : sJ 172 = sj_172 := rfl
theorem so_172 : sm_okP 172 := by
  unfold sm_okP
  rw [sP_172, sJ_172]
  refine ⟨fun q hq => List.all_eq_true.mp sk_172 q hq, fun x hx => ?_, rfl⟩
  unfold sj_172 at hx
  dsimp only at hx
  exact sTsE (ws := sw_172) (by unfold sw_172; rfl) (by decide +kernel) x hx
theorem sP_173 : sP 173 = (1, sp_173, sh_173) := rfl
theorem sJ_173 : sJ 173 = sj_173 := rfl
theorem so_173 : sm_okP 173 := by
  unfold sm_okP
  rw [sP_173, sJ_173]
  refine ⟨fun q hq => List.all_eq_true.mp sk_173 q hq, fun x hx => ?_, rfl⟩
  unfold sj_173 at hx
  dsimp only at hx
  exact sTsE (ws := sw_173) (by unfold sw_173; rfl) (by decide +kernel) x hx
theorem sP_174 : sP 174 = (1, sp_174, sh_174) := rfl
theorem sJ_174 : sJ 174 = sj_174 := rfl
theorem so_174 : sm_okP 174 := by
  unfold sm_okP
  rw [sP_174, sJ_174]
  refine ⟨fun q hq => List.all_eq_true.mp sk_174 q hq, fun x hx => ?_, rfl⟩
  unfold sj_174 at hx
  dsimp only at hx
  exact sTsE (ws := sw_174) (by unfold sw_174; rfl) (by decide +kernel) x hx
theorem sP_175 : sP 175 = (4, sp_175, sh_175) := rfl
theorem sJ_175 : sJ 175 = sj_175 := rfl
theorem so_175 : sm_okP 175 := by
  unfold sm_okP
  rw [sP_175, sJ_175]
  refine ⟨fun q hq => List.all_eq_true.mp sk_175 q hq, fun x hx => ?_, rfl⟩
  unfold sj_175 at hx
  dsimp only at hx
  exact sTsE (ws := sw_175) (by unfold sw_175; rfl) (by decide +kernel) x hx
theorem sP_176 : sP 176 = (2, sp_176, sh_176) := rfl
theorem sJ_176 : sJ 176 = sj_176 := rfl
theorem so_176 : sm_okP 176 := by
  unfold sm_okP
  rw [sP_176, sJ_176]
  refine ⟨fun q hq => List.all_eq_true.mp sk_176 q hq, fun x hx => ?_, rfl⟩
  unfold sj_176 at hx
  dsimp only at hx
  exact sTsE (ws := sw_176) (by unfold sw_176; rfl) (by decide +kernel) x hx
theorem sP_177 : sP 177 = (2, sp_177, sh_177) := rfl
theorem sJ_177 : sJ 177 = sj_177 := rfl
theorem so_177 : sm_okP 177 := by
  unfold sm_okP
  rw [sP_177, sJ_177]
  refine ⟨fun q hq => List.all_eq_true.mp sk_177 q hq, fun x hx => ?_, rfl⟩
  unfold sj_177 at hx
  dsimp only at hx
  exact sTsE (ws := sw_177) (by unfold sw_177; rfl) (by decide +kernel) x hx
theorem sP_178 : sP 178 = (3, sp_178, sh_178) := rfl
theorem sJ_178 : sJ 178 = sj_178 := rfl
theorem so_178 : sm_okP 178 := by
  unfold sm_okP
  rw [sP_178, sJ_178]
  refine ⟨fun q hq => List.all_eq_true.mp sk_178 q hq, fun x hx => ?_, rfl⟩
  unfold sj_178 at hx
  dsimp only at hx
  exact sTsE (ws := sw_178) (by unfold sw_178; rfl) (by decide +kernel) x hx
theorem sP_179 : sP 179 = (1, sp_179, sh_179) := rfl
theorem sJ_179 : sJ 179 = sj_179 := rfl
theorem so_179 : sm_okP 179 := by
  unfold sm_okP
  rw [sP_179, sJ_179]
  refine ⟨fun q hq => List.all_eq_true.mp sk_179 q hq, fun x hx => ?_, rfl⟩
  unfold sj_179 at hx
  dsimp only at hx
  exact sTsE (ws := sw_179) (by unfold sw_179; rfl) (by decide +kernel) x hx
theorem sP_180 : sP 180 = (7, sp_180, sh_180) := rfl
theorem sJ_180 : sJ 180 = sj_180 := rfl
theorem so_180 : sm_okP 180 := by
  unfold sm_okP
  rw [sP_180, sJ_180]
  refine ⟨fun q hq => List.all_eq_true.mp sk_180 q hq, fun x hx => ?_, rfl⟩
  unfold sj_180 at hx
  dsimp only at hx
  exact sTsE (ws := sw_180) (by unfold sw_180; rfl) (by decide +kernel) x hx
theorem sP_181 : sP 181 = (6, sp_181, sh_181) := rfl
theorem sJ_181 : sJ 181 = sj_181 := rfl
theorem so_181 : sm_okP 181 := by
  unfold sm_okP
  rw [sP_181, sJ_181]
  refine ⟨fun q hq => List.all_eq_true.mp sk_181 q hq, fun x hx => ?_, rfl⟩
  unfold sj_181 at hx
  dsimp only at hx
  exact sTsE (ws := sw_181) (by unfold sw_181; rfl) (by decide +kernel) x hx
theorem sP_182 : sP 182 = (3, sp_182, sh_182) := rfl
theorem sJ_182 : sJ 182 = sj_182 := rfl
theorem so_182 : sm_okP 182 := by
  unfold sm_okP
  rw [sP_182, sJ_182]
  refine ⟨fun q hq => List.all_eq_true.mp sk_182 q hq, fun x hx => ?_, rfl⟩
  unfold sj_182 at hx
  dsimp only at hx
  exact sTsE (ws := sw_182) (by unfold sw_182; rfl) (by decide +kernel) x hx
theorem sP_183 : sP 183 = (2, sp_183, sh_183) := rfl
theorem sJ_183 : sJ 183 = sj_183 := rfl
theorem so_183 : sm_okP 183 := by
  unfold sm_okP
  rw [sP_183, sJ_183]
  refine ⟨fun q hq => List.all_eq_true.mp sk_183 q hq, fun x hx => ?_, rfl⟩
  unfold sj_183 at hx
  dsimp only at hx
  exact sTsE (ws := sw_183) (by unfold sw_183; rfl) (by decide +kernel) x hx
theorem sP_184 : sP 184 = (3, sp_184, sh_184) := rfl
theorem sJ_184 : sJ 184 = sj_184 := rfl
theorem so_184 : sm_okP 184 := by
  unfold sm_okP
  rw [sP_184, sJ_184]
  refine ⟨fun q hq => List.all_eq_true.mp sk_184 q hq, fun x hx => ?_, rfl⟩
  unfold sj_184 at hx
  dsimp only at hx
  exact sTsE (ws := sw_184) (by unfold sw_184; rfl) (by decide +kernel) x hx
theorem sP_185 : sP 185 = (7, sp_185, sh_185) := rfl
theorem sJ_185 : sJ 185 = sj_185 := rfl
theorem so_185 : sm_okP 185 := by
  unfold sm_okP
  rw [sP_185, sJ_185]
  refine ⟨fun q hq => List.all_eq_true.mp sk_185 q hq, fun x hx => ?_, rfl⟩
  unfold sj_185 at hx
  dsimp only at hx
  exact sTsE (ws := sw_185) (by unfold sw_185; rfl) (by decide +kernel) x hx
theorem sP_186 : sP 186 = (4, sp_186, sh_186) := rfl
theorem sJ_186 : sJ 186 = sj_186 := rfl
theorem so_186 : sm_okP 186 := by
  unfold sm_okP
  rw [sP_186, sJ_186]
  refine ⟨fun q hq => List.all_eq_true.mp sk_186 q hq, fun x hx => ?_, rfl⟩
  unfold sj_186 at hx
  dsimp only at hx
  exact sTsE (ws := sw_186) (by unfold sw_186; rfl) (by decide +kernel) x hx
theorem sP_187 : sP 187 = (1, sp_187, sh_187) := rfl
theorem sJ_187 : sJ 187 = sj_187 := rfl
theorem so_187 : sm_okP 187 := by
  unfold sm_okP
  rw [sP_187, sJ_187]
  refine ⟨fun q hq => List.all_eq_true.mp sk_187 q hq, fun x hx => ?_, rfl⟩
  unfold sj_187 at hx
  dsimp only at hx
  exact sTsE (ws := sw_187) (by unfold sw_187; rfl) (by decide +kernel) x hx
theorem sP_188 : sP 188 = (11, sp_188, sh_188) := rfl
theorem sJ_188 : sJ 188 = sj_188 := rfl
theorem so_188 : sm_okP 188 := by
  unfold sm_okP
  rw [sP_188, sJ_188]
  refine ⟨fun q hq => List.all_eq_true.mp sk_188 q hq, fun x hx => ?_, rfl⟩
  unfold sj_188 at hx
  dsimp only at hx
  exact sTsE (ws := sw_188) (by unfold sw_188; rfl) (by decide +kernel) x hx
theorem sP_189 : sP 189 = (4, sp_189, sh_189) := rfl
theorem sJ_189 : sJ 189 = sj_189 := rfl
theorem so_189 : sm_okP 189 := by
  unfold sm_okP
  rw [sP_189, sJ_189]
  refine ⟨fun q hq => List.all_eq_true.mp sk_189 q hq, fun x hx => ?_, rfl⟩
  unfold sj_189 at hx
  dsimp only at hx
  exact sTsE (ws := sw_189) (by unfold sw_189; rfl) (by decide +kernel) x hx
theorem sP_190 : sP 190 = (6, sp_190, sh_190) := rfl
theorem sJ_190 : sJ 190 = sj_190 := rfl
theorem so_190 : sm_okP 190 := by
  unfold sm_okP
  rw [sP_190, sJ_190]
  refine ⟨fun q hq => List.all_eq_true.mp sk_190 q hq, fun x hx => ?_, rfl⟩
  unfold sj_190 at hx
  dsimp only at hx
  exact sTsE (ws := sw_190) (by unfold sw_190; rfl) (by decide +kernel) x hx
theorem sP_191 : sP 191 = (3, sp_191, sh_191) := rfl
theorem sJ_191 : sJ 191 = sj_191 := rfl
theorem so_191 : sm_okP 191 := by
  unfold sm_okP
  rw [sP_191, sJ_191]
  refine ⟨fun q hq => List.all_eq_true.mp sk_191 q hq, fun x hx => ?_, rfl⟩
  unfold sj_191 at hx
  dsimp only at hx
  exact sTsE (ws := sw_191) (by unfold sw_191; rfl) (by decide +kernel) x hx
theorem sP_192 : sP 192 = (2, sp_192, sh_192) := rfl
theorem sJ_192 : sJ 192 = sj_192 := rfl
theorem so_192 : sm_okP 192 := by
  unfold sm_okP
  rw [sP_192, sJ_192]
  refine ⟨fun q hq => List.all_eq_true.mp sk_192 q hq, fun x hx => ?_, rfl⟩
  unfold sj_192 at hx
  dsimp only at hx
  exact sTsE (ws := sw_192) (by unfold sw_192; rfl) (by decide +kernel) x hx
theorem sP_193 : sP 193 = (3, sp_193, sh_193) := rfl
theorem sJ_193 : sJ 193 = sj_193 := rfl
theorem so_193 : sm_okP 193 := by
  unfold sm_okP
  rw [sP_193, sJ_193]
  refine ⟨fun q hq => List.all_eq_true.mp sk_193 q hq, fun x hx => ?_, rfl⟩
  unfold sj_193 at hx
  dsimp only at hx
  exact sTsE (ws := sw_193) (by unfold sw_193; rfl) (by decide +kernel) x hx
theorem sP_194 : sP 194 = (10, sp_194, sh_194) := rfl
theorem sJ_194 : sJ 194 = sj_194 := rfl
theorem so_194 : sm_okP 194 := by
  unfold sm_okP
  rw [sP_194, sJ_194]
  refine ⟨fun q hq => List.all_eq_true.mp sk_194 q hq, fun x hx => ?_, rfl⟩
  unfold sj_194 at hx
  dsimp only at hx
  exact sTsE (ws := sw_194) (by unfold sw_194; rfl) (by decide +kernel) x hx
theorem sP_195 : sP 195 = (4, sp_195, sh_195) := rfl
theorem sJ_195 : sJ 195 = sj_195 := rfl
theorem so_195 : sm_okP 195 := by
  unfold sm_okP
  rw [sP_195, sJ_195]
  refine ⟨fun q hq => List.all_eq_true.mp sk_195 q hq, fun x hx => ?_, rfl⟩
  unfold sj_195 at hx
  dsimp only at hx
  exact sTsE (ws := sw_195) (by unfold sw_195; rfl) (by decide +kernel) x hx
theorem sP_196 : sP 196 = (2, sp_196, sh_196) := rfl
theorem sJ_196 : sJ 196 = sj_196 := rfl
theorem so_196 : sm_okP 196 := by
  unfold sm_okP
  rw [sP_196, sJ_196]
  refine ⟨fun q hq => List.all_eq_true.mp sk_196 q hq, fun x hx => ?_, rfl⟩
  unfold sj_196 at hx
  dsimp only at hx
  exact sTsE (ws := sw_196) (by unfold sw_196; rfl) (by decide +kernel) x hx
theorem sP_197 : sP 197 = (4, sp_197, sh_197) := rfl
theorem sJ_197 : sJ 197 = sj_197 := rfl
theorem so_197 : sm_okP 197 := by
  unfold sm_okP
  rw [sP_197, sJ_197]
  refine ⟨fun q hq => List.all_eq_true.mp sk_197 q hq, fun x hx => ?_, rfl⟩
  unfold sj_197 at hx
  dsimp only at hx
  exact sTsE (ws := sw_197) (by unfold sw_197; rfl) (by decide +kernel) x hx
theorem sP_198 : sP 198 = (7, sp_198, sh_198) := rfl
theorem sJ_198 : sJ 198 = sj_198 := rfl
theorem so_198 : sm_okP 198 := by
  unfold sm_okP
  rw [sP_198, sJ_198]
  refine ⟨fun q hq => List.all_eq_true.mp sk_198 q hq, fun x hx => ?_, rfl⟩
  unfold sj_198 at hx
  dsimp only at hx
  exact sTsE (ws := sw_198) (by unfold sw_198; rfl) (by decide +kernel) x hx
theorem sP_199 : sP 199 = (5, sp_199, sh_199) := rfl
theorem sJ_199 : sJ 199 = sj_199 := rfl
theorem so_199 : sm_okP 199 := by
  unfold sm_okP
  rw [sP_199, sJ_199]
  refine ⟨fun q hq => List.all_eq_true.mp sk_199 q hq, fun x hx => ?_, rfl⟩
  unfold sj_199 at hx
  dsimp only at hx
  exact sTsE (ws := sw_199) (by unfold sw_199; rfl) (by decide +kernel) x hx
theorem sP_200 : sP 200 = (1, sp_200, sh_200) := rfl
theorem sJ_200 : sJ 200 = sj_200 := rfl
theorem so_200 : sm_okP 200 := by
  unfold sm_okP
  rw [sP_200, sJ_200]
  refine ⟨fun q hq => List.all_eq_true.mp sk_200 q hq, fun x hx => ?_, rfl⟩
  unfold sj_200 at hx
  dsimp only at hx
  exact sTsE (ws := sw_200) (by unfold sw_200; rfl) (by decide +kernel) x hx
theorem sP_201 : sP 201 = (1, sp_201, sh_201) := rfl
theorem sJ_201 : sJ 201 = sj_201 := rfl
theorem so_201 : sm_okP 201 := by
  unfold sm_okP
  rw [sP_201, sJ_201]
  refine ⟨fun q hq => List.all_eq_true.mp sk_201 q hq, fun x hx => ?_, rfl⟩
  unfold sj_201 at hx
  dsimp only at hx
  exact sTsE (ws := sw_201) (by unfold sw_201; rfl) (by decide +kernel) x hx
theorem sP_202 : sP 202 = (7, sp_202, sh_202) := rfl
theorem sJ_202 : sJ 202 = sj_202 := rfl
theorem so_202 : sm_okP 202 := by
  unfold sm_okP
  rw [sP_202, sJ_202]
  refine ⟨fun q hq => List.all_eq_true.mp sk_202 q hq, fun x hx => ?_, rfl⟩
  unfold sj_202 at hx
  dsimp only at hx
  exact sTsE (ws := sw_202) (by unfold sw_202; rfl) (by decide +kernel) x hx
theorem sP_203 : sP 203 = (3, sp_203, sh_203) := rfl
theorem sJ_203 : sJ 203 = sj_203 := rfl
theorem so_203 : sm_okP 203 := by
  unfold sm_okP
  rw [sP_203, sJ_203]
  refine ⟨fun q hq => List.all_eq_true.mp sk_203 q hq, fun x hx => ?_, rfl⟩
  unfold sj_203 at hx
  dsimp only at hx
  exact sTsE (ws := sw_203) (by unfold sw_203; rfl) (by decide +kernel) x hx
theorem sP_204 : sP 204 = (2, sp_204, sh_204) := rfl
theorem sJ_204 : sJ 204 = sj_204 := rfl
theorem so_204 : sm_okP 204 := by
  unfold sm_okP
  rw [sP_204, sJ_204]
  refine ⟨fun q hq => List.all_eq_true.mp sk_204 q hq, fun x hx => ?_, rfl⟩
  unfold sj_204 at hx
  dsimp only at hx
  exact sTsE (ws := sw_204) (by unfold sw_204; rfl) (by decide +kernel) x hx
theorem sP_205 : sP 205 = (7, sp_205, sh_205) := rfl
theorem sJ_205 : sJ 205 = sj_205 := rfl
theorem so_205 : sm_okP 205 := by
  unfold sm_okP
  rw [sP_205, sJ_205]
  refine ⟨fun q hq => List.all_eq_true.mp sk_205 q hq, fun x hx => ?_, rfl⟩
  unfold sj_205 at hx
  dsimp only at hx
  exact sTsE (ws := sw_205) (by unfold sw_205; rfl) (by decide +kernel) x hx
theorem sP_206 : sP 206 = (10, sp_206, sh_206) := rfl
theorem sJ_206 : sJ 206 = sj_206 := rfl
theorem so_206 : sm_okP 206 := by
  unfold sm_okP
  rw [sP_206, sJ_206]
  refine ⟨fun q hq => List.all_eq_true.mp sk_206 q hq, fun x hx => ?_, rfl⟩
  unfold sj_206 at hx
  dsimp only at hx
  exact sTsE (ws := sw_206) (by unfold sw_206; rfl) (by decide +kernel) x hx
theorem sP_207 : sP 207 = (7, sp_207, sh_207) := rfl
theorem sJ_207 : sJ 207 = sj_207 := rfl
theorem so_207 : sm_okP 207 := by
  unfold sm_okP
  rw [sP_207, sJ_207]
  refine ⟨fun q hq => List.all_eq_true.mp sk_207 q hq, fun x hx => ?_, rfl⟩
  unfold sj_207 at hx
  dsimp only at hx
  exact sTsE (ws := sw_207) (by unfold sw_207; rfl) (by decide +kernel) x hx
theorem sP_208 : sP 208 = (4, sp_208, sh_208) := rfl
theorem sJ_208 : sJ 208 = sj_208 := rfl
theorem so_208 : sm_okP 208 := by
  unfold sm_okP
  rw [sP_208, sJ_208]
  refine ⟨fun q hq => List.all_eq_true.mp sk_208 q hq, fun x hx => ?_, rfl⟩
  unfold sj_208 at hx
  dsimp only at hx
  exact sTsE (ws := sw_208) (by unfold sw_208; rfl) (by decide +kernel) x hx
theorem sP_209 : sP 209 = (1, sp_209, sh_209) := rfl
theorem sJ_209 : sJ 209 = sj_209 := rfl
theorem so_209 : sm_okP 209 := by
  unfold sm_okP
  rw [sP_209, sJ_209]
  refine ⟨fun q hq => List.all_eq_true.mp sk_209 q hq, fun x hx => ?_, rfl⟩
  unfold sj_209 at hx
  dsimp only at hx
  exact sTsE (ws := sw_209) (by unfold sw_209; rfl) (by decide +kernel) x hx
theorem sP_210 : sP 210 = (7, sp_210, sh_210) := rfl
theorem sJ_210 : sJ 210 = sj_210 := rfl
theorem so_210 : sm_okP 210 := by
  unfold sm_okP
  rw [sP_210, sJ_210]
  refine ⟨fun q hq => List.all_eq_true.mp sk_210 q hq, fun x hx => ?_, rfl⟩
  unfold sj_210 at hx
  dsimp only at hx
  exact sTsE (ws := sw_210) (by unfold sw_210; rfl) (by decide +kernel) x hx
theorem sP_211 : sP 211 = (2, sp_211, sh_211) := rfl
theorem sJ_211 : sJ 211 = sj_211 := rfl
theorem so_211 : sm_okP 211 := by
  unfold sm_okP
  rw [sP_211, sJ_211]
  refine ⟨fun q hq => List.all_eq_true.mp sk_211 q hq, fun x hx => ?_, rfl⟩
  unfold sj_211 at hx
  dsimp only at hx
  exact sTsE (ws := sw_211) (by unfold sw_211; rfl) (by decide +kernel) x hx
theorem sP_212 : sP 212 = (5, sp_212, sh_212) := rfl
theorem sJ_212 : sJ 212 = sj_212 := rfl
theorem so_212 : sm_okP 212 := by
  unfold sm_okP
  rw [sP_212, sJ_212]
  refine ⟨fun q hq => List.all_eq_true.mp sk_212 q hq, fun x hx => ?_, rfl⟩
  unfold sj_212 at hx
  dsimp only at hx
  exact sTsE (ws := sw_212) (by unfold sw_212; rfl) (by decide +kernel) x hx
theorem sP_213 : sP 213 = (4, sp_213, sh_213) := rfl
theorem sJ_213 : sJ 213 = sj_213 := rfl
theorem so_213 : sm_okP 213 := by
  unfold sm_okP
  rw [sP_213, sJ_213]
  refine ⟨fun q hq => List.all_eq_true.mp sk_213 q hq, fun x hx => ?_, rfl⟩
  unfold sj_213 at hx
  dsimp only at hx
  exact sTsE (ws := sw_213) (by unfold sw_213; rfl) (by decide +kernel) x hx
theorem sP_214 : sP 214 = (2, sp_214, sh_214) := rfl
theorem sJ_214 : sJ 214 = sj_214 := rfl
theorem so_214 : sm_okP 214 := by
  unfold sm_okP
  rw [sP_214, sJ_214]
  refine ⟨fun q hq => List.all_eq_true.mp sk_214 q hq, fun x hx => ?_, rfl⟩
  unfold sj_214 at hx
  dsimp only at hx
  exact sTsE (ws := sw_214) (by unfold sw_214; rfl) (by decide +kernel) x hx
theorem sP_215 : sP 215 = (3, sp_215, sh_215) := rfl
theorem sJ_215 : sJ 215 = sj_215 := rfl
theorem so_215 : sm_okP 215 := by
  unfold sm_okP
  rw [sP_215, sJ_215]
  refine ⟨fun q hq => List.all_eq_true.mp sk_215 q hq, fun x hx => ?_, rfl⟩
  unfold sj_215 at hx
  dsimp only at hx
  exact sTsE (ws := sw_215) (by unfold sw_215; rfl) (by decide +kernel) x hx
theorem sP_216 : sP 216 = (3, sp_216, sh_216) := rfl
theorem sJ_216 : sJ 216 = sj_216 := rfl
theorem so_216 : sm_okP 216 := by
  unfold sm_okP
  rw [sP_216, sJ_216]
  refine ⟨fun q hq => List.all_eq_true.mp sk_216 q hq, fun x hx => ?_, rfl⟩
  unfold sj_216 at hx
  dsimp only at hx
  exact sTsE (ws := sw_216) (by unfold sw_216; rfl) (by decide +kernel) x hx
theorem sP_217 : sP 217 = (11, sp_217, sh_217) := rfl
theorem sJ_217 : sJ 217 = sj_217 := rfl
theorem so_217 : sm_okP 217 := by
  unfold sm_okP
  rw [sP_217, sJ_217]
  refine ⟨fun q hq => List.all_eq_true.mp sk_217 q hq, fun x hx => ?_, rfl⟩
  unfold sj_217 at hx
  dsimp only at hx
  exact sTsE (ws := sw_217) (by unfold sw_217; rfl) (by decide +kernel) x hx
theorem sP_218 : sP 218 = (4, sp_218, sh_218) := rfl
theorem sJ_218 : sJ 218 = sj_218 := rfl
theorem so_218 : sm_okP 218 := by
  unfold sm_okP
  rw [sP_218, sJ_218]
  refine ⟨fun q hq => List.all_eq_true.mp sk_218 q hq, fun x hx => ?_, rfl⟩
  unfold sj_218 at hx
  dsimp only at hx
  exact sTsE (ws := sw_218) (by unfold sw_218; rfl) (by decide +kernel) x hx
theorem sP_219 : sP 219 = (3, sp_219, sh_219) := rfl
theorem sJ_219 : sJ 219 = sj_219 := rfl
theorem so_219 : sm_okP 219 := by
  unfold sm_okP
  rw [sP_219, sJ_219]
  refine ⟨fun q hq => List.all_eq_true.mp sk_219 q hq, fun x hx => ?_, rfl⟩
  unfold sj_219 at hx
  dsimp only at hx
  exact sTsE (ws := sw_219) (by unfold sw_219; rfl) (by decide +kernel) x hx
theorem sP_220 : sP 220 = (5, sp_220, sh_220) := rfl
theorem sJ_220 : sJ 220 = sj_220 := rfl
theorem so_220 : sm_okP 220 := by
  unfold sm_okP
  rw [sP_220, sJ_220]
  refine ⟨fun q hq => List.all_eq_true.mp sk_220 q hq, fun x hx => ?_, rfl⟩
  unfold sj_220 at hx
  dsimp only at hx
  exact sTsE (ws := sw_220) (by unfold sw_220; rfl) (by decide +kernel) x hx
theorem sP_221 : sP 221 = (7, sp_221, sh_221) := rfl
theorem sJ_221 : sJ 221 = sj_221 := rfl
theorem so_221 : sm_okP 221 := by
  unfold sm_okP
  rw [sP_221, sJ_221]
  refine ⟨fun q hq => List.all_eq_true.mp sk_221 q hq, fun x hx => ?_, rfl⟩
  unfold sj_221 at hx
  dsimp only at hx
  exact sTsE (ws := sw_221) (by unfold sw_221; rfl) (by decide +kernel) x hx
theorem sP_222 : sP 222 = (2, sp_222, sh_222) := rfl
theorem sJ_222 : sJ 222 = sj_222 := rfl
theorem so_222 : sm_okP 222 := by
  unfold sm_okP
  rw [sP_222, sJ_222]
  refine ⟨fun q hq => List.all_eq_true.mp sk_222 q hq, fun x hx => ?_, rfl⟩
  unfold sj_222 at hx
  dsimp only at hx
  exact sTsE (ws := sw_222) (by unfold sw_222; rfl) (by decide +kernel) x hx
theorem sP_223 : sP 223 = (5, sp_223, sh_223) := rfl
theorem sJ_223 : sJ 223 = sj_223 := rfl
theorem so_223 : sm_okP 223 := by
  unfold sm_okP
  rw [sP_223, sJ_223]
  refine ⟨fun q hq => List.all_eq_true.mp sk_223 q hq, fun x hx => ?_, rfl⟩
  unfold sj_223 at hx
  dsimp only at hx
  exact sTsE (ws := sw_223) (by unfold sw_223; rfl) (by decide +kernel) x hx
theorem sP_224 : sP 224 = (2, sp_224, sh_224) := rfl
theorem sJ_224 : sJ 224 = sj_224 := rfl
theorem so_224 : sm_okP 224 := by
  unfold sm_okP
  rw [sP_224, sJ_224]
  refine ⟨fun q hq => List.all_eq_true.mp sk_224 q hq, fun x hx => ?_, rfl⟩
  unfold sj_224 at hx
  dsimp only at hx
  exact sTsE (ws := sw_224) (by unfold sw_224; rfl) (by decide +kernel) x hx
theorem sP_225 : sP 225 = (8, sp_225, sh_225) := rfl
theorem sJ_225 : sJ 225 = sj_225 := rfl
theorem so_225 : sm_okP 225 := by
  unfold sm_okP
  rw [sP_225, sJ_225]
  refine ⟨fun q hq => List.all_eq_true.mp sk_225 q hq, fun x hx => ?_, rfl⟩
  unfold sj_225 at hx
  dsimp only at hx
  exact sTsE (ws := sw_225) (by unfold sw_225; rfl) (by decide +kernel) x hx
theorem sog_0 : ∀ j, j < 16 → sm_okP (16 * 0 + j) := by
  intro j hj
  match j, hj with
  | 0, _ => exact so_0
  | 1, _ => exact so_1
  | 2, _ => exact so_2
  | 3, _ => exact so_3
  | 4, _ => exact so_4
  | 5, _ => exact so_5
  | 6, _ => exact so_6
  | 7, _ => exact so_7
  | 8, _ => exact so_8
  | 9, _ => exact so_9
  | 10, _ => exact so_10
  | 11, _ => exact so_11
  | 12, _ => exact so_12
  | 13, _ => exact so_13
  | 14, _ => exact so_14
  | 15, _ => exact so_15
  | k + 16, hk => exact absurd hk (by omega)
theorem sog_1 : ∀ j, j < 16 → sm_okP (16 * 1 + j) := by
  intro j hj
  match j, hj with
  | 0, _ => exact so_16
  | 1, _ => exact so_17
  | 2, _ => exact so_18
  | 3, _ => exact so_19
  | 4, _ => exact so_20
  | 5, _ => exact so_21
  | 6, _ => exact so_22
  | 7, _ => exact so_23
  | 8, _ => exact so_24
  | 9, _ => exact so_25
  | 10, _ => exact so_26
  | 11, _ => exact so_27
  | 12, _ => exact so_28
  | 13, _ => exact so_29
  | 14, _ => exact so_30
  | 15, _ => exact so_31
  | k + 16, hk => exact absurd hk (by omega)
theorem sog_2 : ∀ j, j < 16 → sm_okP (16 * 2 + j) := by
  intro j hj
  match j, hj with
  | 0, _ => exact so_32
  | 1, _ => exact so_33
  | 2, _ => exact so_34
  | 3, _ => exact so_35
  | 4, _ => exact so_36
  | 5, _ => exact so_37
  | 6, _ => exact so_38
  | 7, _ => exact so_39
  | 8, _ => exact so_40
  | 9, _ => exact so_41
  | 10, _ => exact so_42
  | 11, _ => exact so_43
  | 12, _ => exact so_44
  | 13, _ => exact so_45
  | 14, _ => exact so_46
  | 15, _ => exact so_47
  | k + 16, hk => exact absurd hk (by omega)
theorem sog_3 : ∀ j, j < 16 → sm_okP (16 * 3 + j) := by
  intro j hj
  match j, hj with
  | 0, _ => exact so_48
  | 1, _ => exact so_49
  | 2, _ => exact so_50
  | 3, _ => exact so_51
  | 4, _ => exact so_52
  | 5, _ => exact so_53
  | 6, _ => exact so_54
  | 7, _ => exact so_55
  | 8, _ => exact so_56
  | 9, _ => exact so_57
  | 10, _ => exact so_58
  | 11, _ => exact so_59
  | 12, _ => exact so_60
  | 13, _ => exact so_61
  | 14, _ => exact so_62
  | 15, _ => exact so_63
  | k + 16, hk => exact absurd hk (by omega)
theorem sog_4 : ∀ j, j < 16 → sm_okP (16 * 4 + j) := by
  intro j hj
  match j, hj with
  | 0, _ => exact so_64
  | 1, _ => exact so_65
  | 2, _ => exact so_66
  | 3, _ => exact so_67
  | 4, _ => exact so_68
  | 5, _ => exact so_69
  | 6, _ => exact so_70
  | 7, _ => exact so_71
  | 8, _ => exact so_72
  | 9, _ => exact so_73
  | 10, _ => exact so_74
  | 11, _ => exact so_75
  | 12, _ => exact so_76
  | 13, _ => exact so_77
  | 14, _ => exact so_78
  | 15, _ => exact so_79
  | k + 16, hk => exact absurd hk (by omega)
theorem sog_5 : ∀ j, j < 16 → sm_okP (16 * 5 + j) := by
  intro j hj
  match j, hj with
  | 0, _ => exact so_80
  | 1, _ => exact so_81
  | 2, _ => exact so_82
  | 3, _ => exact so_83
  | 4, _ => exact so_84
  | 5, _ => exact so_85
  | 6, _ => exact so_86
  | 7, _ => exact so_87
  | 8, _ => exact so_88
  | 9, _ => exact so_89
  | 10, _ => exact so_90
  | 11, _ => exact so_91
  | 12, _ => exact so_92
  | 13, _ => exact so_93
  | 14, _ => exact so_94
  | 15, _ => exact so_95
  | k + 16, hk => exact absurd hk (by omega)
theorem sog_6 : ∀ j, j < 16 → sm_okP (16 * 6 + j) := by
  intro j hj
  match j, hj with
  | 0, _ => exact so_96
  | 1, _ => exact so_97
  | 2, _ => exact so_98
  | 3, _ => exact so_99
  | 4, _ => exact so_100
  | 5, _ => exact so_101
  | 6, _ => exact so_102
  | 7, _ => exact so_103
  | 8, _ => exact so_104
  | 9, _ => exact so_105
  | 10, _ => exact so_106
  | 11, _ => exact so_107
  | 12, _ => exact so_108
  | 13, _ => exact so_109
  | 14, _ => exact so_110
  | 15, _ => exact so_111
  | k + 16, hk => exact absurd hk (by omega)
theorem sog_7 : ∀ j, j < 16 → sm_okP (16 * 7 + j) := by
  intro j hj
  match j, hj with
  | 0, _ => exact so_112
  | 1, _ => exact so_113
  | 2, _ => exact so_114
  | 3, _ => exact so_115
  | 4, _ => exact so_116
  | 5, _ => exact so_117
  | 6, _ => exact so_118
  | 7, _ => exact so_119
  | 8, _ => exact so_120
  | 9, _ => exact so_121
  | 10, _ => exact so_122
  | 11, _ => exact so_123
  | 12, _ => exact so_124
  | 13, _ => exact so_125
  | 14, _ => exact so_126
  | 15, _ => exact so_127
  | k + 16, hk => exact absurd hk (by omega)
theorem sog_8 : ∀ j, j < 16 → sm_okP (16 * 8 + j) := by
  intro j hj
  match j, hj with
  | 0, _ => exact so_128
  | 1, _ => exact so_129
  | 2, _ => exact so_130
  | 3, _ => exact so_131
  | 4, _ => exact so_132
  | 5, _ => exact so_133
  | 6, _ => exact so_134
  | 7, _ => exact so_135
  | 8, _ => exact so_136
  | 9, _ => exact so_137
  | 10, _ => exact so_138
  | 11, _ => exact so_139
  | 12, _ => exact so_140
  | 13, _ => exact so_141
  | 14, _ => exact so_142
  | 15, _ => exact so_143
  | k + 16, hk => exact absurd hk (by omega)
theorem sog_9 : ∀ j, j < 16 → sm_okP (16 * 9 + j) := by
  intro j hj
  match j, hj with
  | 0, _ => exact so_144
  | 1, _ => exact so_145
  | 2, _ => exact so_146
  | 3, _ => exact so_147
  | 4, _ => exact so_148
  | 5, _ => exact so_149
  | 6, _ => exact so_150
  | 7, _ => exact so_151
  | 8, _ => exact so_152
  | 9, _ => exact so_153
  | 10, _ => exact so_154
  | 11, _ => exact so_155
  | 12, _ => exact so_156
  | 13, _ => exact so_157
  | 14, _ => exact so_158
  | 15, _ => exact so_159
  | k + 16, hk => exact absurd hk (by omega)
theorem sog_10 : ∀ j, j < 16 → sm_okP (16 * 10 + j) := by
  intro j hj
  match j, hj with
  | 0, _ => exact so_160
  | 1, _ => exact so_161
  | 2, _ => exact so_162
  | 3, _ => exact so_163
  | 4, _ => exact so_164
  | 5, _ => exact so_165
  | 6, _ => exact so_166
  | 7, _ => exact so_167
  | 8, _ => exact so_168
  | 9, _ => exact so_169
  | 10, _ => exact so_170
  | 11, _ => exact so_171
  | 12, _ => exact so_172
  | 13, _ => exact so_173
  | 14, _ => exact so_174
  | 15, _ => exact so_175
  | k + 16, hk => exact absurd hk (by omega)
theorem sog_11 : ∀ j, j < 16 → sm_okP (16 * 11 + j) := by
  intro j hj
  match j, hj with
  | 0, _ => exact so_176
  | 1, _ => exact so_177
  | 2, _ => exact so_178
  | 3, _ => exact so_179
  | 4, _ => exact so_180
  | 5, _ => exact so_181
  | 6, _ => exact so_182
  | 7, _ => exact so_183
  | 8, _ => exact so_184
  | 9, _ => exact so_185
  | 10, _ => exact so_186
  | 11, _ => exact so_187
  | 12, _ => exact so_188
  | 13, _ => exact so_189
  | 14, _ => exact so_190
  | 15, _ => exact so_191
  | k + 16, hk => exact absurd hk (by omega)
theorem sog_12 : ∀ j, j < 16 → sm_okP (16 * 12 + j) := by
  intro j hj
  match j, hj with
  | 0, _ => exact so_192
  | 1, _ => exact so_193
  | 2, _ => exact so_194
  | 3, _ => exact so_195
  | 4, _ => exact so_196
  | 5, _ => exact so_197
  | 6, _ => exact so_198
  | 7, _ => exact so_199
  | 8, _ => exact so_200
  | 9, _ => exact so_201
  | 10, _ => exact so_202
  | 11, _ => exact so_203
  | 12, _ => exact so_204
  | 13, _ => exact so_205
  | 14, _ => exact so_206
  | 15, _ => exact so_207
  | k + 16, hk => exact absurd hk (by omega)
theorem sog_13 : ∀ j, j < 16 → sm_okP (16 * 13 + j) := by
  intro j hj
  match j, hj with
  | 0, _ => exact so_208
  | 1, _ => exact so_209
  | 2, _ => exact so_210
  | 3, _ => exact so_211
  | 4, _ => exact so_212
  | 5, _ => exact so_213
  | 6, _ => exact so_214
  | 7, _ => exact so_215
  | 8, _ => exact so_216
  | 9, _ => exact so_217
  | 10, _ => exact so_218
  | 11, _ => exact so_219
  | 12, _ => exact so_220
  | 13, _ => exact so_221
  | 14, _ => exact so_222
  | 15, _ => exact so_223
  | k + 16, hk => exact absurd hk (by omega)
theorem sog_14 : ∀ j, j < 16 → sm_okP (16 * 14 + j) := by
  intro j hj
  match j, hj with
  | 0, _ => exact so_224
  | 1, _ => exact so_225
  | k + 2, hk =>
    have e : sm_nth (0, [], []) sPg_14 (k + 2) = (0, [], []) := sm_nthO _ _ _ (by show 2 ≤ _; omega)
    have e2 : sm_nth sJd sJg_14 (k + 2) = sJd := sm_nthO _ _ _ (by show 2 ≤ _; omega)
    have e3 : sP (16 * 14 + (k + 2)) = sm_nth (0, [], []) sPg_14 (k + 2) := by
      show sm_nth _ (sm_nth _ _ ((16 * 14 + (k + 2)) / 16)) ((16 * 14 + (k + 2)) % 16) = _
      rw [show (16 * 14 + (k + 2)) / 16 = 14 by omega, show (16 * 14 + (k + 2)) % 16 = k + 2 by omega]
      rfl
    have e4 : sJ (16 * 14 + (k + 2)) = sm_nth sJd sJg_14 (k + 2) := by
      show sm_nth _ (sm_nth _ _ ((16 * 14 + (k + 2)) / 16)) ((16 * 14 + (k + 2)) % 16) = _
      rw [show (16 * 14 + (k + 2)) / 16 = 14 by omega, show (16 * 14 + (k + 2)) % 16 = k + 2 by omega]
      rfl
    unfold sm_okP
    rw [e3, e4, e, e2]
    exact ⟨fun q hq => absurd hq List.not_mem_nil, fun q hq => absurd hq List.not_mem_nil, rfl⟩
theorem so_all (mi : Nat) : sm_okP mi := by
  rcases Nat.lt_or_ge mi 240 with h | h
  · have hm : mi = 16 * (mi / 16) + mi % 16 := by omega
    have hj : mi % 16 < 16 := by omega
    have hg : mi / 16 < 15 := by omega
    rw [hm]
    generalize mi / 16 = g at hg
    generalize mi % 16 = j at hj
    match g, hg with
    | 0, _ => exact sog_0 j hj
    | 1, _ => exact sog_1 j hj
    | 2, _ => exact sog_2 j hj
    | 3, _ => exact sog_3 j hj
    | 4, _ => exact sog_4 j hj
    | 5, _ => exact sog_5 j hj
    | 6, _ => exact sog_6 j hj
    | 7, _ => exact sog_7 j hj
    | 8, _ => exact sog_8 j hj
    | 9, _ => exact sog_9 j hj
    | 10, _ => exact sog_10 j hj
    | 11, _ => exact sog_11 j hj
    | 12, _ => exact sog_12 j hj
    | 13, _ => exact sog_13 j hj
    | 14, _ => exact sog_14 j hj
    | k + 15, hg => exact absurd hg (by omega)
  · have e1 : sP mi = (0, [], []) := by
      show sm_nth _ (sm_nth _ _ (mi / 16)) (mi % 16) = _
      rw [sm_nthO [] _ (mi / 16) (by show 15 ≤ _; omega)]
      rfl
    have e2 : sJ mi = sJd := by
      show sm_nth _ (sm_nth _ _ (mi / 16)) (mi % 16) = _
      rw [sm_nthO [] _ (mi / 16) (by show 15 ≤ _; omega)]
      rfl
    unfold sm_okP
    rw [e1, e2]
    exact ⟨fun q hq => absurd hq List.not_mem_nil, fun q hq => absurd hq List.not_mem_nil, rfl⟩
theorem sl_0 : u_ws "LineSetter" sT_0 17 = sm_pick lw_tbl [516, 518, 520, 522, 524, 526, 528, 530, 532, 534, 536, 538, 540, 542, 544, 546, 548] := by decide +kernel
theorem sl_1 : u_ws "LineSetter$Bytes" sT_1 2 = sm_pick lw_tbl [142, 144] := by decide +kernel
theorem sl_2 : u_ws "LineSetter$Paragraph" sT_2 4 = sm_pick lw_tbl [162, 164, 166, 168] := by decide +kernel
theorem sl_3 : u_ws "LineSetter$FontReader" sT_3 3 = sm_pick lw_tbl [181, 183, 185] := by decide +kernel
theorem sl_4 : u_ws "LineSetter$HyphenReader" sT_4 5 = sm_pick lw_tbl [199, 201, 203, 205, 207] := by decide +kernel
theorem sl_5 : u_ws "LineSetter$Chooser" sT_5 4 = sm_pick lw_tbl [278, 280, 282, 284] := by decide +kernel
theorem sl_6 : u_ws "LineSetter$Line" sT_6 11 = sm_pick lw_tbl [250, 252, 254, 256, 258, 260, 262, 264, 266, 268, 270] := by decide +kernel
theorem sl_7 : u_ws "LineSetter$Font" sT_7 5 = sm_pick lw_tbl [330, 332, 334, 336, 338] := by decide +kernel
theorem sl_8 : u_ws "LineSetter$PairTable" sT_8 5 = sm_pick lw_tbl [311, 313, 315, 317, 319] := by decide +kernel
theorem sl_9 : u_ws "LineSetter$HyphenTable" sT_9 14 = sm_pick lw_tbl [365, 367, 369, 371, 373, 375, 377, 379, 381, 383, 385, 387, 389, 391] := by decide +kernel
theorem sl_10 : u_ws "LineSetter$Setting" sT_10 9 = sm_pick lw_tbl [480, 482, 484, 486, 488, 490, 492, 494, 496] := by decide +kernel
theorem sl_11 : u_ws "LineSetter$Breaks" sT_11 13 = sm_pick lw_tbl [434, 436, 438, 440, 442, 444, 446, 448, 450, 452, 454, 456, 458] := by decide +kernel
theorem sl_12 : u_ws "LineSetterModel" sT_12 92 = sm_pick lw_tbl [1658, 1660, 1662, 1664, 1666, 1668, 1670, 1672, 1674, 1676, 1678, 1680, 1682, 1684, 1686, 1688, 1690, 1692, 1694, 1696, 1698, 1700, 1702, 1704, 1706, 1708, 1710, 1712, 1714, 1716, 1718, 1720, 1722, 1724, 1726, 1728, 1730, 1732, 1734, 1736, 1738, 1740, 1742, 1744, 1746, 1748, 1750, 1752, 1754, 1756, 1758, 1760, 1762, 1764, 1766, 1768, 1770, 1772, 1774, 1776, 1778, 1780, 1782, 1784, 1786, 1788, 1790, 1792, 1794, 1796, 1798, 1800, 1802, 1804, 1806, 1808, 1810, 1812, 1814, 1816, 1818, 1820, 1822, 1824, 1826, 1828, 1830, 1832, 1834, 1836, 1838, 1840] := by decide +kernel
theorem sl_13 : u_ws "java/lang/String" sT_13 2 = sm_pick lw_tbl [1231, 1233] := by decide +kernel
def sy_0 : List FieldType := [(.object "LineSetter$Bytes"), (.object "LineSetter$Bytes"), (.array .int), (.array .int), (.object "LineSetter$Paragraph"), (.object "LineSetter$FontReader"), (.object "LineSetter$HyphenReader"), (.object "LineSetter$Chooser"), (.object "LineSetter$Line"), (.object "LineSetter$Font"), (.object "LineSetter$Font"), (.object "LineSetter$HyphenTable"), (.object "LineSetter$HyphenTable"), (.object "LineSetter$Setting"), (.object "LineSetter$Setting"), .boolean, .int]
theorem sy1_0 : ∀ k, k < 17 → parseFieldDescriptor (sT_0 k).2.2.1 = some (sm_nth .int sy_0 k) := by decide +kernel
theorem sy2_0 : ∀ k, k < 17 → sm_fo (sF 0 k) (sm_nth .int sy_0 k) = true := by decide +kernel
theorem sy3_0 : ∀ a, a < 17 → ∀ b, b < 17 → a ≠ b → (sT_0 a).2.1 ≠ (sT_0 b).2.1 := by decide +kernel
def sy_1 : List FieldType := [(.array .byte), .int]
theorem sy1_1 : ∀ k, k < 2 → parseFieldDescriptor (sT_1 k).2.2.1 = some (sm_nth .int sy_1 k) := by decide +kernel
theorem sy2_1 : ∀ k, k < 2 → sm_fo (sF 1 k) (sm_nth .int sy_1 k) = true := by decide +kernel
theorem sy3_1 : ∀ a, a < 2 → ∀ b, b < 2 → a ≠ b → (sT_1 a).2.1 ≠ (sT_1 b).2.1 := by decide +kernel
def sy_2 : List FieldType := [(.array .byte), (.array .int), .int, .int]
theorem sy1_2 : ∀ k, k < 4 → parseFieldDescriptor (sT_2 k).2.2.1 = some (sm_nth .int sy_2 k) := by decide +kernel
theorem sy2_2 : ∀ k, k < 4 → sm_fo (sF 2 k) (sm_nth .int sy_2 k) = true := by decide +kernel
theorem sy3_2 : ∀ a, a < 4 → ∀ b, b < 4 → a ≠ b → (sT_2 a).2.1 ≠ (sT_2 b).2.1 := by decide +kernel
def sy_3 : List FieldType := [(.object "LineSetter$Bytes"), .int, .int]
theorem sy1_3 : ∀ k, k < 3 → parseFieldDescriptor (sT_3 k).2.2.1 = some (sm_nth .int sy_3 k) := by decide +kernel
theorem sy2_3 : ∀ k, k < 3 → sm_fo (sF 3 k) (sm_nth .int sy_3 k) = true := by decide +kernel
theorem sy3_3 : ∀ a, a < 3 → ∀ b, b < 3 → a ≠ b → (sT_3 a).2.1 ≠ (sT_3 b).2.1 := by decide +kernel
def sy_4 : List FieldType := [(.object "LineSetter$Bytes"), .int, .int, (.array .byte), .int]
theorem sy1_4 : ∀ k, k < 5 → parseFieldDescriptor (sT_4 k).2.2.1 = some (sm_nth .int sy_4 k) := by decide +kernel
theorem sy2_4 : ∀ k, k < 5 → sm_fo (sF 4 k) (sm_nth .int sy_4 k) = true := by decide +kernel
theorem sy3_4 : ∀ a, a < 5 → ∀ b, b < 5 → a ≠ b → (sT_4 a).2.1 ≠ (sT_4 b).2.1 := by decide +kernel
def sy_5 : List FieldType := [(.array .long), (.array .int), (.array .int), (.object "LineSetter$Line")]
theorem sy1_5 : ∀ k, k < 4 → parseFieldDescriptor (sT_5 k).2.2.1 = some (sm_nth .int sy_5 k) := by decide +kernel
theorem sy2_5 : ∀ k, k < 4 → sm_fo (sF 5 k) (sm_nth .int sy_5 k) = true := by decide +kernel
theorem sy3_5 : ∀ a, a < 4 → ∀ b, b < 4 → a ≠ b → (sT_5 a).2.1 ≠ (sT_5 b).2.1 := by decide +kernel
def sy_6 : List FieldType := [.int, .int, .long, .long, .long, .long, .boolean, .boolean, .int, .int, .int]
theorem sy1_6 : ∀ k, k < 11 → parseFieldDescriptor (sT_6 k).2.2.1 = some (sm_nth .int sy_6 k) := by decide +kernel
theorem sy2_6 : ∀ k, k < 11 → sm_fo (sF 6 k) (sm_nth .int sy_6 k) = true := by decide +kernel
theorem sy3_6 : ∀ a, a < 11 → ∀ b, b < 11 → a ≠ b → (sT_6 a).2.1 ≠ (sT_6 b).2.1 := by decide +kernel
def sy_7 : List FieldType := [(.array .int), (.array .int), .int, (.object "LineSetter$PairTable"), (.object "LineSetter$PairTable")]
theorem sy1_7 : ∀ k, k < 5 → parseFieldDescriptor (sT_7 k).2.2.1 = some (sm_nth .int sy_7 k) := by decide +kernel
theorem sy2_7 : ∀ k, k < 5 → sm_fo (sF 7 k) (sm_nth .int sy_7 k) = true := by decide +kernel
theorem sy3_7 : ∀ a, a < 5 → ∀ b, b < 5 → a ≠ b → (sT_7 a).2.1 ≠ (sT_7 b).2.1 := by decide +kernel
def sy_8 : List FieldType := [(.array .int), (.array .int), (.array .int), (.array .int), .int]
theorem sy1_8 : ∀ k, k < 5 → parseFieldDescriptor (sT_8 k).2.2.1 = some (sm_nth .int sy_8 k) := by decide +kernel
theorem sy2_8 : ∀ k, k < 5 → sm_fo (sF 8 k) (sm_nth .int sy_8 k) = true := by decide +kernel
theorem sy3_8 : ∀ a, a < 5 → ∀ b, b < 5 → a ≠ b → (sT_8 a).2.1 ≠ (sT_8 b).2.1 := by decide +kernel
def sy_9 : List FieldType := [(.array .int), (.array .int), (.array .byte), (.array .int), .int, (.array .long), .int, (.array .byte), (.array .int), (.array .int), .int, .int, .int, (.array .int)]
theorem sy1_9 : ∀ k, k < 14 → parseFieldDescriptor (sT_9 k).2.2.1 = some (sm_nth .int sy_9 k) := by decide +kernel
theorem sy2_9 : ∀ k, k < 14 → sm_fo (sF 9 k) (sm_nth .int sy_9 k) = true := by decide +kernel
theorem sy3_9 : ∀ a, a < 14 → ∀ b, b < 14 → a ≠ b → (sT_9 a).2.1 ≠ (sT_9 b).2.1 := by decide +kernel
def sy_10 : List FieldType := [(.object "LineSetter$Breaks"), .int, .int, .int, .int, .long, .int, (.array .int), (.array .long)]
theorem sy1_10 : ∀ k, k < 9 → parseFieldDescriptor (sT_10 k).2.2.1 = some (sm_nth .int sy_10 k) := by decide +kernel
theorem sy2_10 : ∀ k, k < 9 → sm_fo (sF 10 k) (sm_nth .int sy_10 k) = true := by decide +kernel
theorem sy3_10 : ∀ a, a < 9 → ∀ b, b < 9 → a ≠ b → (sT_10 a).2.1 ≠ (sT_10 b).2.1 := by decide +kernel
def sy_11 : List FieldType := [(.array .byte), .int, (.array .int), .int, (.array .int), (.array .int), (.array .int), (.array .int), (.array .long), (.array .long), (.array .long), (.array .long), .long]
theorem sy1_11 : ∀ k, k < 13 → parseFieldDescriptor (sT_11 k).2.2.1 = some (sm_nth .int sy_11 k) := by decide +kernel
theorem sy2_11 : ∀ k, k < 13 → sm_fo (sF 11 k) (sm_nth .int sy_11 k) = true := by decide +kernel
theorem sy3_11 : ∀ a, a < 13 → ∀ b, b < 13 → a ≠ b → (sT_11 a).2.1 ≠ (sT_11 b).2.1 := by decide +kernel
def sy_12 : List FieldType := [.int, (.array .int), (.array .int), .int, .int, (.array .int), .int, .int, .int, .int, .int, .int, .int, .int, (.array .int), (.array .int), (.array .int), (.array .int), (.array .int), (.array .int), (.array .int), (.array .int), (.array .int), (.array .int), (.array .int), (.array .int), (.array .int), (.array .int), .int, .int, .int, .int, (.array .boolean), .int, .int, .int, .int, (.array .int), (.array .int), (.array .int), (.array .int), (.array .int), (.array .boolean), .int, .int, .int, .int, (.array .int), (.array .int), .int, .int, (.array .int), (.array .int), (.array .boolean), (.array .int), (.array .int), .int, .int, (.array .int), .boolean, .int, .int, .int, .int, .int, .int, .long, .long, (.array .int), .int, (.array .int), (.array .int), (.array .long), (.array .long), (.array .long), (.array .long), (.array .long), (.array .boolean), .long, .long, .long, .long, .long, .int, .int, .boolean, (.array .long), (.array .int), (.array .boolean), (.array .int), (.array .int), (.array .long)]
theorem sy1_12 : ∀ k, k < 92 → parseFieldDescriptor (sT_12 k).2.2.1 = some (sm_nth .int sy_12 k) := by decide +kernel
theorem sy2_12 : ∀ k, k < 92 → sm_fo (sF 12 k) (sm_nth .int sy_12 k) = true := by decide +kernel
theorem sy3_12 : ∀ a, a < 92 → ∀ b, b < 92 → a ≠ b → (sT_12 a).2.1 ≠ (sT_12 b).2.1 := by decide +kernel
theorem so_lay (ci : Nat) (q : vw_C) (h : sC[ci]? = some q) : ∀ x ∈ u_ws q.1 q.2.1 q.2.2, x ∈ sTs := by
  match ci, h with
  | 0, h => cases h; exact sTsE sl_0 (by decide +kernel)
  | 1, h => cases h; exact sTsE sl_1 (by decide +kernel)
  | 2, h => cases h; exact sTsE sl_2 (by decide +kernel)
  | 3, h => cases h; exact sTsE sl_3 (by decide +kernel)
  | 4, h => cases h; exact sTsE sl_4 (by decide +kernel)
  | 5, h => cases h; exact sTsE sl_5 (by decide +kernel)
  | 6, h => cases h; exact sTsE sl_6 (by decide +kernel)
  | 7, h => cases h; exact sTsE sl_7 (by decide +kernel)
  | 8, h => cases h; exact sTsE sl_8 (by decide +kernel)
  | 9, h => cases h; exact sTsE sl_9 (by decide +kernel)
  | 10, h => cases h; exact sTsE sl_10 (by decide +kernel)
  | 11, h => cases h; exact sTsE sl_11 (by decide +kernel)
  | 12, h => cases h; exact sTsE sl_12 (by decide +kernel)
  | 13, h => cases h; exact sTsE sl_13 (by decide +kernel)
  | k + 14, h => exact absurd h (by simp [sC])
theorem so_cl (w : sm_W) (hc : sm_cs w = sC) (hf : sm_ft w = sF) (ci : Nat) (q : vw_C) (hlt : ci < 13) (h : (sm_cs w)[ci]? = some q) : sm_Cl sTs w ci q.1 q.2.1 q.2.2 := by
  have hl := so_lay ci q (by rw [← hc]; exact h)
  refine ⟨h, by omega, hl, ?_⟩
  rw [hf]
  rw [hc] at h
  match ci, hlt, h with
  | 0, _, h => cases h; exact ⟨sm_nth .int sy_0, sy1_0, sy2_0, sy3_0⟩
  | 1, _, h => cases h; exact ⟨sm_nth .int sy_1, sy1_1, sy2_1, sy3_1⟩
  | 2, _, h => cases h; exact ⟨sm_nth .int sy_2, sy1_2, sy2_2, sy3_2⟩
  | 3, _, h => cases h; exact ⟨sm_nth .int sy_3, sy1_3, sy2_3, sy3_3⟩
  | 4, _, h => cases h; exact ⟨sm_nth .int sy_4, sy1_4, sy2_4, sy3_4⟩
  | 5, _, h => cases h; exact ⟨sm_nth .int sy_5, sy1_5, sy2_5, sy3_5⟩
  | 6, _, h => cases h; exact ⟨sm_nth .int sy_6, sy1_6, sy2_6, sy3_6⟩
  | 7, _, h => cases h; exact ⟨sm_nth .int sy_7, sy1_7, sy2_7, sy3_7⟩
  | 8, _, h => cases h; exact ⟨sm_nth .int sy_8, sy1_8, sy2_8, sy3_8⟩
  | 9, _, h => cases h; exact ⟨sm_nth .int sy_9, sy1_9, sy2_9, sy3_9⟩
  | 10, _, h => cases h; exact ⟨sm_nth .int sy_10, sy1_10, sy2_10, sy3_10⟩
  | 11, _, h => cases h; exact ⟨sm_nth .int sy_11, sy1_11, sy2_11, sy3_11⟩
  | 12, _, h => cases h; exact ⟨sm_nth .int sy_12, sy1_12, sy2_12, sy3_12⟩
  | k + 13, hlt, _ => exact absurd hlt (by omega)
theorem so_OK (w : sm_W) (hA : sm_Ad w) (hc : sm_cs w = sC) (hf : sm_ft w = sF) : sm_OK sP sJ w sX sTs := by
  refine ⟨hA, fun x hx => (List.mem_filter.mp hx).2, fun ci q h => so_lay ci q (by rw [← hc]; exact h), so_cl w hc hf, fun mi => (so_all mi).2.1, fun mi => (so_all mi).2.2, fun mi q hq => ?_⟩
  have h := (so_all mi).1 q hq
  unfold sm_okR at h
  rw [Bool.and_eq_true] at h
  rw [hc, hf]
  exact h
