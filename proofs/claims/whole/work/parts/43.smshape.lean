/-! THE SHAPE of the cells that the law makes: kinds, lengths, references. -/
def sKl : List Nat := [60, 70, 61, 70, 62, 70, 63, 70, 64, 71, 71, 71, 71, 71, 71, 71, 71, 71, 71, 71, 71, 71, 71, 16, 17, 1, 17, 1, 0, 0, 18, 1, 0, 19, 20, 1, 21, 2, 0, 0, 22, 22, 23, 0, 0, 24, 0, 0, 0, 0, 24, 0, 0, 0, 0, 23, 0, 0, 24, 0, 0, 0, 0, 24, 0, 0, 0, 0, 25, 0, 0, 1, 0, 2, 1, 0, 0, 0, 25, 0, 0, 1, 0, 2, 1, 0, 0, 0, 26, 27, 1, 0, 0, 0, 0, 0, 2, 2, 2, 2, 0, 2, 26, 27, 1, 0, 0, 0, 0, 0, 2, 2, 2, 2, 0, 2, 28, 0, 0, 0, 0, 0, 0, 0, 0, 0, 0, 0, 0, 0, 0, 0, 0, 0, 3, 0, 0, 0, 0, 0, 3, 0, 0, 0, 0, 3, 0, 0, 0, 0, 0, 0, 2, 2, 2, 2, 2, 3, 2, 0, 3, 0, 0, 2, 2]
def sLl : List Nat := [0, 0, 5, 0, 4, 0, 4, 0, 4, 0, 0, 0, 0, 0, 0, 0, 0, 0, 0, 0, 0, 0, 0, 17, 2, 8192, 2, 6000, 8192, 61, 4, 4000, 4000, 3, 5, 30, 4, 2404, 2404, 2404, 11, 11, 5, 128, 128, 5, 128, 200, 200, 200, 5, 128, 60, 60, 60, 5, 128, 128, 5, 128, 200, 200, 200, 5, 128, 60, 60, 60, 14, 4201, 4201, 4201, 4201, 300, 1800, 60, 60, 4001, 14, 4201, 4201, 4201, 4201, 300, 1800, 60, 60, 4001, 9, 13, 4000, 4001, 601, 601, 601, 601, 601, 601, 601, 601, 600, 600, 9, 13, 4000, 4001, 601, 601, 601, 601, 601, 601, 601, 601, 600, 600, 92, 8192, 8192, 6001, 256, 256, 200, 200, 200, 60, 60, 60, 200, 200, 200, 60, 60, 60, 256, 9600, 600, 10200, 3840, 120, 3840, 40, 40, 4100, 4100, 4100, 4001, 4001, 8192, 4001, 602, 602, 602, 602, 602, 602, 602, 4002, 2408, 2408, 2408, 602, 602, 602, 1]
def sRl : List (Nat × Nat × Nat) := [(1, 0, 2), (3, 0, 4), (5, 0, 6), (7, 0, 8), (23, 0, 24), (23, 1, 26), (23, 2, 28), (23, 3, 29), (23, 4, 30), (23, 5, 33), (23, 6, 34), (23, 7, 36), (23, 8, 41), (24, 0, 25), (26, 0, 27), (30, 0, 31), (30, 1, 32), (33, 0, 24), (34, 0, 24), (34, 3, 35), (36, 0, 37), (36, 1, 38), (36, 2, 39), (36, 3, 40), (42, 0, 43), (42, 1, 44), (42, 3, 45), (42, 4, 50), (45, 0, 46), (45, 1, 47), (45, 2, 48), (45, 3, 49), (50, 0, 51), (50, 1, 52), (50, 2, 53), (50, 3, 54), (55, 0, 56), (55, 1, 57), (55, 3, 58), (55, 4, 63), (58, 0, 59), (58, 1, 60), (58, 2, 61), (58, 3, 62), (63, 0, 64), (63, 1, 65), (63, 2, 66), (63, 3, 67), (68, 0, 69), (68, 1, 70), (68, 2, 71), (68, 3, 72), (68, 5, 73), (68, 7, 74), (68, 8, 75), (68, 9, 76), (68, 13, 77), (78, 0, 79), (78, 1, 80), (78, 2, 81), (78, 3, 82), (78, 5, 83), (78, 7, 84), (78, 8, 85), (78, 9, 86), (78, 13, 87), (88, 0, 89), (88, 7, 100), (88, 8, 101), (89, 0, 90), (89, 2, 91), (89, 4, 92), (89, 5, 93), (89, 6, 94), (89, 7, 95), (89, 8, 96), (89, 9, 97), (89, 10, 98), (89, 11, 99), (102, 0, 103), (102, 7, 114), (102, 8, 115), (103, 0, 104), (103, 2, 105), (103, 4, 106), (103, 5, 107), (103, 6, 108), (103, 7, 109), (103, 8, 110), (103, 9, 111), (103, 10, 112), (103, 11, 113), (116, 1, 117), (116, 2, 118), (116, 5, 119), (116, 14, 120), (116, 15, 121), (116, 16, 122), (116, 17, 123), (116, 18, 124), (116, 19, 125), (116, 20, 126), (116, 21, 127), (116, 22, 128), (116, 23, 129), (116, 24, 130), (116, 25, 131), (116, 26, 132), (116, 27, 133), (116, 32, 134), (116, 37, 135), (116, 38, 136), (116, 39, 137), (116, 40, 138), (116, 41, 139), (116, 42, 140), (116, 47, 141), (116, 48, 142), (116, 51, 143), (116, 52, 144), (116, 53, 145), (116, 54, 146), (116, 55, 147), (116, 58, 148), (116, 68, 149), (116, 70, 150), (116, 71, 151), (116, 72, 152), (116, 73, 153), (116, 74, 154), (116, 75, 155), (116, 76, 156), (116, 77, 157), (116, 86, 158), (116, 87, 159), (116, 88, 160), (116, 89, 161), (116, 90, 162), (116, 91, 163)]
def sKD (a : Nat) : Nat := sm_nth 0 sKl a
def sLN (a : Nat) : Nat := sm_nth 0 sLl a
/-- the shape: 165 cells, 0 the script, 1 .. 22 texts -/
def SH (M : sm_M) : Prop := 165 ≤ M.1 ∧ (∀ a, a < 165 → sm_kd M a = sKD a) ∧ (∀ a, 0 < a → a < 165 → sm_ln M a = sLN a) ∧ ∀ q ∈ sRl, sm_rv M q.1 q.2.1 = some q.2.2
theorem SH.sh {A B : sm_M} (h : SH A) (s : sm_sh A B) : SH B := ⟨by rw [s.1]; exact h.1, by rw [s.2.2.1]; exact h.2.1, by rw [s.2.2.2.1]; exact h.2.2.1, by rw [s.2.2.2.2]; exact h.2.2.2⟩
theorem SH.wI {A : sm_M} (h : SH A) (r k : Nat) (x : Int32) : SH (sm_wI A r k x) := h
theorem SH.wJ {A : sm_M} (h : SH A) (r k : Nat) (x : Int64) : SH (sm_wJ A r k x) := h
theorem SH.cp {A : sm_M} (h : SH A) (s d sp dp n : Nat) : SH (sm_cp A s d sp dp n) := h
theorem SH.new {A : sm_M} (h : SH A) (k n : Nat) : SH (sm_new A k n) := by
  obtain ⟨h1, h2, h3, h4⟩ := h
  have e : ∀ a, a < 165 → ¬ a = A.1 := fun a ha => by omega
  refine ⟨Nat.le_succ_of_le h1, fun a ha => ?_, fun a h0 ha => ?_, fun q hq => ?_⟩
  · show va_up (sm_kd A) A.1 k a = _
    unfold va_up; rw [if_neg (e a ha)]; exact h2 a ha
  · show va_up (sm_ln A) A.1 n a = _
    unfold va_up; rw [if_neg (e a ha)]; exact h3 a h0 ha
  · show va_up (sm_rv A) A.1 (fun _ => none) q.1 q.2.1 = _
    have hlt : q.1 < 165 := of_decide_eq_true (List.all_eq_true.mp (show sRl.all (fun q => decide (q.1 < 165)) = true from by decide +kernel) q hq)
    unfold va_up; rw [if_neg (e q.1 hlt)]; exact h4 q hq
theorem SH.K {M : sm_M} (h : SH M) (a k : Nat) (e : (Nat.ble 23 a && Nat.blt a 165 && Nat.beq (sKD a) k) = true) : sm_K M a k := by
  rw [Bool.and_eq_true, Bool.and_eq_true] at e
  have h1 : a < 165 := Nat.le_of_ble_eq_true e.1.2
  exact ⟨Nat.le_of_ble_eq_true e.1.1, Nat.lt_of_lt_of_le h1 h.1, (h.2.1 a h1).trans (Nat.eq_of_beq_eq_true e.2)⟩
theorem SH.L {M : sm_M} (h : SH M) (a n : Nat) (e : (Nat.blt 0 a && Nat.blt a 165 && Nat.beq (sLN a) n) = true) : sm_ln M a = n := by
  rw [Bool.and_eq_true, Bool.and_eq_true] at e
  exact (h.2.2.1 a (Nat.le_of_ble_eq_true e.1.1) (Nat.le_of_ble_eq_true e.1.2)).trans (Nat.eq_of_beq_eq_true e.2)
theorem SH.R {M : sm_M} (h : SH M) (a k c : Nat) (e : sRl.contains (a, k, c) = true) : sm_rv M a k = some c := h.2.2.2 (a, k, c) (List.elem_iff.mp e)
/-- an array by its address, kind and length -/
def sA (a k n : Nat) : Prop := (Nat.ble 23 a && Nat.blt a 165 && Nat.beq (sKD a) k) = true ∧ sLN a = n
theorem sA.K {a k n : Nat} (e : sA a k n) {M : sm_M} (h : SH M) : sm_K M a k := h.K a k e.1
theorem sA.L {a k n : Nat} (e : sA a k n) {M : sm_M} (h : SH M) : sm_ln M a = n := by
  have e1 := e.1
  rw [Bool.and_eq_true, Bool.and_eq_true] at e1
  exact (h.2.2.1 a (by have := Nat.le_of_ble_eq_true e1.1.1; omega) (Nat.le_of_ble_eq_true e1.1.2)).trans e.2
theorem k_23 {M : sm_M} (h : SH M) : sm_K M 23 16 := h.K 23 16 rfl
theorem k_24 {M : sm_M} (h : SH M) : sm_K M 24 17 := h.K 24 17 rfl
theorem k_25 {M : sm_M} (h : SH M) : sm_K M 25 1 := h.K 25 1 rfl
theorem l_25 {M : sm_M} (h : SH M) : sm_ln M 25 = 8192 := h.L 25 8192 rfl
theorem a_25 : sA 25 1 8192 := ⟨rfl, rfl⟩
theorem k_26 {M : sm_M} (h : SH M) : sm_K M 26 17 := h.K 26 17 rfl
theorem k_27 {M : sm_M} (h : SH M) : sm_K M 27 1 := h.K 27 1 rfl
theorem l_27 {M : sm_M} (h : SH M) : sm_ln M 27 = 6000 := h.L 27 6000 rfl
theorem a_27 : sA 27 1 6000 := ⟨rfl, rfl⟩
theorem k_28 {M : sm_M} (h : SH M) : sm_K M 28 0 := h.K 28 0 rfl
theorem l_28 {M : sm_M} (h : SH M) : sm_ln M 28 = 8192 := h.L 28 8192 rfl
theorem a_28 : sA 28 0 8192 := ⟨rfl, rfl⟩
theorem k_29 {M : sm_M} (h : SH M) : sm_K M 29 0 := h.K 29 0 rfl
theorem l_29 {M : sm_M} (h : SH M) : sm_ln M 29 = 61 := h.L 29 61 rfl
theorem a_29 : sA 29 0 61 := ⟨rfl, rfl⟩
theorem k_30 {M : sm_M} (h : SH M) : sm_K M 30 18 := h.K 30 18 rfl
theorem k_31 {M : sm_M} (h : SH M) : sm_K M 31 1 := h.K 31 1 rfl
theorem l_31 {M : sm_M} (h : SH M) : sm_ln M 31 = 4000 := h.L 31 4000 rfl
theorem a_31 : sA 31 1 4000 := ⟨rfl, rfl⟩
theorem k_32 {M : sm_M} (h : SH M) : sm_K M 32 0 := h.K 32 0 rfl
theorem l_32 {M : sm_M} (h : SH M) : sm_ln M 32 = 4000 := h.L 32 4000 rfl
theorem a_32 : sA 32 0 4000 := ⟨rfl, rfl⟩
theorem k_33 {M : sm_M} (h : SH M) : sm_K M 33 19 := h.K 33 19 rfl
theorem k_34 {M : sm_M} (h : SH M) : sm_K M 34 20 := h.K 34 20 rfl
theorem k_35 {M : sm_M} (h : SH M) : sm_K M 35 1 := h.K 35 1 rfl
theorem l_35 {M : sm_M} (h : SH M) : sm_ln M 35 = 30 := h.L 35 30 rfl
theorem a_35 : sA 35 1 30 := ⟨rfl, rfl⟩
theorem k_36 {M : sm_M} (h : SH M) : sm_K M 36 21 := h.K 36 21 rfl
theorem k_37 {M : sm_M} (h : SH M) : sm_K M 37 2 := h.K 37 2 rfl
theorem l_37 {M : sm_M} (h : SH M) : sm_ln M 37 = 2404 := h.L 37 2404 rfl
theorem a_37 : sA 37 2 2404 := ⟨rfl, rfl⟩
theorem k_38 {M : sm_M} (h : SH M) : sm_K M 38 0 := h.K 38 0 rfl
theorem l_38 {M : sm_M} (h : SH M) : sm_ln M 38 = 2404 := h.L 38 2404 rfl
theorem a_38 : sA 38 0 2404 := ⟨rfl, rfl⟩
theorem k_39 {M : sm_M} (h : SH M) : sm_K M 39 0 := h.K 39 0 rfl
theorem l_39 {M : sm_M} (h : SH M) : sm_ln M 39 = 2404 := h.L 39 2404 rfl
theorem a_39 : sA 39 0 2404 := ⟨rfl, rfl⟩
theorem k_40 {M : sm_M} (h : SH M) : sm_K M 40 22 := h.K 40 22 rfl
theorem k_41 {M : sm_M} (h : SH M) : sm_K M 41 22 := h.K 41 22 rfl
theorem k_42 {M : sm_M} (h : SH M) : sm_K M 42 23 := h.K 42 23 rfl
theorem k_43 {M : sm_M} (h : SH M) : sm_K M 43 0 := h.K 43 0 rfl
theorem l_43 {M : sm_M} (h : SH M) : sm_ln M 43 = 128 := h.L 43 128 rfl
theorem a_43 : sA 43 0 128 := ⟨rfl, rfl⟩
theorem k_44 {M : sm_M} (h : SH M) : sm_K M 44 0 := h.K 44 0 rfl
theorem l_44 {M : sm_M} (h : SH M) : sm_ln M 44 = 128 := h.L 44 128 rfl
theorem a_44 : sA 44 0 128 := ⟨rfl, rfl⟩
theorem k_45 {M : sm_M} (h : SH M) : sm_K M 45 24 := h.K 45 24 rfl
theorem k_46 {M : sm_M} (h : SH M) : sm_K M 46 0 := h.K 46 0 rfl
theorem l_46 {M : sm_M} (h : SH M) : sm_ln M 46 = 128 := h.L 46 128 rfl
theorem a_46 : sA 46 0 128 := ⟨rfl, rfl⟩
theorem k_47 {M : sm_M} (h : SH M) : sm_K M 47 0 := h.K 47 0 rfl
theorem l_47 {M : sm_M} (h : SH M) : sm_ln M 47 = 200 := h.L 47 200 rfl
theorem a_47 : sA 47 0 200 := ⟨rfl, rfl⟩
theorem k_48 {M : sm_M} (h : SH M) : sm_K M 48 0 := h.K 48 0 rfl
theorem l_48 {M : sm_M} (h : SH M) : sm_ln M 48 = 200 := h.L 48 200 rfl
theorem a_48 : sA 48 0 200 := ⟨rfl, rfl⟩
theorem k_49 {M : sm_M} (h : SH M) : sm_K M 49 0 := h.K 49 0 rfl
theorem l_49 {M : sm_M} (h : SH M) : sm_ln M 49 = 200 := h.L 49 200 rfl
theorem a_49 : sA 49 0 200 := ⟨rfl, rfl⟩
theorem k_50 {M : sm_M} (h : SH M) : sm_K M 50 24 := h.K 50 24 rfl
theorem k_51 {M : sm_M} (h : SH M) : sm_K M 51 0 := h.K 51 0 rfl
theorem l_51 {M : sm_M} (h : SH M) : sm_ln M 51 = 128 := h.L 51 128 rfl
theorem a_51 : sA 51 0 128 := ⟨rfl, rfl⟩
theorem k_52 {M : sm_M} (h : SH M) : sm_K M 52 0 := h.K 52 0 rfl
theorem l_52 {M : sm_M} (h : SH M) : sm_ln M 52 = 60 := h.L 52 60 rfl
theorem a_52 : sA 52 0 60 := ⟨rfl, rfl⟩
theorem k_53 {M : sm_M} (h : SH M) : sm_K M 53 0 := h.K 53 0 rfl
theorem l_53 {M : sm_M} (h : SH M) : sm_ln M 53 = 60 := h.L 53 60 rfl
theorem a_53 : sA 53 0 60 := ⟨rfl, rfl⟩
theorem k_54 {M : sm_M} (h : SH M) : sm_K M 54 0 := h.K 54 0 rfl
theorem l_54 {M : sm_M} (h : SH M) : sm_ln M 54 = 60 := h.L 54 60 rfl
theorem a_54 : sA 54 0 60 := ⟨rfl, rfl⟩
theorem k_55 {M : sm_M} (h : SH M) : sm_K M 55 23 := h.K 55 23 rfl
theorem k_56 {M : sm_M} (h : SH M) : sm_K M 56 0 := h.K 56 0 rfl
theorem l_56 {M : sm_M} (h : SH M) : sm_ln M 56 = 128 := h.L 56 128 rfl
theorem a_56 : sA 56 0 128 := ⟨rfl, rfl⟩
theorem k_57 {M : sm_M} (h : SH M) : sm_K M 57 0 := h.K 57 0 rfl
theorem l_57 {M : sm_M} (h : SH M) : sm_ln M 57 = 128 := h.L 57 128 rfl
theorem a_57 : sA 57 0 128 := ⟨rfl, rfl⟩
theorem k_58 {M : sm_M} (h : SH M) : sm_K M 58 24 := h.K 58 24 rfl
theorem k_59 {M : sm_M} (h : SH M) : sm_K M 59 0 := h.K 59 0 rfl
theorem l_59 {M : sm_M} (h : SH M) : sm_ln M 59 = 128 := h.L 59 128 rfl
theorem a_59 : sA 59 0 128 := ⟨rfl, rfl⟩
theorem k_60 {M : sm_M} (h : SH M) : sm_K M 60 0 := h.K 60 0 rfl
theorem l_60 {M : sm_M} (h : SH M) : sm_ln M 60 = 200 := h.L 60 200 rfl
theorem a_60 : sA 60 0 200 := ⟨rfl, rfl⟩
theorem k_61 {M : sm_M} (h : SH M) : sm_K M 61 0 := h.K 61 0 rfl
theorem l_61 {M : sm_M} (h : SH M) : sm_ln M 61 = 200 := h.L 61 200 rfl
theorem a_61 : sA 61 0 200 := ⟨rfl, rfl⟩
theorem k_62 {M : sm_M} (h : SH M) : sm_K M 62 0 := h.K 62 0 rfl
theorem l_62 {M : sm_M} (h : SH M) : sm_ln M 62 = 200 := h.L 62 200 rfl
theorem a_62 : sA 62 0 200 := ⟨rfl, rfl⟩
theorem k_63 {M : sm_M} (h : SH M) : sm_K M 63 24 := h.K 63 24 rfl
theorem k_64 {M : sm_M} (h : SH M) : sm_K M 64 0 := h.K 64 0 rfl
theorem l_64 {M : sm_M} (h : SH M) : sm_ln M 64 = 128 := h.L 64 128 rfl
theorem a_64 : sA 64 0 128 := ⟨rfl, rfl⟩
theorem k_65 {M : sm_M} (h : SH M) : sm_K M 65 0 := h.K 65 0 rfl
theorem l_65 {M : sm_M} (h : SH M) : sm_ln M 65 = 60 := h.L 65 60 rfl
theorem a_65 : sA 65 0 60 := ⟨rfl, rfl⟩
theorem k_66 {M : sm_M} (h : SH M) : sm_K M 66 0 := h.K 66 0 rfl
theorem l_66 {M : sm_M} (h : SH M) : sm_ln M 66 = 60 := h.L 66 60 rfl
theorem a_66 : sA 66 0 60 := ⟨rfl, rfl⟩
theorem k_67 {M : sm_M} (h : SH M) : sm_K M 67 0 := h.K 67 0 rfl
theorem l_67 {M : sm_M} (h : SH M) : sm_ln M 67 = 60 := h.L 67 60 rfl
theorem a_67 : sA 67 0 60 := ⟨rfl, rfl⟩
theorem k_68 {M : sm_M} (h : SH M) : sm_K M 68 25 := h.K 68 25 rfl
theorem k_69 {M : sm_M} (h : SH M) : sm_K M 69 0 := h.K 69 0 rfl
theorem l_69 {M : sm_M} (h : SH M) : sm_ln M 69 = 4201 := h.L 69 4201 rfl
theorem a_69 : sA 69 0 4201 := ⟨rfl, rfl⟩
theorem k_70 {M : sm_M} (h : SH M) : sm_K M 70 0 := h.K 70 0 rfl
theorem l_70 {M : sm_M} (h : SH M) : sm_ln M 70 = 4201 := h.L 70 4201 rfl
theorem a_70 : sA 70 0 4201 := ⟨rfl, rfl⟩
theorem k_71 {M : sm_M} (h : SH M) : sm_K M 71 1 := h.K 71 1 rfl
theorem l_71 {M : sm_M} (h : SH M) : sm_ln M 71 = 4201 := h.L 71 4201 rfl
theorem a_71 : sA 71 1 4201 := ⟨rfl, rfl⟩
theorem k_72 {M : sm_M} (h : SH M) : sm_K M 72 0 := h.K 72 0 rfl
theorem l_72 {M : sm_M} (h : SH M) : sm_ln M 72 = 4201 := h.L 72 4201 rfl
theorem a_72 : sA 72 0 4201 := ⟨rfl, rfl⟩
theorem k_73 {M : sm_M} (h : SH M) : sm_K M 73 2 := h.K 73 2 rfl
theorem l_73 {M : sm_M} (h : SH M) : sm_ln M 73 = 300 := h.L 73 300 rfl
theorem a_73 : sA 73 2 300 := ⟨rfl, rfl⟩
theorem k_74 {M : sm_M} (h : SH M) : sm_K M 74 1 := h.K 74 1 rfl
theorem l_74 {M : sm_M} (h : SH M) : sm_ln M 74 = 1800 := h.L 74 1800 rfl
theorem a_74 : sA 74 1 1800 := ⟨rfl, rfl⟩
theorem k_75 {M : sm_M} (h : SH M) : sm_K M 75 0 := h.K 75 0 rfl
theorem l_75 {M : sm_M} (h : SH M) : sm_ln M 75 = 60 := h.L 75 60 rfl
theorem a_75 : sA 75 0 60 := ⟨rfl, rfl⟩
theorem k_76 {M : sm_M} (h : SH M) : sm_K M 76 0 := h.K 76 0 rfl
theorem l_76 {M : sm_M} (h : SH M) : sm_ln M 76 = 60 := h.L 76 60 rfl
theorem a_76 : sA 76 0 60 := ⟨rfl, rfl⟩
theorem k_77 {M : sm_M} (h : SH M) : sm_K M 77 0 := h.K 77 0 rfl
theorem l_77 {M : sm_M} (h : SH M) : sm_ln M 77 = 4001 := h.L 77 4001 rfl
theorem a_77 : sA 77 0 4001 := ⟨rfl, rfl⟩
theorem k_78 {M : sm_M} (h : SH M) : sm_K M 78 25 := h.K 78 25 rfl
theorem k_79 {M : sm_M} (h : SH M) : sm_K M 79 0 := h.K 79 0 rfl
theorem l_79 {M : sm_M} (h : SH M) : sm_ln M 79 = 4201 := h.L 79 4201 rfl
theorem a_79 : sA 79 0 4201 := ⟨rfl, rfl⟩
theorem k_80 {M : sm_M} (h : SH M) : sm_K M 80 0 := h.K 80 0 rfl
theorem l_80 {M : sm_M} (h : SH M) : sm_ln M 80 = 4201 := h.L 80 4201 rfl
theorem a_80 : sA 80 0 4201 := ⟨rfl, rfl⟩
theorem k_81 {M : sm_M} (h : SH M) : sm_K M 81 1 := h.K 81 1 rfl
theorem l_81 {M : sm_M} (h : SH M) : sm_ln M 81 = 4201 := h.L 81 4201 rfl
theorem a_81 : sA 81 1 4201 := ⟨rfl, rfl⟩
theorem k_82 {M : sm_M} (h : SH M) : sm_K M 82 0 := h.K 82 0 rfl
theorem l_82 {M : sm_M} (h : SH M) : sm_ln M 82 = 4201 := h.L 82 4201 rfl
theorem a_82 : sA 82 0 4201 := ⟨rfl, rfl⟩
theorem k_83 {M : sm_M} (h : SH M) : sm_K M 83 2 := h.K 83 2 rfl
theorem l_83 {M : sm_M} (h : SH M) : sm_ln M 83 = 300 := h.L 83 300 rfl
theorem a_83 : sA 83 2 300 := ⟨rfl, rfl⟩
theorem k_84 {M : sm_M} (h : SH M) : sm_K M 84 1 := h.K 84 1 rfl
theorem l_84 {M : sm_M} (h : SH M) : sm_ln M 84 = 1800 := h.L 84 1800 rfl
theorem a_84 : sA 84 1 1800 := ⟨rfl, rfl⟩
theorem k_85 {M : sm_M} (h : SH M) : sm_K M 85 0 := h.K 85 0 rfl
theorem l_85 {M : sm_M} (h : SH M) : sm_ln M 85 = 60 := h.L 85 60 rfl
theorem a_85 : sA 85 0 60 := ⟨rfl, rfl⟩
theorem k_86 {M : sm_M} (h : SH M) : sm_K M 86 0 := h.K 86 0 rfl
theorem l_86 {M : sm_M} (h : SH M) : sm_ln M 86 = 60 := h.L 86 60 rfl
theorem a_86 : sA 86 0 60 := ⟨rfl, rfl⟩
theorem k_87 {M : sm_M} (h : SH M) : sm_K M 87 0 := h.K 87 0 rfl
theorem l_87 {M : sm_M} (h : SH M) : sm_ln M 87 = 4001 := h.L 87 4001 rfl
theorem a_87 : sA 87 0 4001 := ⟨rfl, rfl⟩
theorem k_88 {M : sm_M} (h : SH M) : sm_K M 88 26 := h.K 88 26 rfl
theorem k_89 {M : sm_M} (h : SH M) : sm_K M 89 27 := h.K 89 27 rfl
theorem k_90 {M : sm_M} (h : SH M) : sm_K M 90 1 := h.K 90 1 rfl
theorem l_90 {M : sm_M} (h : SH M) : sm_ln M 90 = 4000 := h.L 90 4000 rfl
theorem a_90 : sA 90 1 4000 := ⟨rfl, rfl⟩
theorem k_91 {M : sm_M} (h : SH M) : sm_K M 91 0 := h.K 91 0 rfl
theorem l_91 {M : sm_M} (h : SH M) : sm_ln M 91 = 4001 := h.L 91 4001 rfl
theorem a_91 : sA 91 0 4001 := ⟨rfl, rfl⟩
theorem k_92 {M : sm_M} (h : SH M) : sm_K M 92 0 := h.K 92 0 rfl
theorem l_92 {M : sm_M} (h : SH M) : sm_ln M 92 = 601 := h.L 92 601 rfl
theorem a_92 : sA 92 0 601 := ⟨rfl, rfl⟩
theorem k_93 {M : sm_M} (h : SH M) : sm_K M 93 0 := h.K 93 0 rfl
theorem l_93 {M : sm_M} (h : SH M) : sm_ln M 93 = 601 := h.L 93 601 rfl
theorem a_93 : sA 93 0 601 := ⟨rfl, rfl⟩
theorem k_94 {M : sm_M} (h : SH M) : sm_K M 94 0 := h.K 94 0 rfl
theorem l_94 {M : sm_M} (h : SH M) : sm_ln M 94 = 601 := h.L 94 601 rfl
theorem a_94 : sA 94 0 601 := ⟨rfl, rfl⟩
theorem k_95 {M : sm_M} (h : SH M) : sm_K M 95 0 := h.K 95 0 rfl
theorem l_95 {M : sm_M} (h : SH M) : sm_ln M 95 = 601 := h.L 95 601 rfl
theorem a_95 : sA 95 0 601 := ⟨rfl, rfl⟩
theorem k_96 {M : sm_M} (h : SH M) : sm_K M 96 2 := h.K 96 2 rfl
theorem l_96 {M : sm_M} (h : SH M) : sm_ln M 96 = 601 := h.L 96 601 rfl
theorem a_96 : sA 96 2 601 := ⟨rfl, rfl⟩
theorem k_97 {M : sm_M} (h : SH M) : sm_K M 97 2 := h.K 97 2 rfl
theorem l_97 {M : sm_M} (h : SH M) : sm_ln M 97 = 601 := h.L 97 601 rfl
theorem a_97 : sA 97 2 601 := ⟨rfl, rfl⟩
theorem k_98 {M : sm_M} (h : SH M) : sm_K M 98 2 := h.K 98 2 rfl
theorem l_98 {M : sm_M} (h : SH M) : sm_ln M 98 = 601 := h.L 98 601 rfl
theorem a_98 : sA 98 2 601 := ⟨rfl, rfl⟩
theorem k_99 {M : sm_M} (h : SH M) : sm_K M 99 2 := h.K 99 2 rfl
theorem l_99 {M : sm_M} (h : SH M) : sm_ln M 99 = 601 := h.L 99 601 rfl
theorem a_99 : sA 99 2 601 := ⟨rfl, rfl⟩
theorem k_100 {M : sm_M} (h : SH M) : sm_K M 100 0 := h.K 100 0 rfl
theorem l_100 {M : sm_M} (h : SH M) : sm_ln M 100 = 600 := h.L 100 600 rfl
theorem a_100 : sA 100 0 600 := ⟨rfl, rfl⟩
theorem k_101 {M : sm_M} (h : SH M) : sm_K M 101 2 := h.K 101 2 rfl
theorem l_101 {M : sm_M} (h : SH M) : sm_ln M 101 = 600 := h.L 101 600 rfl
theorem a_101 : sA 101 2 600 := ⟨rfl, rfl⟩
theorem k_102 {M : sm_M} (h : SH M) : sm_K M 102 26 := h.K 102 26 rfl
theorem k_103 {M : sm_M} (h : SH M) : sm_K M 103 27 := h.K 103 27 rfl
theorem k_104 {M : sm_M} (h : SH M) : sm_K M 104 1 := h.K 104 1 rfl
theorem l_104 {M : sm_M} (h : SH M) : sm_ln M 104 = 4000 := h.L 104 4000 rfl
theorem a_104 : sA 104 1 4000 := ⟨rfl, rfl⟩
theorem k_105 {M : sm_M} (h : SH M) : sm_K M 105 0 := h.K 105 0 rfl
theorem l_105 {M : sm_M} (h : SH M) : sm_ln M 105 = 4001 := h.L 105 4001 rfl
theorem a_105 : sA 105 0 4001 := ⟨rfl, rfl⟩
theorem k_106 {M : sm_M} (h : SH M) : sm_K M 106 0 := h.K 106 0 rfl
theorem l_106 {M : sm_M} (h : SH M) : sm_ln M 106 = 601 := h.L 106 601 rfl
theorem a_106 : sA 106 0 601 := ⟨rfl, rfl⟩
theorem k_107 {M : sm_M} (h : SH M) : sm_K M 107 0 := h.K 107 0 rfl
theorem l_107 {M : sm_M} (h : SH M) : sm_ln M 107 = 601 := h.L 107 601 rfl
theorem a_107 : sA 107 0 601 := ⟨rfl, rfl⟩
theorem k_108 {M : sm_M} (h : SH M) : sm_K M 108 0 := h.K 108 0 rfl
theorem l_108 {M : sm_M} (h : SH M) : sm_ln M 108 = 601 := h.L 108 601 rfl
theorem a_108 : sA 108 0 601 := ⟨rfl, rfl⟩
theorem k_109 {M : sm_M} (h : SH M) : sm_K M 109 0 := h.K 109 0 rfl
theorem l_109 {M : sm_M} (h : SH M) : sm_ln M 109 = 601 := h.L 109 601 rfl
theorem a_109 : sA 109 0 601 := ⟨rfl, rfl⟩
theorem k_110 {M : sm_M} (h : SH M) : sm_K M 110 2 := h.K 110 2 rfl
theorem l_110 {M : sm_M} (h : SH M) : sm_ln M 110 = 601 := h.L 110 601 rfl
theorem a_110 : sA 110 2 601 := ⟨rfl, rfl⟩
theorem k_111 {M : sm_M} (h : SH M) : sm_K M 111 2 := h.K 111 2 rfl
theorem l_111 {M : sm_M} (h : SH M) : sm_ln M 111 = 601 := h.L 111 601 rfl
theorem a_111 : sA 111 2 601 := ⟨rfl, rfl⟩
theorem k_112 {M : sm_M} (h : SH M) : sm_K M 112 2 := h.K 112 2 rfl
theorem l_112 {M : sm_M} (h : SH M) : sm_ln M 112 = 601 := h.L 112 601 rfl
theorem a_112 : sA 112 2 601 := ⟨rfl, rfl⟩
theorem k_113 {M : sm_M} (h : SH M) : sm_K M 113 2 := h.K 113 2 rfl
theorem l_113 {M : sm_M} (h : SH M) : sm_ln M 113 = 601 := h.L 113 601 rfl
theorem a_113 : sA 113 2 601 := ⟨rfl, rfl⟩
theorem k_114 {M : sm_M} (h : SH M) : sm_K M 114 0 := h.K 114 0 rfl
theorem l_114 {M : sm_M} (h : SH M) : sm_ln M 114 = 600 := h.L 114 600 rfl
theorem a_114 : sA 114 0 600 := ⟨rfl, rfl⟩
theorem k_115 {M : sm_M} (h : SH M) : sm_K M 115 2 := h.K 115 2 rfl
theorem l_115 {M : sm_M} (h : SH M) : sm_ln M 115 = 600 := h.L 115 600 rfl
theorem a_115 : sA 115 2 600 := ⟨rfl, rfl⟩
theorem k_116 {M : sm_M} (h : SH M) : sm_K M 116 28 := h.K 116 28 rfl
theorem k_117 {M : sm_M} (h : SH M) : sm_K M 117 0 := h.K 117 0 rfl
theorem l_117 {M : sm_M} (h : SH M) : sm_ln M 117 = 8192 := h.L 117 8192 rfl
theorem a_117 : sA 117 0 8192 := ⟨rfl, rfl⟩
theorem k_118 {M : sm_M} (h : SH M) : sm_K M 118 0 := h.K 118 0 rfl
theorem l_118 {M : sm_M} (h : SH M) : sm_ln M 118 = 8192 := h.L 118 8192 rfl
theorem a_118 : sA 118 0 8192 := ⟨rfl, rfl⟩
theorem k_119 {M : sm_M} (h : SH M) : sm_K M 119 0 := h.K 119 0 rfl
theorem l_119 {M : sm_M} (h : SH M) : sm_ln M 119 = 6001 := h.L 119 6001 rfl
theorem a_119 : sA 119 0 6001 := ⟨rfl, rfl⟩
theorem k_120 {M : sm_M} (h : SH M) : sm_K M 120 0 := h.K 120 0 rfl
theorem l_120 {M : sm_M} (h : SH M) : sm_ln M 120 = 256 := h.L 120 256 rfl
theorem a_120 : sA 120 0 256 := ⟨rfl, rfl⟩
theorem k_121 {M : sm_M} (h : SH M) : sm_K M 121 0 := h.K 121 0 rfl
theorem l_121 {M : sm_M} (h : SH M) : sm_ln M 121 = 256 := h.L 121 256 rfl
theorem a_121 : sA 121 0 256 := ⟨rfl, rfl⟩
theorem k_122 {M : sm_M} (h : SH M) : sm_K M 122 0 := h.K 122 0 rfl
theorem l_122 {M : sm_M} (h : SH M) : sm_ln M 122 = 200 := h.L 122 200 rfl
theorem a_122 : sA 122 0 200 := ⟨rfl, rfl⟩
theorem k_123 {M : sm_M} (h : SH M) : sm_K M 123 0 := h.K 123 0 rfl
theorem l_123 {M : sm_M} (h : SH M) : sm_ln M 123 = 200 := h.L 123 200 rfl
theorem a_123 : sA 123 0 200 := ⟨rfl, rfl⟩
theorem k_124 {M : sm_M} (h : SH M) : sm_K M 124 0 := h.K 124 0 rfl
theorem l_124 {M : sm_M} (h : SH M) : sm_ln M 124 = 200 := h.L 124 200 rfl
theorem a_124 : sA 124 0 200 := ⟨rfl, rfl⟩
theorem k_125 {M : sm_M} (h : SH M) : sm_K M 125 0 := h.K 125 0 rfl
theorem l_125 {M : sm_M} (h : SH M) : sm_ln M 125 = 60 := h.L 125 60 rfl
theorem a_125 : sA 125 0 60 := ⟨rfl, rfl⟩
theorem k_126 {M : sm_M} (h : SH M) : sm_K M 126 0 := h.K 126 0 rfl
theorem l_126 {M : sm_M} (h : SH M) : sm_ln M 126 = 60 := h.L 126 60 rfl
theorem a_126 : sA 126 0 60 := ⟨rfl, rfl⟩
theorem k_127 {M : sm_M} (h : SH M) : sm_K M 127 0 := h.K 127 0 rfl
theorem l_127 {M : sm_M} (h : SH M) : sm_ln M 127 = 60 := h.L 127 60 rfl
theorem a_127 : sA 127 0 60 := ⟨rfl, rfl⟩
theorem k_128 {M : sm_M} (h : SH M) : sm_K M 128 0 := h.K 128 0 rfl
theorem l_128 {M : sm_M} (h : SH M) : sm_ln M 128 = 200 := h.L 128 200 rfl
theorem a_128 : sA 128 0 200 := ⟨rfl, rfl⟩
theorem k_129 {M : sm_M} (h : SH M) : sm_K M 129 0 := h.K 129 0 rfl
theorem l_129 {M : sm_M} (h : SH M) : sm_ln M 129 = 200 := h.L 129 200 rfl
theorem a_129 : sA 129 0 200 := ⟨rfl, rfl⟩
theorem k_130 {M : sm_M} (h : SH M) : sm_K M 130 0 := h.K 130 0 rfl
theorem l_130 {M : sm_M} (h : SH M) : sm_ln M 130 = 200 := h.L 130 200 rfl
theorem a_130 : sA 130 0 200 := ⟨rfl, rfl⟩
theorem k_131 {M : sm_M} (h : SH M) : sm_K M 131 0 := h.K 131 0 rfl
theorem l_131 {M : sm_M} (h : SH M) : sm_ln M 131 = 60 := h.L 131 60 rfl
theorem a_131 : sA 131 0 60 := ⟨rfl, rfl⟩
theorem k_132 {M : sm_M} (h : SH M) : sm_K M 132 0 := h.K 132 0 rfl
theorem l_132 {M : sm_M} (h : SH M) : sm_ln M 132 = 60 := h.L 132 60 rfl
theorem a_132 : sA 132 0 60 := ⟨rfl, rfl⟩
theorem k_133 {M : sm_M} (h : SH M) : sm_K M 133 0 := h.K 133 0 rfl
theorem l_133 {M : sm_M} (h : SH M) : sm_ln M 133 = 60 := h.L 133 60 rfl
theorem a_133 : sA 133 0 60 := ⟨rfl, rfl⟩
theorem k_134 {M : sm_M} (h : SH M) : sm_K M 134 3 := h.K 134 3 rfl
theorem l_134 {M : sm_M} (h : SH M) : sm_ln M 134 = 256 := h.L 134 256 rfl
theorem a_134 : sA 134 3 256 := ⟨rfl, rfl⟩
theorem k_135 {M : sm_M} (h : SH M) : sm_K M 135 0 := h.K 135 0 rfl
theorem l_135 {M : sm_M} (h : SH M) : sm_ln M 135 = 9600 := h.L 135 9600 rfl
theorem a_135 : sA 135 0 9600 := ⟨rfl, rfl⟩
theorem k_136 {M : sm_M} (h : SH M) : sm_K M 136 0 := h.K 136 0 rfl
theorem l_136 {M : sm_M} (h : SH M) : sm_ln M 136 = 600 := h.L 136 600 rfl
theorem a_136 : sA 136 0 600 := ⟨rfl, rfl⟩
theorem k_137 {M : sm_M} (h : SH M) : sm_K M 137 0 := h.K 137 0 rfl
theorem l_137 {M : sm_M} (h : SH M) : sm_ln M 137 = 10200 := h.L 137 10200 rfl
theorem a_137 : sA 137 0 10200 := ⟨rfl, rfl⟩
theorem k_138 {M : sm_M} (h : SH M) : sm_K M 138 0 := h.K 138 0 rfl
theorem l_138 {M : sm_M} (h : SH M) : sm_ln M 138 = 3840 := h.L 138 3840 rfl
theorem a_138 : sA 138 0 3840 := ⟨rfl, rfl⟩
theorem k_139 {M : sm_M} (h : SH M) : sm_K M 139 0 := h.K 139 0 rfl
theorem l_139 {M : sm_M} (h : SH M) : sm_ln M 139 = 120 := h.L 139 120 rfl
theorem a_139 : sA 139 0 120 := ⟨rfl, rfl⟩
theorem k_140 {M : sm_M} (h : SH M) : sm_K M 140 3 := h.K 140 3 rfl
theorem l_140 {M : sm_M} (h : SH M) : sm_ln M 140 = 3840 := h.L 140 3840 rfl
theorem a_140 : sA 140 3 3840 := ⟨rfl, rfl⟩
theorem k_141 {M : sm_M} (h : SH M) : sm_K M 141 0 := h.K 141 0 rfl
theorem l_141 {M : sm_M} (h : SH M) : sm_ln M 141 = 40 := h.L 141 40 rfl
theorem a_141 : sA 141 0 40 := ⟨rfl, rfl⟩
theorem k_142 {M : sm_M} (h : SH M) : sm_K M 142 0 := h.K 142 0 rfl
theorem l_142 {M : sm_M} (h : SH M) : sm_ln M 142 = 40 := h.L 142 40 rfl
theorem a_142 : sA 142 0 40 := ⟨rfl, rfl⟩
theorem k_143 {M : sm_M} (h : SH M) : sm_K M 143 0 := h.K 143 0 rfl
theorem l_143 {M : sm_M} (h : SH M) : sm_ln M 143 = 4100 := h.L 143 4100 rfl
theorem a_143 : sA 143 0 4100 := ⟨rfl, rfl⟩
theorem k_144 {M : sm_M} (h : SH M) : sm_K M 144 0 := h.K 144 0 rfl
theorem l_144 {M : sm_M} (h : SH M) : sm_ln M 144 = 4100 := h.L 144 4100 rfl
theorem a_144 : sA 144 0 4100 := ⟨rfl, rfl⟩
theorem k_145 {M : sm_M} (h : SH M) : sm_K M 145 3 := h.K 145 3 rfl
theorem l_145 {M : sm_M} (h : SH M) : sm_ln M 145 = 4100 := h.L 145 4100 rfl
theorem a_145 : sA 145 3 4100 := ⟨rfl, rfl⟩
theorem k_146 {M : sm_M} (h : SH M) : sm_K M 146 0 := h.K 146 0 rfl
theorem l_146 {M : sm_M} (h : SH M) : sm_ln M 146 = 4001 := h.L 146 4001 rfl
theorem a_146 : sA 146 0 4001 := ⟨rfl, rfl⟩
theorem k_147 {M : sm_M} (h : SH M) : sm_K M 147 0 := h.K 147 0 rfl
theorem l_147 {M : sm_M} (h : SH M) : sm_ln M 147 = 4001 := h.L 147 4001 rfl
theorem a_147 : sA 147 0 4001 := ⟨rfl, rfl⟩
theorem k_148 {M : sm_M} (h : SH M) : sm_K M 148 0 := h.K 148 0 rfl
theorem l_148 {M : sm_M} (h : SH M) : sm_ln M 148 = 8192 := h.L 148 8192 rfl
theorem a_148 : sA 148 0 8192 := ⟨rfl, rfl⟩
theorem k_149 {M : sm_M} (h : SH M) : sm_K M 149 0 := h.K 149 0 rfl
theorem l_149 {M : sm_M} (h : SH M) : sm_ln M 149 = 4001 := h.L 149 4001 rfl
theorem a_149 : sA 149 0 4001 := ⟨rfl, rfl⟩
theorem k_150 {M : sm_M} (h : SH M) : sm_K M 150 0 := h.K 150 0 rfl
theorem l_150 {M : sm_M} (h : SH M) : sm_ln M 150 = 602 := h.L 150 602 rfl
theorem a_150 : sA 150 0 602 := ⟨rfl, rfl⟩
theorem k_151 {M : sm_M} (h : SH M) : sm_K M 151 0 := h.K 151 0 rfl
theorem l_151 {M : sm_M} (h : SH M) : sm_ln M 151 = 602 := h.L 151 602 rfl
theorem a_151 : sA 151 0 602 := ⟨rfl, rfl⟩
theorem k_152 {M : sm_M} (h : SH M) : sm_K M 152 2 := h.K 152 2 rfl
theorem l_152 {M : sm_M} (h : SH M) : sm_ln M 152 = 602 := h.L 152 602 rfl
theorem a_152 : sA 152 2 602 := ⟨rfl, rfl⟩
theorem k_153 {M : sm_M} (h : SH M) : sm_K M 153 2 := h.K 153 2 rfl
theorem l_153 {M : sm_M} (h : SH M) : sm_ln M 153 = 602 := h.L 153 602 rfl
theorem a_153 : sA 153 2 602 := ⟨rfl, rfl⟩
theorem k_154 {M : sm_M} (h : SH M) : sm_K M 154 2 := h.K 154 2 rfl
theorem l_154 {M : sm_M} (h : SH M) : sm_ln M 154 = 602 := h.L 154 602 rfl
theorem a_154 : sA 154 2 602 := ⟨rfl, rfl⟩
theorem k_155 {M : sm_M} (h : SH M) : sm_K M 155 2 := h.K 155 2 rfl
theorem l_155 {M : sm_M} (h : SH M) : sm_ln M 155 = 602 := h.L 155 602 rfl
theorem a_155 : sA 155 2 602 := ⟨rfl, rfl⟩
theorem k_156 {M : sm_M} (h : SH M) : sm_K M 156 2 := h.K 156 2 rfl
theorem l_156 {M : sm_M} (h : SH M) : sm_ln M 156 = 602 := h.L 156 602 rfl
theorem a_156 : sA 156 2 602 := ⟨rfl, rfl⟩
theorem k_157 {M : sm_M} (h : SH M) : sm_K M 157 3 := h.K 157 3 rfl
theorem l_157 {M : sm_M} (h : SH M) : sm_ln M 157 = 4002 := h.L 157 4002 rfl
theorem a_157 : sA 157 3 4002 := ⟨rfl, rfl⟩
theorem k_158 {M : sm_M} (h : SH M) : sm_K M 158 2 := h.K 158 2 rfl
theorem l_158 {M : sm_M} (h : SH M) : sm_ln M 158 = 2408 := h.L 158 2408 rfl
theorem a_158 : sA 158 2 2408 := ⟨rfl, rfl⟩
theorem k_159 {M : sm_M} (h : SH M) : sm_K M 159 0 := h.K 159 0 rfl
theorem l_159 {M : sm_M} (h : SH M) : sm_ln M 159 = 2408 := h.L 159 2408 rfl
theorem a_159 : sA 159 0 2408 := ⟨rfl, rfl⟩
theorem k_160 {M : sm_M} (h : SH M) : sm_K M 160 3 := h.K 160 3 rfl
theorem l_160 {M : sm_M} (h : SH M) : sm_ln M 160 = 2408 := h.L 160 2408 rfl
theorem a_160 : sA 160 3 2408 := ⟨rfl, rfl⟩
theorem k_161 {M : sm_M} (h : SH M) : sm_K M 161 0 := h.K 161 0 rfl
theorem l_161 {M : sm_M} (h : SH M) : sm_ln M 161 = 602 := h.L 161 602 rfl
theorem a_161 : sA 161 0 602 := ⟨rfl, rfl⟩
theorem k_162 {M : sm_M} (h : SH M) : sm_K M 162 0 := h.K 162 0 rfl
theorem l_162 {M : sm_M} (h : SH M) : sm_ln M 162 = 602 := h.L 162 602 rfl
theorem a_162 : sA 162 0 602 := ⟨rfl, rfl⟩
theorem k_163 {M : sm_M} (h : SH M) : sm_K M 163 2 := h.K 163 2 rfl
theorem l_163 {M : sm_M} (h : SH M) : sm_ln M 163 = 602 := h.L 163 602 rfl
theorem a_163 : sA 163 2 602 := ⟨rfl, rfl⟩
theorem k_164 {M : sm_M} (h : SH M) : sm_K M 164 2 := h.K 164 2 rfl
theorem l_164 {M : sm_M} (h : SH M) : sm_ln M 164 = 1 := h.L 164 1 rfl
theorem a_164 : sA 164 2 1 := ⟨rfl, rfl⟩
theorem r_1_0 {M : sm_M} (h : SH M) : sm_rv M 1 0 = some 2 := h.R 1 0 2 rfl
theorem r_3_0 {M : sm_M} (h : SH M) : sm_rv M 3 0 = some 4 := h.R 3 0 4 rfl
theorem r_5_0 {M : sm_M} (h : SH M) : sm_rv M 5 0 = some 6 := h.R 5 0 6 rfl
theorem r_7_0 {M : sm_M} (h : SH M) : sm_rv M 7 0 = some 8 := h.R 7 0 8 rfl
theorem r_23_0 {M : sm_M} (h : SH M) : sm_rv M 23 0 = some 24 := h.R 23 0 24 rfl
theorem r_23_1 {M : sm_M} (h : SH M) : sm_rv M 23 1 = some 26 := h.R 23 1 26 rfl
theorem r_23_2 {M : sm_M} (h : SH M) : sm_rv M 23 2 = some 28 := h.R 23 2 28 rfl
theorem r_23_3 {M : sm_M} (h : SH M) : sm_rv M 23 3 = some 29 := h.R 23 3 29 rfl
theorem r_23_4 {M : sm_M} (h : SH M) : sm_rv M 23 4 = some 30 := h.R 23 4 30 rfl
theorem r_23_5 {M : sm_M} (h : SH M) : sm_rv M 23 5 = some 33 := h.R 23 5 33 rfl
theorem r_23_6 {M : sm_M} (h : SH M) : sm_rv M 23 6 = some 34 := h.R 23 6 34 rfl
theorem r_23_7 {M : sm_M} (h : SH M) : sm_rv M 23 7 = some 36 := h.R 23 7 36 rfl
theorem r_23_8 {M : sm_M} (h : SH M) : sm_rv M 23 8 = some 41 := h.R 23 8 41 rfl
theorem r_24_0 {M : sm_M} (h : SH M) : sm_rv M 24 0 = some 25 := h.R 24 0 25 rfl
theorem r_26_0 {M : sm_M} (h : SH M) : sm_rv M 26 0 = some 27 := h.R 26 0 27 rfl
theorem r_30_0 {M : sm_M} (h : SH M) : sm_rv M 30 0 = some 31 := h.R 30 0 31 rfl
theorem r_30_1 {M : sm_M} (h : SH M) : sm_rv M 30 1 = some 32 := h.R 30 1 32 rfl
theorem r_33_0 {M : sm_M} (h : SH M) : sm_rv M 33 0 = some 24 := h.R 33 0 24 rfl
theorem r_34_0 {M : sm_M} (h : SH M) : sm_rv M 34 0 = some 24 := h.R 34 0 24 rfl
theorem r_34_3 {M : sm_M} (h : SH M) : sm_rv M 34 3 = some 35 := h.R 34 3 35 rfl
theorem r_36_0 {M : sm_M} (h : SH M) : sm_rv M 36 0 = some 37 := h.R 36 0 37 rfl
theorem r_36_1 {M : sm_M} (h : SH M) : sm_rv M 36 1 = some 38 := h.R 36 1 38 rfl
theorem r_36_2 {M : sm_M} (h : SH M) : sm_rv M 36 2 = some 39 := h.R 36 2 39 rfl
theorem r_36_3 {M : sm_M} (h : SH M) : sm_rv M 36 3 = some 40 := h.R 36 3 40 rfl
theorem r_42_0 {M : sm_M} (h : SH M) : sm_rv M 42 0 = some 43 := h.R 42 0 43 rfl
theorem r_42_1 {M : sm_M} (h : SH M) : sm_rv M 42 1 = some 44 := h.R 42 1 44 rfl
theorem r_42_3 {M : sm_M} (h : SH M) : sm_rv M 42 3 = some 45 := h.R 42 3 45 rfl
theorem r_42_4 {M : sm_M} (h : SH M) : sm_rv M 42 4 = some 50 := h.R 42 4 50 rfl
theorem r_45_0 {M : sm_M} (h : SH M) : sm_rv M 45 0 = some 46 := h.R 45 0 46 rfl
theorem r_45_1 {M : sm_M} (h : SH M) : sm_rv M 45 1 = some 47 := h.R 45 1 47 rfl
theorem r_45_2 {M : sm_M} (h : SH M) : sm_rv M 45 2 = some 48 := h.R 45 2 48 rfl
theorem r_45_3 {M : sm_M} (h : SH M) : sm_rv M 45 3 = some 49 := h.R 45 3 49 rfl
theorem r_50_0 {M : sm_M} (h : SH M) : sm_rv M 50 0 = some 51 := h.R 50 0 51 rfl
theorem r_50_1 {M : sm_M} (h : SH M) : sm_rv M 50 1 = some 52 := h.R 50 1 52 rfl
theorem r_50_2 {M : sm_M} (h : SH M) : sm_rv M 50 2 = some 53 := h.R 50 2 53 rfl
theorem r_50_3 {M : sm_M} (h : SH M) : sm_rv M 50 3 = some 54 := h.R 50 3 54 rfl
theorem r_55_0 {M : sm_M} (h : SH M) : sm_rv M 55 0 = some 56 := h.R 55 0 56 rfl
theorem r_55_1 {M : sm_M} (h : SH M) : sm_rv M 55 1 = some 57 := h.R 55 1 57 rfl
theorem r_55_3 {M : sm_M} (h : SH M) : sm_rv M 55 3 = some 58 := h.R 55 3 58 rfl
theorem r_55_4 {M : sm_M} (h : SH M) : sm_rv M 55 4 = some 63 := h.R 55 4 63 rfl
theorem r_58_0 {M : sm_M} (h : SH M) : sm_rv M 58 0 = some 59 := h.R 58 0 59 rfl
theorem r_58_1 {M : sm_M} (h : SH M) : sm_rv M 58 1 = some 60 := h.R 58 1 60 rfl
theorem r_58_2 {M : sm_M} (h : SH M) : sm_rv M 58 2 = some 61 := h.R 58 2 61 rfl
theorem r_58_3 {M : sm_M} (h : SH M) : sm_rv M 58 3 = some 62 := h.R 58 3 62 rfl
theorem r_63_0 {M : sm_M} (h : SH M) : sm_rv M 63 0 = some 64 := h.R 63 0 64 rfl
theorem r_63_1 {M : sm_M} (h : SH M) : sm_rv M 63 1 = some 65 := h.R 63 1 65 rfl
theorem r_63_2 {M : sm_M} (h : SH M) : sm_rv M 63 2 = some 66 := h.R 63 2 66 rfl
theorem r_63_3 {M : sm_M} (h : SH M) : sm_rv M 63 3 = some 67 := h.R 63 3 67 rfl
theorem r_68_0 {M : sm_M} (h : SH M) : sm_rv M 68 0 = some 69 := h.R 68 0 69 rfl
theorem r_68_1 {M : sm_M} (h : SH M) : sm_rv M 68 1 = some 70 := h.R 68 1 70 rfl
theorem r_68_2 {M : sm_M} (h : SH M) : sm_rv M 68 2 = some 71 := h.R 68 2 71 rfl
theorem r_68_3 {M : sm_M} (h : SH M) : sm_rv M 68 3 = some 72 := h.R 68 3 72 rfl
theorem r_68_5 {M : sm_M} (h : SH M) : sm_rv M 68 5 = some 73 := h.R 68 5 73 rfl
theorem r_68_7 {M : sm_M} (h : SH M) : sm_rv M 68 7 = some 74 := h.R 68 7 74 rfl
theorem r_68_8 {M : sm_M} (h : SH M) : sm_rv M 68 8 = some 75 := h.R 68 8 75 rfl
theorem r_68_9 {M : sm_M} (h : SH M) : sm_rv M 68 9 = some 76 := h.R 68 9 76 rfl
theorem r_68_13 {M : sm_M} (h : SH M) : sm_rv M 68 13 = some 77 := h.R 68 13 77 rfl
theorem r_78_0 {M : sm_M} (h : SH M) : sm_rv M 78 0 = some 79 := h.R 78 0 79 rfl
theorem r_78_1 {M : sm_M} (h : SH M) : sm_rv M 78 1 = some 80 := h.R 78 1 80 rfl
theorem r_78_2 {M : sm_M} (h : SH M) : sm_rv M 78 2 = some 81 := h.R 78 2 81 rfl
theorem r_78_3 {M : sm_M} (h : SH M) : sm_rv M 78 3 = some 82 := h.R 78 3 82 rfl
theorem r_78_5 {M : sm_M} (h : SH M) : sm_rv M 78 5 = some 83 := h.R 78 5 83 rfl
theorem r_78_7 {M : sm_M} (h : SH M) : sm_rv M 78 7 = some 84 := h.R 78 7 84 rfl
theorem r_78_8 {M : sm_M} (h : SH M) : sm_rv M 78 8 = some 85 := h.R 78 8 85 rfl
theorem r_78_9 {M : sm_M} (h : SH M) : sm_rv M 78 9 = some 86 := h.R 78 9 86 rfl
theorem r_78_13 {M : sm_M} (h : SH M) : sm_rv M 78 13 = some 87 := h.R 78 13 87 rfl
theorem r_88_0 {M : sm_M} (h : SH M) : sm_rv M 88 0 = some 89 := h.R 88 0 89 rfl
theorem r_88_7 {M : sm_M} (h : SH M) : sm_rv M 88 7 = some 100 := h.R 88 7 100 rfl
theorem r_88_8 {M : sm_M} (h : SH M) : sm_rv M 88 8 = some 101 := h.R 88 8 101 rfl
theorem r_89_0 {M : sm_M} (h : SH M) : sm_rv M 89 0 = some 90 := h.R 89 0 90 rfl
theorem r_89_2 {M : sm_M} (h : SH M) : sm_rv M 89 2 = some 91 := h.R 89 2 91 rfl
theorem r_89_4 {M : sm_M} (h : SH M) : sm_rv M 89 4 = some 92 := h.R 89 4 92 rfl
theorem r_89_5 {M : sm_M} (h : SH M) : sm_rv M 89 5 = some 93 := h.R 89 5 93 rfl
theorem r_89_6 {M : sm_M} (h : SH M) : sm_rv M 89 6 = some 94 := h.R 89 6 94 rfl
theorem r_89_7 {M : sm_M} (h : SH M) : sm_rv M 89 7 = some 95 := h.R 89 7 95 rfl
theorem r_89_8 {M : sm_M} (h : SH M) : sm_rv M 89 8 = some 96 := h.R 89 8 96 rfl
theorem r_89_9 {M : sm_M} (h : SH M) : sm_rv M 89 9 = some 97 := h.R 89 9 97 rfl
theorem r_89_10 {M : sm_M} (h : SH M) : sm_rv M 89 10 = some 98 := h.R 89 10 98 rfl
theorem r_89_11 {M : sm_M} (h : SH M) : sm_rv M 89 11 = some 99 := h.R 89 11 99 rfl
theorem r_102_0 {M : sm_M} (h : SH M) : sm_rv M 102 0 = some 103 := h.R 102 0 103 rfl
theorem r_102_7 {M : sm_M} (h : SH M) : sm_rv M 102 7 = some 114 := h.R 102 7 114 rfl
theorem r_102_8 {M : sm_M} (h : SH M) : sm_rv M 102 8 = some 115 := h.R 102 8 115 rfl
theorem r_103_0 {M : sm_M} (h : SH M) : sm_rv M 103 0 = some 104 := h.R 103 0 104 rfl
theorem r_103_2 {M : sm_M} (h : SH M) : sm_rv M 103 2 = some 105 := h.R 103 2 105 rfl
theorem r_103_4 {M : sm_M} (h : SH M) : sm_rv M 103 4 = some 106 := h.R 103 4 106 rfl
theorem r_103_5 {M : sm_M} (h : SH M) : sm_rv M 103 5 = some 107 := h.R 103 5 107 rfl
theorem r_103_6 {M : sm_M} (h : SH M) : sm_rv M 103 6 = some 108 := h.R 103 6 108 rfl
theorem r_103_7 {M : sm_M} (h : SH M) : sm_rv M 103 7 = some 109 := h.R 103 7 109 rfl
theorem r_103_8 {M : sm_M} (h : SH M) : sm_rv M 103 8 = some 110 := h.R 103 8 110 rfl
theorem r_103_9 {M : sm_M} (h : SH M) : sm_rv M 103 9 = some 111 := h.R 103 9 111 rfl
theorem r_103_10 {M : sm_M} (h : SH M) : sm_rv M 103 10 = some 112 := h.R 103 10 112 rfl
theorem r_103_11 {M : sm_M} (h : SH M) : sm_rv M 103 11 = some 113 := h.R 103 11 113 rfl
theorem r_116_1 {M : sm_M} (h : SH M) : sm_rv M 116 1 = some 117 := h.R 116 1 117 rfl
theorem r_116_2 {M : sm_M} (h : SH M) : sm_rv M 116 2 = some 118 := h.R 116 2 118 rfl
theorem r_116_5 {M : sm_M} (h : SH M) : sm_rv M 116 5 = some 119 := h.R 116 5 119 rfl
theorem r_116_14 {M : sm_M} (h : SH M) : sm_rv M 116 14 = some 120 := h.R 116 14 120 rfl
theorem r_116_15 {M : sm_M} (h : SH M) : sm_rv M 116 15 = some 121 := h.R 116 15 121 rfl
theorem r_116_16 {M : sm_M} (h : SH M) : sm_rv M 116 16 = some 122 := h.R 116 16 122 rfl
theorem r_116_17 {M : sm_M} (h : SH M) : sm_rv M 116 17 = some 123 := h.R 116 17 123 rfl
theorem r_116_18 {M : sm_M} (h : SH M) : sm_rv M 116 18 = some 124 := h.R 116 18 124 rfl
theorem r_116_19 {M : sm_M} (h : SH M) : sm_rv M 116 19 = some 125 := h.R 116 19 125 rfl
theorem r_116_20 {M : sm_M} (h : SH M) : sm_rv M 116 20 = some 126 := h.R 116 20 126 rfl
theorem r_116_21 {M : sm_M} (h : SH M) : sm_rv M 116 21 = some 127 := h.R 116 21 127 rfl
theorem r_116_22 {M : sm_M} (h : SH M) : sm_rv M 116 22 = some 128 := h.R 116 22 128 rfl
theorem r_116_23 {M : sm_M} (h : SH M) : sm_rv M 116 23 = some 129 := h.R 116 23 129 rfl
theorem r_116_24 {M : sm_M} (h : SH M) : sm_rv M 116 24 = some 130 := h.R 116 24 130 rfl
theorem r_116_25 {M : sm_M} (h : SH M) : sm_rv M 116 25 = some 131 := h.R 116 25 131 rfl
theorem r_116_26 {M : sm_M} (h : SH M) : sm_rv M 116 26 = some 132 := h.R 116 26 132 rfl
theorem r_116_27 {M : sm_M} (h : SH M) : sm_rv M 116 27 = some 133 := h.R 116 27 133 rfl
theorem r_116_32 {M : sm_M} (h : SH M) : sm_rv M 116 32 = some 134 := h.R 116 32 134 rfl
theorem r_116_37 {M : sm_M} (h : SH M) : sm_rv M 116 37 = some 135 := h.R 116 37 135 rfl
theorem r_116_38 {M : sm_M} (h : SH M) : sm_rv M 116 38 = some 136 := h.R 116 38 136 rfl
theorem r_116_39 {M : sm_M} (h : SH M) : sm_rv M 116 39 = some 137 := h.R 116 39 137 rfl
theorem r_116_40 {M : sm_M} (h : SH M) : sm_rv M 116 40 = some 138 := h.R 116 40 138 rfl
theorem r_116_41 {M : sm_M} (h : SH M) : sm_rv M 116 41 = some 139 := h.R 116 41 139 rfl
theorem r_116_42 {M : sm_M} (h : SH M) : sm_rv M 116 42 = some 140 := h.R 116 42 140 rfl
theorem r_116_47 {M : sm_M} (h : SH M) : sm_rv M 116 47 = some 141 := h.R 116 47 141 rfl
theorem r_116_48 {M : sm_M} (h : SH M) : sm_rv M 116 48 = some 142 := h.R 116 48 142 rfl
theorem r_116_51 {M : sm_M} (h : SH M) : sm_rv M 116 51 = some 143 := h.R 116 51 143 rfl
theorem r_116_52 {M : sm_M} (h : SH M) : sm_rv M 116 52 = some 144 := h.R 116 52 144 rfl
theorem r_116_53 {M : sm_M} (h : SH M) : sm_rv M 116 53 = some 145 := h.R 116 53 145 rfl
theorem r_116_54 {M : sm_M} (h : SH M) : sm_rv M 116 54 = some 146 := h.R 116 54 146 rfl
theorem r_116_55 {M : sm_M} (h : SH M) : sm_rv M 116 55 = some 147 := h.R 116 55 147 rfl
theorem r_116_58 {M : sm_M} (h : SH M) : sm_rv M 116 58 = some 148 := h.R 116 58 148 rfl
theorem r_116_68 {M : sm_M} (h : SH M) : sm_rv M 116 68 = some 149 := h.R 116 68 149 rfl
theorem r_116_70 {M : sm_M} (h : SH M) : sm_rv M 116 70 = some 150 := h.R 116 70 150 rfl
theorem r_116_71 {M : sm_M} (h : SH M) : sm_rv M 116 71 = some 151 := h.R 116 71 151 rfl
theorem r_116_72 {M : sm_M} (h : SH M) : sm_rv M 116 72 = some 152 := h.R 116 72 152 rfl
theorem r_116_73 {M : sm_M} (h : SH M) : sm_rv M 116 73 = some 153 := h.R 116 73 153 rfl
theorem r_116_74 {M : sm_M} (h : SH M) : sm_rv M 116 74 = some 154 := h.R 116 74 154 rfl
theorem r_116_75 {M : sm_M} (h : SH M) : sm_rv M 116 75 = some 155 := h.R 116 75 155 rfl
theorem r_116_76 {M : sm_M} (h : SH M) : sm_rv M 116 76 = some 156 := h.R 116 76 156 rfl
theorem r_116_77 {M : sm_M} (h : SH M) : sm_rv M 116 77 = some 157 := h.R 116 77 157 rfl
theorem r_116_86 {M : sm_M} (h : SH M) : sm_rv M 116 86 = some 158 := h.R 116 86 158 rfl
theorem r_116_87 {M : sm_M} (h : SH M) : sm_rv M 116 87 = some 159 := h.R 116 87 159 rfl
theorem r_116_88 {M : sm_M} (h : SH M) : sm_rv M 116 88 = some 160 := h.R 116 88 160 rfl
theorem r_116_89 {M : sm_M} (h : SH M) : sm_rv M 116 89 = some 161 := h.R 116 89 161 rfl
theorem r_116_90 {M : sm_M} (h : SH M) : sm_rv M 116 90 = some 162 := h.R 116 90 162 rfl
theorem r_116_91 {M : sm_M} (h : SH M) : sm_rv M 116 91 = some 163 := h.R 116 91 163 rfl
def cB (x : Nat) : Nat := if x = 24 then 8192 else 6000
def cQ (x : Nat) : Nat := if x = 45 ∨ x = 58 then 200 else 60
def cN (x : Nat) : Nat := if x = 1 then 5 else 4
def fB (x : Nat) : Prop := x = 24 ∨ x = 26
theorem fB_24 : fB 24 := Or.inl rfl
theorem fB_26 : fB 26 := Or.inr (rfl)
def fL (x : Nat) : Prop := x = 40 ∨ x = 41
theorem fL_40 : fL 40 := Or.inl rfl
theorem fL_41 : fL 41 := Or.inr (rfl)
def fF (x : Nat) : Prop := x = 42 ∨ x = 55
theorem fF_42 : fF 42 := Or.inl rfl
theorem fF_55 : fF 55 := Or.inr (rfl)
def fQ (x : Nat) : Prop := x = 45 ∨ x = 50 ∨ x = 58 ∨ x = 63
theorem fQ_45 : fQ 45 := Or.inl rfl
theorem fQ_50 : fQ 50 := Or.inr (Or.inl rfl)
theorem fQ_58 : fQ 58 := Or.inr (Or.inr (Or.inl rfl))
theorem fQ_63 : fQ 63 := Or.inr (Or.inr (Or.inr (rfl)))
def fH (x : Nat) : Prop := x = 68 ∨ x = 78
theorem fH_68 : fH 68 := Or.inl rfl
theorem fH_78 : fH 78 := Or.inr (rfl)
def fS (x : Nat) : Prop := x = 88 ∨ x = 102
theorem fS_88 : fS 88 := Or.inl rfl
theorem fS_102 : fS 102 := Or.inr (rfl)
def fK (x : Nat) : Prop := x = 89 ∨ x = 103
theorem fK_89 : fK 89 := Or.inl rfl
theorem fK_103 : fK 103 := Or.inr (rfl)
def fN (x : Nat) : Prop := x = 1 ∨ x = 3 ∨ x = 5 ∨ x = 7
theorem fN_1 : fN 1 := Or.inl rfl
theorem fN_3 : fN 3 := Or.inr (Or.inl rfl)
theorem fN_5 : fN 5 := Or.inr (Or.inr (Or.inl rfl))
theorem fN_7 : fN 7 := Or.inr (Or.inr (Or.inr (rfl)))
theorem kB_0 {M : sm_M} {x : Nat} (h : SH M) (hx : fB x) : sm_K M x 17 := by
  rcases hx with rfl | rfl
  · exact k_24 h
  · exact k_26 h
theorem rB_0 {M : sm_M} {x : Nat} (h : SH M) (hx : fB x) : sm_rv M x 0 = some (x + 1) := by
  rcases hx with rfl | rfl
  · exact r_24_0 h
  · exact r_26_0 h
theorem kB_1 {M : sm_M} {x : Nat} (h : SH M) (hx : fB x) : sm_K M (x + 1) 1 := by
  rcases hx with rfl | rfl
  · exact k_25 h
  · exact k_27 h
theorem lB_1 {M : sm_M} {x : Nat} (h : SH M) (hx : fB x) : sm_ln M (x + 1) = cB x := by
  rcases hx with rfl | rfl
  · exact l_25 h
  · exact l_27 h
theorem aB_1 {x : Nat} (hx : fB x) : sA (x + 1) 1 (cB x) := by
  rcases hx with rfl | rfl
  · exact a_25
  · exact a_27
theorem kL_0 {M : sm_M} {x : Nat} (h : SH M) (hx : fL x) : sm_K M x 22 := by
  rcases hx with rfl | rfl
  · exact k_40 h
  · exact k_41 h
theorem kF_0 {M : sm_M} {x : Nat} (h : SH M) (hx : fF x) : sm_K M x 23 := by
  rcases hx with rfl | rfl
  · exact k_42 h
  · exact k_55 h
theorem rF_0 {M : sm_M} {x : Nat} (h : SH M) (hx : fF x) : sm_rv M x 0 = some (x + 1) := by
  rcases hx with rfl | rfl
  · exact r_42_0 h
  · exact r_55_0 h
theorem kF_1 {M : sm_M} {x : Nat} (h : SH M) (hx : fF x) : sm_K M (x + 1) 0 := by
  rcases hx with rfl | rfl
  · exact k_43 h
  · exact k_56 h
theorem lF_1 {M : sm_M} {x : Nat} (h : SH M) (hx : fF x) : sm_ln M (x + 1) = 128 := by
  rcases hx with rfl | rfl
  · exact l_43 h
  · exact l_56 h
theorem aF_1 {x : Nat} (hx : fF x) : sA (x + 1) 0 128 := by
  rcases hx with rfl | rfl
  · exact a_43
  · exact a_56
theorem rF_1 {M : sm_M} {x : Nat} (h : SH M) (hx : fF x) : sm_rv M x 1 = some (x + 2) := by
  rcases hx with rfl | rfl
  · exact r_42_1 h
  · exact r_55_1 h
theorem kF_2 {M : sm_M} {x : Nat} (h : SH M) (hx : fF x) : sm_K M (x + 2) 0 := by
  rcases hx with rfl | rfl
  · exact k_44 h
  · exact k_57 h
theorem lF_2 {M : sm_M} {x : Nat} (h : SH M) (hx : fF x) : sm_ln M (x + 2) = 128 := by
  rcases hx with rfl | rfl
  · exact l_44 h
  · exact l_57 h
theorem aF_2 {x : Nat} (hx : fF x) : sA (x + 2) 0 128 := by
  rcases hx with rfl | rfl
  · exact a_44
  · exact a_57
theorem rF_3 {M : sm_M} {x : Nat} (h : SH M) (hx : fF x) : sm_rv M x 3 = some (x + 3) := by
  rcases hx with rfl | rfl
  · exact r_42_3 h
  · exact r_55_3 h
theorem fF_3 {x : Nat} (hx : fF x) : fQ (x + 3) := by
  rcases hx with rfl | rfl
  · exact fQ_45
  · exact fQ_58
theorem rF_4 {M : sm_M} {x : Nat} (h : SH M) (hx : fF x) : sm_rv M x 4 = some (x + 8) := by
  rcases hx with rfl | rfl
  · exact r_42_4 h
  · exact r_55_4 h
theorem fF_8 {x : Nat} (hx : fF x) : fQ (x + 8) := by
  rcases hx with rfl | rfl
  · exact fQ_50
  · exact fQ_63
theorem kQ_0 {M : sm_M} {x : Nat} (h : SH M) (hx : fQ x) : sm_K M x 24 := by
  rcases hx with rfl | rfl | rfl | rfl
  · exact k_45 h
  · exact k_50 h
  · exact k_58 h
  · exact k_63 h
theorem rQ_0 {M : sm_M} {x : Nat} (h : SH M) (hx : fQ x) : sm_rv M x 0 = some (x + 1) := by
  rcases hx with rfl | rfl | rfl | rfl
  · exact r_45_0 h
  · exact r_50_0 h
  · exact r_58_0 h
  · exact r_63_0 h
theorem kQ_1 {M : sm_M} {x : Nat} (h : SH M) (hx : fQ x) : sm_K M (x + 1) 0 := by
  rcases hx with rfl | rfl | rfl | rfl
  · exact k_46 h
  · exact k_51 h
  · exact k_59 h
  · exact k_64 h
theorem lQ_1 {M : sm_M} {x : Nat} (h : SH M) (hx : fQ x) : sm_ln M (x + 1) = 128 := by
  rcases hx with rfl | rfl | rfl | rfl
  · exact l_46 h
  · exact l_51 h
  · exact l_59 h
  · exact l_64 h
theorem aQ_1 {x : Nat} (hx : fQ x) : sA (x + 1) 0 128 := by
  rcases hx with rfl | rfl | rfl | rfl
  · exact a_46
  · exact a_51
  · exact a_59
  · exact a_64
theorem rQ_1 {M : sm_M} {x : Nat} (h : SH M) (hx : fQ x) : sm_rv M x 1 = some (x + 2) := by
  rcases hx with rfl | rfl | rfl | rfl
  · exact r_45_1 h
  · exact r_50_1 h
  · exact r_58_1 h
  · exact r_63_1 h
theorem kQ_2 {M : sm_M} {x : Nat} (h : SH M) (hx : fQ x) : sm_K M (x + 2) 0 := by
  rcases hx with rfl | rfl | rfl | rfl
  · exact k_47 h
  · exact k_52 h
  · exact k_60 h
  · exact k_65 h
theorem lQ_2 {M : sm_M} {x : Nat} (h : SH M) (hx : fQ x) : sm_ln M (x + 2) = cQ x := by
  rcases hx with rfl | rfl | rfl | rfl
  · exact l_47 h
  · exact l_52 h
  · exact l_60 h
  · exact l_65 h
theorem aQ_2 {x : Nat} (hx : fQ x) : sA (x + 2) 0 (cQ x) := by
  rcases hx with rfl | rfl | rfl | rfl
  · exact a_47
  · exact a_52
  · exact a_60
  · exact a_65
theorem rQ_2 {M : sm_M} {x : Nat} (h : SH M) (hx : fQ x) : sm_rv M x 2 = some (x + 3) := by
  rcases hx with rfl | rfl | rfl | rfl
  · exact r_45_2 h
  · exact r_50_2 h
  · exact r_58_2 h
  · exact r_63_2 h
theorem kQ_3 {M : sm_M} {x : Nat} (h : SH M) (hx : fQ x) : sm_K M (x + 3) 0 := by
  rcases hx with rfl | rfl | rfl | rfl
  · exact k_48 h
  · exact k_53 h
  · exact k_61 h
  · exact k_66 h
theorem lQ_3 {M : sm_M} {x : Nat} (h : SH M) (hx : fQ x) : sm_ln M (x + 3) = cQ x := by
  rcases hx with rfl | rfl | rfl | rfl
  · exact l_48 h
  · exact l_53 h
  · exact l_61 h
  · exact l_66 h
theorem aQ_3 {x : Nat} (hx : fQ x) : sA (x + 3) 0 (cQ x) := by
  rcases hx with rfl | rfl | rfl | rfl
  · exact a_48
  · exact a_53
  · exact a_61
  · exact a_66
theorem rQ_3 {M : sm_M} {x : Nat} (h : SH M) (hx : fQ x) : sm_rv M x 3 = some (x + 4) := by
  rcases hx with rfl | rfl | rfl | rfl
  · exact r_45_3 h
  · exact r_50_3 h
  · exact r_58_3 h
  · exact r_63_3 h
theorem kQ_4 {M : sm_M} {x : Nat} (h : SH M) (hx : fQ x) : sm_K M (x + 4) 0 := by
  rcases hx with rfl | rfl | rfl | rfl
  · exact k_49 h
  · exact k_54 h
  · exact k_62 h
  · exact k_67 h
theorem lQ_4 {M : sm_M} {x : Nat} (h : SH M) (hx : fQ x) : sm_ln M (x + 4) = cQ x := by
  rcases hx with rfl | rfl | rfl | rfl
  · exact l_49 h
  · exact l_54 h
  · exact l_62 h
  · exact l_67 h
theorem aQ_4 {x : Nat} (hx : fQ x) : sA (x + 4) 0 (cQ x) := by
  rcases hx with rfl | rfl | rfl | rfl
  · exact a_49
  · exact a_54
  · exact a_62
  · exact a_67
theorem kH_0 {M : sm_M} {x : Nat} (h : SH M) (hx : fH x) : sm_K M x 25 := by
  rcases hx with rfl | rfl
  · exact k_68 h
  · exact k_78 h
theorem rH_0 {M : sm_M} {x : Nat} (h : SH M) (hx : fH x) : sm_rv M x 0 = some (x + 1) := by
  rcases hx with rfl | rfl
  · exact r_68_0 h
  · exact r_78_0 h
theorem kH_1 {M : sm_M} {x : Nat} (h : SH M) (hx : fH x) : sm_K M (x + 1) 0 := by
  rcases hx with rfl | rfl
  · exact k_69 h
  · exact k_79 h
theorem lH_1 {M : sm_M} {x : Nat} (h : SH M) (hx : fH x) : sm_ln M (x + 1) = 4201 := by
  rcases hx with rfl | rfl
  · exact l_69 h
  · exact l_79 h
theorem aH_1 {x : Nat} (hx : fH x) : sA (x + 1) 0 4201 := by
  rcases hx with rfl | rfl
  · exact a_69
  · exact a_79
theorem rH_1 {M : sm_M} {x : Nat} (h : SH M) (hx : fH x) : sm_rv M x 1 = some (x + 2) := by
  rcases hx with rfl | rfl
  · exact r_68_1 h
  · exact r_78_1 h
theorem kH_2 {M : sm_M} {x : Nat} (h : SH M) (hx : fH x) : sm_K M (x + 2) 0 := by
  rcases hx with rfl | rfl
  · exact k_70 h
  · exact k_80 h
theorem lH_2 {M : sm_M} {x : Nat} (h : SH M) (hx : fH x) : sm_ln M (x + 2) = 4201 := by
  rcases hx with rfl | rfl
  · exact l_70 h
  · exact l_80 h
theorem aH_2 {x : Nat} (hx : fH x) : sA (x + 2) 0 4201 := by
  rcases hx with rfl | rfl
  · exact a_70
  · exact a_80
theorem rH_2 {M : sm_M} {x : Nat} (h : SH M) (hx : fH x) : sm_rv M x 2 = some (x + 3) := by
  rcases hx with rfl | rfl
  · exact r_68_2 h
  · exact r_78_2 h
theorem kH_3 {M : sm_M} {x : Nat} (h : SH M) (hx : fH x) : sm_K M (x + 3) 1 := by
  rcases hx with rfl | rfl
  · exact k_71 h
  · exact k_81 h
theorem lH_3 {M : sm_M} {x : Nat} (h : SH M) (hx : fH x) : sm_ln M (x + 3) = 4201 := by
  rcases hx with rfl | rfl
  · exact l_71 h
  · exact l_81 h
theorem aH_3 {x : Nat} (hx : fH x) : sA (x + 3) 1 4201 := by
  rcases hx with rfl | rfl
  · exact a_71
  · exact a_81
theorem rH_3 {M : sm_M} {x : Nat} (h : SH M) (hx : fH x) : sm_rv M x 3 = some (x + 4) := by
  rcases hx with rfl | rfl
  · exact r_68_3 h
  · exact r_78_3 h
theorem kH_4 {M : sm_M} {x : Nat} (h : SH M) (hx : fH x) : sm_K M (x + 4) 0 := by
  rcases hx with rfl | rfl
  · exact k_72 h
  · exact k_82 h
theorem lH_4 {M : sm_M} {x : Nat} (h : SH M) (hx : fH x) : sm_ln M (x + 4) = 4201 := by
  rcases hx with rfl | rfl
  · exact l_72 h
  · exact l_82 h
theorem aH_4 {x : Nat} (hx : fH x) : sA (x + 4) 0 4201 := by
  rcases hx with rfl | rfl
  · exact a_72
  · exact a_82
theorem rH_5 {M : sm_M} {x : Nat} (h : SH M) (hx : fH x) : sm_rv M x 5 = some (x + 5) := by
  rcases hx with rfl | rfl
  · exact r_68_5 h
  · exact r_78_5 h
theorem kH_5 {M : sm_M} {x : Nat} (h : SH M) (hx : fH x) : sm_K M (x + 5) 2 := by
  rcases hx with rfl | rfl
  · exact k_73 h
  · exact k_83 h
theorem lH_5 {M : sm_M} {x : Nat} (h : SH M) (hx : fH x) : sm_ln M (x + 5) = 300 := by
  rcases hx with rfl | rfl
  · exact l_73 h
  · exact l_83 h
theorem aH_5 {x : Nat} (hx : fH x) : sA (x + 5) 2 300 := by
  rcases hx with rfl | rfl
  · exact a_73
  · exact a_83
theorem rH_7 {M : sm_M} {x : Nat} (h : SH M) (hx : fH x) : sm_rv M x 7 = some (x + 6) := by
  rcases hx with rfl | rfl
  · exact r_68_7 h
  · exact r_78_7 h
theorem kH_6 {M : sm_M} {x : Nat} (h : SH M) (hx : fH x) : sm_K M (x + 6) 1 := by
  rcases hx with rfl | rfl
  · exact k_74 h
  · exact k_84 h
theorem lH_6 {M : sm_M} {x : Nat} (h : SH M) (hx : fH x) : sm_ln M (x + 6) = 1800 := by
  rcases hx with rfl | rfl
  · exact l_74 h
  · exact l_84 h
theorem aH_6 {x : Nat} (hx : fH x) : sA (x + 6) 1 1800 := by
  rcases hx with rfl | rfl
  · exact a_74
  · exact a_84
theorem rH_8 {M : sm_M} {x : Nat} (h : SH M) (hx : fH x) : sm_rv M x 8 = some (x + 7) := by
  rcases hx with rfl | rfl
  · exact r_68_8 h
  · exact r_78_8 h
theorem kH_7 {M : sm_M} {x : Nat} (h : SH M) (hx : fH x) : sm_K M (x + 7) 0 := by
  rcases hx with rfl | rfl
  · exact k_75 h
  · exact k_85 h
theorem lH_7 {M : sm_M} {x : Nat} (h : SH M) (hx : fH x) : sm_ln M (x + 7) = 60 := by
  rcases hx with rfl | rfl
  · exact l_75 h
  · exact l_85 h
theorem aH_7 {x : Nat} (hx : fH x) : sA (x + 7) 0 60 := by
  rcases hx with rfl | rfl
  · exact a_75
  · exact a_85
theorem rH_9 {M : sm_M} {x : Nat} (h : SH M) (hx : fH x) : sm_rv M x 9 = some (x + 8) := by
  rcases hx with rfl | rfl
  · exact r_68_9 h
  · exact r_78_9 h
theorem kH_8 {M : sm_M} {x : Nat} (h : SH M) (hx : fH x) : sm_K M (x + 8) 0 := by
  rcases hx with rfl | rfl
  · exact k_76 h
  · exact k_86 h
theorem lH_8 {M : sm_M} {x : Nat} (h : SH M) (hx : fH x) : sm_ln M (x + 8) = 60 := by
  rcases hx with rfl | rfl
  · exact l_76 h
  · exact l_86 h
theorem aH_8 {x : Nat} (hx : fH x) : sA (x + 8) 0 60 := by
  rcases hx with rfl | rfl
  · exact a_76
  · exact a_86
theorem rH_13 {M : sm_M} {x : Nat} (h : SH M) (hx : fH x) : sm_rv M x 13 = some (x + 9) := by
  rcases hx with rfl | rfl
  · exact r_68_13 h
  · exact r_78_13 h
theorem kH_9 {M : sm_M} {x : Nat} (h : SH M) (hx : fH x) : sm_K M (x + 9) 0 := by
  rcases hx with rfl | rfl
  · exact k_77 h
  · exact k_87 h
theorem lH_9 {M : sm_M} {x : Nat} (h : SH M) (hx : fH x) : sm_ln M (x + 9) = 4001 := by
  rcases hx with rfl | rfl
  · exact l_77 h
  · exact l_87 h
theorem aH_9 {x : Nat} (hx : fH x) : sA (x + 9) 0 4001 := by
  rcases hx with rfl | rfl
  · exact a_77
  · exact a_87
theorem kS_0 {M : sm_M} {x : Nat} (h : SH M) (hx : fS x) : sm_K M x 26 := by
  rcases hx with rfl | rfl
  · exact k_88 h
  · exact k_102 h
theorem rS_0 {M : sm_M} {x : Nat} (h : SH M) (hx : fS x) : sm_rv M x 0 = some (x + 1) := by
  rcases hx with rfl | rfl
  · exact r_88_0 h
  · exact r_102_0 h
theorem fS_1 {x : Nat} (hx : fS x) : fK (x + 1) := by
  rcases hx with rfl | rfl
  · exact fK_89
  · exact fK_103
theorem rS_7 {M : sm_M} {x : Nat} (h : SH M) (hx : fS x) : sm_rv M x 7 = some (x + 12) := by
  rcases hx with rfl | rfl
  · exact r_88_7 h
  · exact r_102_7 h
theorem kS_12 {M : sm_M} {x : Nat} (h : SH M) (hx : fS x) : sm_K M (x + 12) 0 := by
  rcases hx with rfl | rfl
  · exact k_100 h
  · exact k_114 h
theorem lS_12 {M : sm_M} {x : Nat} (h : SH M) (hx : fS x) : sm_ln M (x + 12) = 600 := by
  rcases hx with rfl | rfl
  · exact l_100 h
  · exact l_114 h
theorem aS_12 {x : Nat} (hx : fS x) : sA (x + 12) 0 600 := by
  rcases hx with rfl | rfl
  · exact a_100
  · exact a_114
theorem rS_8 {M : sm_M} {x : Nat} (h : SH M) (hx : fS x) : sm_rv M x 8 = some (x + 13) := by
  rcases hx with rfl | rfl
  · exact r_88_8 h
  · exact r_102_8 h
theorem kS_13 {M : sm_M} {x : Nat} (h : SH M) (hx : fS x) : sm_K M (x + 13) 2 := by
  rcases hx with rfl | rfl
  · exact k_101 h
  · exact k_115 h
theorem lS_13 {M : sm_M} {x : Nat} (h : SH M) (hx : fS x) : sm_ln M (x + 13) = 600 := by
  rcases hx with rfl | rfl
  · exact l_101 h
  · exact l_115 h
theorem aS_13 {x : Nat} (hx : fS x) : sA (x + 13) 2 600 := by
  rcases hx with rfl | rfl
  · exact a_101
  · exact a_115
theorem kK_0 {M : sm_M} {x : Nat} (h : SH M) (hx : fK x) : sm_K M x 27 := by
  rcases hx with rfl | rfl
  · exact k_89 h
  · exact k_103 h
theorem rK_0 {M : sm_M} {x : Nat} (h : SH M) (hx : fK x) : sm_rv M x 0 = some (x + 1) := by
  rcases hx with rfl | rfl
  · exact r_89_0 h
  · exact r_103_0 h
theorem kK_1 {M : sm_M} {x : Nat} (h : SH M) (hx : fK x) : sm_K M (x + 1) 1 := by
  rcases hx with rfl | rfl
  · exact k_90 h
  · exact k_104 h
theorem lK_1 {M : sm_M} {x : Nat} (h : SH M) (hx : fK x) : sm_ln M (x + 1) = 4000 := by
  rcases hx with rfl | rfl
  · exact l_90 h
  · exact l_104 h
theorem aK_1 {x : Nat} (hx : fK x) : sA (x + 1) 1 4000 := by
  rcases hx with rfl | rfl
  · exact a_90
  · exact a_104
theorem rK_2 {M : sm_M} {x : Nat} (h : SH M) (hx : fK x) : sm_rv M x 2 = some (x + 2) := by
  rcases hx with rfl | rfl
  · exact r_89_2 h
  · exact r_103_2 h
theorem kK_2 {M : sm_M} {x : Nat} (h : SH M) (hx : fK x) : sm_K M (x + 2) 0 := by
  rcases hx with rfl | rfl
  · exact k_91 h
  · exact k_105 h
theorem lK_2 {M : sm_M} {x : Nat} (h : SH M) (hx : fK x) : sm_ln M (x + 2) = 4001 := by
  rcases hx with rfl | rfl
  · exact l_91 h
  · exact l_105 h
theorem aK_2 {x : Nat} (hx : fK x) : sA (x + 2) 0 4001 := by
  rcases hx with rfl | rfl
  · exact a_91
  · exact a_105
theorem rK_4 {M : sm_M} {x : Nat} (h : SH M) (hx : fK x) : sm_rv M x 4 = some (x + 3) := by
  rcases hx with rfl | rfl
  · exact r_89_4 h
  · exact r_103_4 h
theorem kK_3 {M : sm_M} {x : Nat} (h : SH M) (hx : fK x) : sm_K M (x + 3) 0 := by
  rcases hx with rfl | rfl
  · exact k_92 h
  · exact k_106 h
theorem lK_3 {M : sm_M} {x : Nat} (h : SH M) (hx : fK x) : sm_ln M (x + 3) = 601 := by
  rcases hx with rfl | rfl
  · exact l_92 h
  · exact l_106 h
theorem aK_3 {x : Nat} (hx : fK x) : sA (x + 3) 0 601 := by
  rcases hx with rfl | rfl
  · exact a_92
  · exact a_106
theorem rK_5 {M : sm_M} {x : Nat} (h : SH M) (hx : fK x) : sm_rv M x 5 = some (x + 4) := by
  rcases hx with rfl | rfl
  · exact r_89_5 h
  · exact r_103_5 h
theorem kK_4 {M : sm_M} {x : Nat} (h : SH M) (hx : fK x) : sm_K M (x + 4) 0 := by
  rcases hx with rfl | rfl
  · exact k_93 h
  · exact k_107 h
theorem lK_4 {M : sm_M} {x : Nat} (h : SH M) (hx : fK x) : sm_ln M (x + 4) = 601 := by
  rcases hx with rfl | rfl
  · exact l_93 h
  · exact l_107 h
theorem aK_4 {x : Nat} (hx : fK x) : sA (x + 4) 0 601 := by
  rcases hx with rfl | rfl
  · exact a_93
  · exact a_107
theorem rK_6 {M : sm_M} {x : Nat} (h : SH M) (hx : fK x) : sm_rv M x 6 = some (x + 5) := by
  rcases hx with rfl | rfl
  · exact r_89_6 h
  · exact r_103_6 h
theorem kK_5 {M : sm_M} {x : Nat} (h : SH M) (hx : fK x) : sm_K M (x + 5) 0 := by
  rcases hx with rfl | rfl
  · exact k_94 h
  · exact k_108 h
theorem lK_5 {M : sm_M} {x : Nat} (h : SH M) (hx : fK x) : sm_ln M (x + 5) = 601 := by
  rcases hx with rfl | rfl
  · exact l_94 h
  · exact l_108 h
theorem aK_5 {x : Nat} (hx : fK x) : sA (x + 5) 0 601 := by
  rcases hx with rfl | rfl
  · exact a_94
  · exact a_108
theorem rK_7 {M : sm_M} {x : Nat} (h : SH M) (hx : fK x) : sm_rv M x 7 = some (x + 6) := by
  rcases hx with rfl | rfl
  · exact r_89_7 h
  · exact r_103_7 h
theorem kK_6 {M : sm_M} {x : Nat} (h : SH M) (hx : fK x) : sm_K M (x + 6) 0 := by
  rcases hx with rfl | rfl
  · exact k_95 h
  · exact k_109 h
theorem lK_6 {M : sm_M} {x : Nat} (h : SH M) (hx : fK x) : sm_ln M (x + 6) = 601 := by
  rcases hx with rfl | rfl
  · exact l_95 h
  · exact l_109 h
theorem aK_6 {x : Nat} (hx : fK x) : sA (x + 6) 0 601 := by
  rcases hx with rfl | rfl
  · exact a_95
  · exact a_109
theorem rK_8 {M : sm_M} {x : Nat} (h : SH M) (hx : fK x) : sm_rv M x 8 = some (x + 7) := by
  rcases hx with rfl | rfl
  · exact r_89_8 h
  · exact r_103_8 h
theorem kK_7 {M : sm_M} {x : Nat} (h : SH M) (hx : fK x) : sm_K M (x + 7) 2 := by
  rcases hx with rfl | rfl
  · exact k_96 h
  · exact k_110 h
theorem lK_7 {M : sm_M} {x : Nat} (h : SH M) (hx : fK x) : sm_ln M (x + 7) = 601 := by
  rcases hx with rfl | rfl
  · exact l_96 h
  · exact l_110 h
theorem aK_7 {x : Nat} (hx : fK x) : sA (x + 7) 2 601 := by
  rcases hx with rfl | rfl
  · exact a_96
  · exact a_110
theorem rK_9 {M : sm_M} {x : Nat} (h : SH M) (hx : fK x) : sm_rv M x 9 = some (x + 8) := by
  rcases hx with rfl | rfl
  · exact r_89_9 h
  · exact r_103_9 h
theorem kK_8 {M : sm_M} {x : Nat} (h : SH M) (hx : fK x) : sm_K M (x + 8) 2 := by
  rcases hx with rfl | rfl
  · exact k_97 h
  · exact k_111 h
theorem lK_8 {M : sm_M} {x : Nat} (h : SH M) (hx : fK x) : sm_ln M (x + 8) = 601 := by
  rcases hx with rfl | rfl
  · exact l_97 h
  · exact l_111 h
theorem aK_8 {x : Nat} (hx : fK x) : sA (x + 8) 2 601 := by
  rcases hx with rfl | rfl
  · exact a_97
  · exact a_111
theorem rK_10 {M : sm_M} {x : Nat} (h : SH M) (hx : fK x) : sm_rv M x 10 = some (x + 9) := by
  rcases hx with rfl | rfl
  · exact r_89_10 h
  · exact r_103_10 h
theorem kK_9 {M : sm_M} {x : Nat} (h : SH M) (hx : fK x) : sm_K M (x + 9) 2 := by
  rcases hx with rfl | rfl
  · exact k_98 h
  · exact k_112 h
theorem lK_9 {M : sm_M} {x : Nat} (h : SH M) (hx : fK x) : sm_ln M (x + 9) = 601 := by
  rcases hx with rfl | rfl
  · exact l_98 h
  · exact l_112 h
theorem aK_9 {x : Nat} (hx : fK x) : sA (x + 9) 2 601 := by
  rcases hx with rfl | rfl
  · exact a_98
  · exact a_112
theorem rK_11 {M : sm_M} {x : Nat} (h : SH M) (hx : fK x) : sm_rv M x 11 = some (x + 10) := by
  rcases hx with rfl | rfl
  · exact r_89_11 h
  · exact r_103_11 h
theorem kK_10 {M : sm_M} {x : Nat} (h : SH M) (hx : fK x) : sm_K M (x + 10) 2 := by
  rcases hx with rfl | rfl
  · exact k_99 h
  · exact k_113 h
theorem lK_10 {M : sm_M} {x : Nat} (h : SH M) (hx : fK x) : sm_ln M (x + 10) = 601 := by
  rcases hx with rfl | rfl
  · exact l_99 h
  · exact l_113 h
theorem aK_10 {x : Nat} (hx : fK x) : sA (x + 10) 2 601 := by
  rcases hx with rfl | rfl
  · exact a_99
  · exact a_113
theorem kN {M : sm_M} {x : Nat} (h : SH M) (hx : fN x) : x < M.1 ∧ sm_kd M x = 70 := by
  rcases hx with rfl | rfl | rfl | rfl
  · exact ⟨Nat.lt_of_lt_of_le (by decide) h.1, (h.2.1 1 (by decide)).trans rfl⟩
  · exact ⟨Nat.lt_of_lt_of_le (by decide) h.1, (h.2.1 3 (by decide)).trans rfl⟩
  · exact ⟨Nat.lt_of_lt_of_le (by decide) h.1, (h.2.1 5 (by decide)).trans rfl⟩
  · exact ⟨Nat.lt_of_lt_of_le (by decide) h.1, (h.2.1 7 (by decide)).trans rfl⟩
theorem kN1 {M : sm_M} {x : Nat} (h : SH M) (hx : fN x) : x + 1 < M.1 ∧ (61 ≤ sm_kd M (x + 1) ∧ sm_kd M (x + 1) < 65) := by
  rcases hx with rfl | rfl | rfl | rfl
  · exact ⟨Nat.lt_of_lt_of_le (by decide) h.1, by rw [h.2.1 2 (by decide)]; decide⟩
  · exact ⟨Nat.lt_of_lt_of_le (by decide) h.1, by rw [h.2.1 4 (by decide)]; decide⟩
  · exact ⟨Nat.lt_of_lt_of_le (by decide) h.1, by rw [h.2.1 6 (by decide)]; decide⟩
  · exact ⟨Nat.lt_of_lt_of_le (by decide) h.1, by rw [h.2.1 8 (by decide)]; decide⟩
theorem lN1 {M : sm_M} {x : Nat} (h : SH M) (hx : fN x) : sm_ln M (x + 1) = cN x := by
  rcases hx with rfl | rfl | rfl | rfl
  · exact h.L 2 5 rfl
  · exact h.L 4 4 rfl
  · exact h.L 6 4 rfl
  · exact h.L 8 4 rfl
theorem rN_0 {M : sm_M} {x : Nat} (h : SH M) (hx : fN x) : sm_rv M x 0 = some (x + 1) := by
  rcases hx with rfl | rfl | rfl | rfl
  · exact r_1_0 h
  · exact r_3_0 h
  · exact r_5_0 h
  · exact r_7_0 h
theorem SH.w23 {A : sm_M} (h : SH A) (k : Nat) (x : Option Nat) (hk : (Nat.ble 9 k && Nat.ble k 14) = true) : SH (sm_wR A 23 k x) := by
  refine ⟨h.1, h.2.1, h.2.2.1, fun q hq => ?_⟩
  rw [Bool.and_eq_true] at hk
  have h9 := Nat.le_of_ble_eq_true hk.1
  have h14 := Nat.le_of_ble_eq_true hk.2
  have hn : ¬ (q.1 = 23 ∧ q.2.1 = k) := by
    rintro ⟨e1, e2⟩
    have hz := of_decide_eq_true (List.all_eq_true.mp (show sRl.all (fun q => decide (q.1 = 23 → q.2.1 < 9 ∨ 14 < q.2.1)) = true from by decide +kernel) q hq) e1
    omega
  have h0 := h.2.2.2 q hq
  show va_up (sm_rv A) 23 (va_up (sm_rv A 23) k x) q.1 q.2.1 = _
  unfold va_up
  by_cases e1 : q.1 = 23
  · rw [if_pos e1]
    rw [if_neg (fun z => hn ⟨e1, z⟩), ← e1]
    exact h0
  · rw [if_neg e1]
    exact h0
theorem k0 {M : sm_M} (h : SH M) : 0 < M.1 ∧ (sm_kd M 0 < 16 ∨ (60 ≤ sm_kd M 0 ∧ sm_kd M 0 < 65)) := ⟨Nat.lt_of_lt_of_le (by decide) h.1, Or.inr (by rw [h.2.1 0 (by decide)]; decide)⟩
theorem k0a {M : sm_M} {i : Int32} (h : SH M) (hi : vp_in i (sm_ln M 0)) : sm_ai M 0 60 0 i := ⟨Nat.zero_le _, Nat.lt_of_lt_of_le (by decide) h.1, (h.2.1 0 (by decide)).trans rfl, hi⟩
theorem sm_cV.s {i : Nat} {as : List Value} {M : sm_M} {K : sm_M → Prop} (hq : sQ i = true) (hS : SH M) (h : sm_cV i as M (fun M2 => SH M2 → K M2)) : sm_cV i as M (fun M2 => SH M2 ∧ K M2) := (sm_cV.q hq h).mono fun M2 z => ⟨hS.sh z.1, z.2 (hS.sh z.1)⟩
theorem sm_cI.s {i : Nat} {as : List Value} {M : sm_M} {K : Int32 → sm_M → Prop} (hq : sQ i = true) (hS : SH M) (h : sm_cI i as M (fun v M2 => SH M2 → K v M2)) : sm_cI i as M (fun v M2 => SH M2 ∧ K v M2) := (sm_cI.q hq h).mono fun v M2 z => ⟨hS.sh z.1, z.2 (hS.sh z.1)⟩
theorem sm_cJ.s {i : Nat} {as : List Value} {M : sm_M} {K : Int64 → sm_M → Prop} (hq : sQ i = true) (hS : SH M) (h : sm_cJ i as M (fun v M2 => SH M2 → K v M2)) : sm_cJ i as M (fun v M2 => SH M2 ∧ K v M2) := (sm_cJ.q hq h).mono fun v M2 z => ⟨hS.sh z.1, z.2 (hS.sh z.1)⟩
theorem sm_xV.s {i : Nat} {as : List Value} {M : sm_M} {X : Nat → sm_M → Prop} {K : sm_M → Prop} (hq : sQ i = true) (hS : SH M) (h : sm_xV i as M X (fun M2 => SH M2 → K M2)) : sm_xV i as M X (fun M2 => SH M2 ∧ K M2) := (sm_xV.q hq h).mono (fun _ _ z => z) fun M2 z => ⟨hS.sh z.1, z.2 (hS.sh z.1)⟩
theorem sm_xI.s {i : Nat} {as : List Value} {M : sm_M} {X : Nat → sm_M → Prop} {K : Int32 → sm_M → Prop} (hq : sQ i = true) (hS : SH M) (h : sm_xI i as M X (fun v M2 => SH M2 → K v M2)) : sm_xI i as M X (fun v M2 => SH M2 ∧ K v M2) := (sm_xI.q hq h).mono (fun _ _ z => z) fun v M2 z => ⟨hS.sh z.1, z.2 (hS.sh z.1)⟩
theorem sm_xJ.s {i : Nat} {as : List Value} {M : sm_M} {X : Nat → sm_M → Prop} {K : Int64 → sm_M → Prop} (hq : sQ i = true) (hS : SH M) (h : sm_xJ i as M X (fun v M2 => SH M2 → K v M2)) : sm_xJ i as M X (fun v M2 => SH M2 ∧ K v M2) := (sm_xJ.q hq h).mono (fun _ _ z => z) fun v M2 z => ⟨hS.sh z.1, z.2 (hS.sh z.1)⟩
theorem sm_cV.s2 {i : Nat} {as : List Value} {M : sm_M} {K : sm_M → Prop} (hq : sQ i = true) (hS : SH M) (h : sm_cV i as M K) : sm_cV i as M (fun M2 => SH M2 ∧ K M2) := (sm_cV.q hq h).mono fun M2 z => ⟨hS.sh z.1, z.2⟩
theorem sm_cI.s2 {i : Nat} {as : List Value} {M : sm_M} {K : Int32 → sm_M → Prop} (hq : sQ i = true) (hS : SH M) (h : sm_cI i as M K) : sm_cI i as M (fun v M2 => SH M2 ∧ K v M2) := (sm_cI.q hq h).mono fun v M2 z => ⟨hS.sh z.1, z.2⟩
theorem sm_xV.s2 {i : Nat} {as : List Value} {M : sm_M} {X : Nat → sm_M → Prop} {K : sm_M → Prop} (hq : sQ i = true) (hS : SH M) (h : sm_xV i as M X K) : sm_xV i as M X (fun M2 => SH M2 ∧ K M2) := (sm_xV.q hq h).mono (fun _ _ z => z) fun M2 z => ⟨hS.sh z.1, z.2⟩
