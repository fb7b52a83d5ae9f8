/-! LINES: the kind measures one. -/
theorem cub {m : Nat} (h : m ≤ 100000) : 100 * m * m * m ≤ 100000000000000000 := by
  have a : 100 * m ≤ 100 * 100000 := Nat.mul_le_mul_left _ h
  have b : 100 * m * m ≤ 100 * 100000 * 100000 := Nat.mul_le_mul a h
  exact Nat.mul_le_mul b h
theorem bad_c {m : Nat} (h : m ≤ 100000) {r : Int64} (hr : r = Int64.ofNat m) : (if (10000 : Int64) < (((((100 : Int64) * r) * r) * r) / (1000000000 : Int64)) then (10000 : Int64) else (((((100 : Int64) * r) * r) * r) / (1000000000 : Int64))).toInt32 = Int32.ofNat (bdn m) := by
  have hc := cub h
  have e : ((((100 : Int64) * r) * r) * r) / (1000000000 : Int64) = Int64.ofNat (100 * m * m * m / 1000000000) := by
    rw [hr, show (100 : Int64) = Int64.ofNat 100 from rfl, show (1000000000 : Int64) = Int64.ofNat 1000000000 from rfl, j_mul, j_mul, j_mul, j_div (by omega) (by omega)]
  rw [e, show (10000 : Int64) = Int64.ofNat 10000 from rfl]
  have k : Int64.ofNat 10000 < Int64.ofNat (100 * m * m * m / 1000000000) ↔ 10000 < 100 * m * m * m / 1000000000 := j_lt (by omega) (by omega)
  unfold bdn
  by_cases c : 10000 < 100 * m * m * m / 1000000000
  · rw [if_pos (k.mpr c), if_pos c]; exact j_i32 (by omega)
  · rw [if_neg (mt k.mp c), if_neg c]; exact j_i32 (by omega)
theorem neg_neg32 {m : Nat} (h : m ≤ 100000) : -(-Int32.ofNat m) = Int32.ofNat m := by
  rw [z_eq, Int32.toInt_neg, Int32.toInt_neg, o_ti (by omega), z_bm (a := -(m : Int)) (by omega) (by omega), z_bm (by omega) (by omega)]
  omega
theorem neg_lt {m : Nat} (h : m ≤ 100000) (h1 : 1 ≤ m) : ¬ (0 : Int32) ≤ -Int32.ofNat m := by
  rw [z_le, Int32.toInt_neg, o_ti (by omega), z_bm (by omega) (by omega)]
  show ¬ (0 : Int) ≤ _
  omega
section MEAS
variable {D : Nat → Nat → Nat} {i j l : Nat}
theorem eM_pos (h : ¬ eN D i j ≤ eL D i) : 1 ≤ eM D i j := by
  unfold eM
  rw [if_neg h]
  split
  · omega
  · rename_i c
    have hz : 0 < eZ D i j := by omega
    exact (Nat.le_div_iff_mul_le hz).mpr (by omega)
theorem eX_c (hb : eN D i j ≤ 2000300500000 ∧ eL D i ≤ 1000000 ∧ 1000 ≤ eL D i ∧ eA D i j ≤ 300000000 ∧ eZ D i j ≤ 300000000) : (Int64.ofNat (eN D i j) - Int64.ofNat (eL D i) ≤ Int64.ofNat (eZ D i j)) ↔ ¬ eX D i j := by
  rw [y_le, y_sub, j_ti (by omega), j_ti (by omega), j_ti (by omega)]
  · unfold eX; omega
  · rw [j_ti (by omega), j_ti (by omega)]; omega
  · rw [j_ti (by omega), j_ti (by omega)]; omega
theorem P116 {M : sm_M} (hb : eN D i j ≤ 2000300500000 ∧ eL D i ≤ 1000000 ∧ 1000 ≤ eL D i ∧ eA D i j ≤ 300000000 ∧ eZ D i j ≤ 300000000) (h2 : jV M l 2 = Int64.ofNat (eN D i j)) (h3 : jV M l 3 = Int64.ofNat (eA D i j)) (h4 : jV M l 4 = Int64.ofNat (eZ D i j)) (h5 : jV M l 5 = Int64.ofNat (eL D i)) (h6 : iV M l 6 = 0 ↔ ¬ j = D 12 0) (h7 : iV M l 7 = 0 ↔ ¬ eX D i j) : p116_0 M l = eR D i j ∧ q116_0 M l := by
  have e0 : (0 : Int64) = Int64.ofNat 0 := rfl
  have e1 : (1 : Int64) = Int64.ofNat 1 := rfl
  have e3 : (1000 : Int64) = Int64.ofNat 1000 := rfl
  have e5 : (100000 : Int64) = Int64.ofNat 100000 := rfl
  constructor
  · have k1 : Int64.ofNat (eN D i j) ≤ Int64.ofNat (eL D i) ↔ eN D i j ≤ eL D i := j_le (by omega) (by omega)
    have k2 : Int64.ofNat (eN D i j) = Int64.ofNat (eL D i) ↔ eN D i j = eL D i := j_eq (by omega) (by omega)
    have k3 : Int64.ofNat (eA D i j) ≤ Int64.ofNat 0 ↔ eA D i j ≤ 0 := j_le (by omega) (by omega)
    have k4 : Int64.ofNat (eZ D i j) ≤ Int64.ofNat 0 ↔ eZ D i j ≤ 0 := j_le (by omega) (by omega)
    unfold p116_0 eR eM
    rw [h2, h3, h4, h5, e0, e1, e3, e5]
    by_cases c1 : eN D i j ≤ eL D i
    · have hx : iV M l 7 = 0 := h7.mpr (fun w => by unfold eX at w; omega)
      rw [if_pos hx, if_pos (k1.mpr c1), if_pos c1, if_pos c1]
      by_cases c2 : eN D i j = eL D i
      · rw [if_pos (k2.mpr c2), if_pos c2]; rfl
      · rw [if_neg (mt k2.mp c2), if_neg c2]
        by_cases c3 : j = D 12 0
        · rw [if_neg (fun w => h6.mp w c3), if_pos c3]; rfl
        · rw [if_pos (h6.mpr c3), if_neg c3]
          by_cases c4 : eA D i j = 0
          · rw [if_pos (k3.mpr (by omega)), if_pos c4]; rfl
          · have k5 : Int64.ofNat 100000 < Int64.ofNat ((eL D i - eN D i j) * 1000 / eA D i j) ↔ 100000 < (eL D i - eN D i j) * 1000 / eA D i j := j_lt (by omega) (Nat.lt_of_le_of_lt (Nat.div_le_self _ _) (by omega))
            rw [if_neg (mt k3.mp (by omega)), if_neg c4, j_sub c1, j_mul, j_div (by omega) (by omega)]
            by_cases c5 : 100000 < (eL D i - eN D i j) * 1000 / eA D i j
            · rw [if_pos (k5.mpr c5), if_pos c5]; exact j_i32 (by omega)
            · rw [if_neg (mt k5.mp c5), if_neg c5]; exact j_i32 (by omega)
    · rw [if_neg c1, if_neg c1]
      by_cases c2 : eZ D i j < eN D i j - eL D i
      · have hx : ¬ iV M l 7 = 0 := fun w => h7.mp w (by unfold eX; omega)
        rw [if_neg hx, if_pos c2]; rfl
      · have hx : iV M l 7 = 0 := h7.mpr (fun w => by unfold eX at w; omega)
        have hz : 0 < eZ D i j := by omega
        have hq : ((eN D i j - eL D i) * 1000 + eZ D i j - 1) / eZ D i j < 1001 := (Nat.div_lt_iff_lt_mul hz).mpr (by omega)
        rw [if_pos hx, if_neg (mt k1.mp c1), if_neg c2, if_neg (mt k4.mp (by omega)), j_sub (by omega), j_mul, j_add, j_sub (by omega), j_div (by omega) (by omega)]
        exact j_n32 (by omega)
  · unfold q116_0
    rw [h3, h4, e0, j_le (by omega) (by omega), j_le (by omega) (by omega), j_eq (by omega) (by omega), j_eq (by omega) (by omega)]
    exact ⟨fun _ => ⟨fun _ => ⟨fun _ => trivial, fun _ => ⟨fun _ => ⟨fun _ => trivial, fun c => by omega⟩, fun _ => trivial⟩⟩, fun _ => ⟨fun _ => trivial, fun c => by omega⟩⟩, fun _ => trivial⟩
theorem P117 {M : sm_M} (hm : eM D i j ≤ 100000) (h8 : iV M l 8 = eR D i j) (hx : ¬ eX D i j) : p117_0 M l = Int32.ofNat (eB D i j) := by
  unfold p117_0
  rw [h8]
  unfold eR eB
  by_cases c : eN D i j ≤ eL D i
  · rw [if_pos c, if_pos c, if_pos (Int32.not_lt.mp (o_nn (by omega)))]
    exact bad_c hm (j_i64 (by omega))
  · have hz : ¬ eZ D i j < eN D i j - eL D i := fun w => hx ⟨by omega, w⟩
    rw [if_neg c, if_neg c, if_neg (neg_lt hm (eM_pos c)), if_neg hz, neg_neg32 hm]
    exact bad_c hm (j_i64 (by omega))
theorem cls_c (hm : eM D i j ≤ 100000) : (if (-500 : Int32) ≤ (eR D i j) then (if (500 : Int32) < (eR D i j) then (if (1000 : Int32) < (eR D i j) then (3 : Int32) else (2 : Int32)) else (1 : Int32)) else (0 : Int32)) = Int32.ofNat (eC D i j) := by
  have a1 : (-500 : Int32).toInt = -500 := rfl
  have a2 : (500 : Int32).toInt = 500 := rfl
  have a3 : (1000 : Int32).toInt = 1000 := rfl
  unfold eR eC
  by_cases c : eN D i j ≤ eL D i
  · rw [if_pos c, if_pos c]
    have k1 : (-500 : Int32) ≤ Int32.ofNat (eM D i j) := by rw [z_le, o_ti (by omega), a1]; omega
    have k2 : (500 : Int32) < Int32.ofNat (eM D i j) ↔ 500 < eM D i j := by rw [z_lt, o_ti (by omega), a2]; omega
    have k3 : (1000 : Int32) < Int32.ofNat (eM D i j) ↔ 1000 < eM D i j := by rw [z_lt, o_ti (by omega), a3]; omega
    rw [if_pos k1]
    by_cases c1 : 500 < eM D i j
    · rw [if_pos (k2.mpr c1), if_pos c1]
      by_cases c2 : 1000 < eM D i j
      · rw [if_pos (k3.mpr c2), if_pos c2]; rfl
      · rw [if_neg (mt k3.mp c2), if_neg c2]; rfl
    · rw [if_neg (mt k2.mp c1), if_neg c1]; rfl
  · rw [if_neg c, if_neg c]
    have e9 : (-Int32.ofNat (eM D i j)).toInt = -(eM D i j : Int) := by rw [Int32.toInt_neg, o_ti (by omega), z_bm (by omega) (by omega)]
    have k1 : (-500 : Int32) ≤ -Int32.ofNat (eM D i j) ↔ eM D i j ≤ 500 := by rw [z_le, e9, a1]; omega
    have k2 : ¬ (500 : Int32) < -Int32.ofNat (eM D i j) := by rw [z_lt, e9, a2]; omega
    by_cases c1 : eM D i j ≤ 500
    · rw [if_pos (k1.mpr c1), if_neg k2, if_pos c1]; rfl
    · rw [if_neg (mt k1.mp c1), if_neg c1]; rfl
theorem P118 {M : sm_M} (hm : eM D i j ≤ 100000) (h8 : iV M l 8 = eR D i j) : p118_0 M l = Int32.ofNat (eC D i j) := by
  unfold p118_0
  rw [h8]
  exact cls_c hm
def pl7 (l : Nat) : Nat → Nat → Prop := fun a k => a = l ∧ 7 ≤ k
theorem s115 {M : sm_M} (hS : SH M) (hl : fL l) (hb : eN D i j ≤ 2000300500000 ∧ eL D i ≤ 1000000 ∧ 1000 ≤ eL D i ∧ eA D i j ≤ 300000000 ∧ eZ D i j ≤ 300000000) (hm : eM D i j ≤ 100000) (h2 : jV M l 2 = Int64.ofNat (eN D i j)) (h3 : jV M l 3 = Int64.ofNat (eA D i j)) (h4 : jV M l 4 = Int64.ofNat (eZ D i j)) (h5 : jV M l 5 = Int64.ofNat (eL D i)) (h6 : iV M l 6 = 0 ↔ ¬ j = D 12 0) : sm_cV 115 [.ref l] M (fun M2 => (iV M2 l 7 = 0 ↔ ¬ eX D i j) ∧ iV M2 l 8 = eR D i j ∧ iV M2 l 9 = Int32.ofNat (eB D i j) ∧ iV M2 l 10 = Int32.ofNat (eC D i j) ∧ Fr (pl7 l) M M2) := by
  refine g115_0 hS hl ?_
  rw [h2, h4, h5, eX_c hb]
  have main : ∀ (c : Int32) (M1 : sm_M), (c = 0 ↔ ¬ eX D i j) → M1 = sm_wI M l 7 c → p116_0 M1 l = eR D i j ∧ q116_0 M1 l := fun c M1 hc e1 => by
    refine P116 hb ?_ ?_ ?_ ?_ ?_ ?_
    · rw [e1]; exact h2
    · rw [e1]; exact h3
    · rw [e1]; exact h4
    · rw [e1]; exact h5
    · rw [e1, iV_wI, if_neg (by omega)]; exact h6
    · rw [e1, iV_wI, if_pos ⟨rfl, rfl⟩]; exact hc
  refine ⟨fun c M1 s1 e1 => ?_, fun c M1 s1 e1 => ?_⟩
  · obtain ⟨p1, p2⟩ := main 0 M1 ⟨fun _ => c, fun _ => rfl⟩ e1
    refine ⟨p2, fun M4 s4 e4 => ?_⟩
    rw [p1] at e4
    have v7 : iV M4 l 7 = 0 := by grind [iV_wI]
    have v8 : iV M4 l 8 = eR D i j := by grind [iV_wI]
    refine ⟨fun _ M6 s6 e6 M8 s8 e8 => ?_, fun c2 => absurd v7 c2⟩
    rw [P117 hm v8 c] at e6
    have w8 : iV M6 l 8 = eR D i j := by grind [iV_wI]
    rw [P118 hm w8] at e8
    refine ⟨?_, ?_, ?_, ?_, ?_⟩
    · exact ⟨fun _ => c, fun _ => by grind [iV_wI]⟩
    · grind [iV_wI]
    · grind [iV_wI]
    · grind [iV_wI]
    · rw [e8, e6, e4, e1]
      exact ((((Fr.rf _ M).wI ⟨rfl, by omega⟩).wI ⟨rfl, by omega⟩).wI ⟨rfl, by omega⟩).wI ⟨rfl, by omega⟩
  · have c := Classical.not_not.mp c
    obtain ⟨p1, p2⟩ := main 1 M1 ⟨fun w => absurd w (by decide), fun w => absurd c w⟩ e1
    refine ⟨p2, fun M4 s4 e4 => ?_⟩
    rw [p1] at e4
    have v7 : ¬ iV M4 l 7 = 0 := by grind [iV_wI]
    have v8 : iV M4 l 8 = eR D i j := by grind [iV_wI]
    refine ⟨fun c2 => absurd c2 v7, fun _ M6 s6 e6 M8 s8 e8 => ?_⟩
    have w8 : iV M6 l 8 = eR D i j := by grind [iV_wI]
    rw [P118 hm w8] at e8
    have e9 : eB D i j = 10000 := by
      unfold eX at c
      unfold eB
      rw [if_neg (by omega), if_pos (by omega)]
    refine ⟨?_, ?_, ?_, ?_, ?_⟩
    · exact ⟨fun w => absurd w (by grind [iV_wI]), fun w => absurd c w⟩
    · grind [iV_wI]
    · rw [e9]
      show _ = (10000 : Int32)
      grind [iV_wI]
    · grind [iV_wI]
    · rw [e8, e6, e4, e1]
      exact ((((Fr.rf _ M).wI ⟨rfl, by omega⟩).wI ⟨rfl, by omega⟩).wI ⟨rfl, by omega⟩).wI ⟨rfl, by omega⟩
end MEAS
