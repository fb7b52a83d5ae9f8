/-! LINES: what a line measures. D holds the rows of what is set: 0 kinds, 1 aheads, 2 .. 5 the sums of parts, glues, stretches, shrinks, 6 widths of hyphens, 7 counts of glues, 8 the text, 9 own widths, 10 ends of lines, 11 costs of lines; D 12: 0 breaks, 1 bytes, 2 width, 3 indent, 4 align, 5 taken, 6 cost, 7 lines, 8 widest. -/
theorem j_ti {n : Nat} (h : n < 9223372036854775808) : (Int64.ofNat n).toInt = (n : Int) := Int64.toInt_ofNat_of_lt h
theorem j_lt {n m : Nat} (hn : n < 9223372036854775808) (hm : m < 9223372036854775808) : Int64.ofNat n < Int64.ofNat m ↔ n < m := by
  rw [y_lt, j_ti hn, j_ti hm]; omega
theorem j_le {n m : Nat} (hn : n < 9223372036854775808) (hm : m < 9223372036854775808) : Int64.ofNat n ≤ Int64.ofNat m ↔ n ≤ m := by
  rw [y_le, j_ti hn, j_ti hm]; omega
theorem j_eq {n m : Nat} (hn : n < 9223372036854775808) (hm : m < 9223372036854775808) : Int64.ofNat n = Int64.ofNat m ↔ n = m := by
  rw [y_eq, j_ti hn, j_ti hm]; omega
theorem j_add (a b : Nat) : Int64.ofNat a + Int64.ofNat b = Int64.ofNat (a + b) := (Int64.ofNat_add a b).symm
theorem j_mul (a b : Nat) : Int64.ofNat a * Int64.ofNat b = Int64.ofNat (a * b) := (Int64.ofNat_mul a b).symm
theorem j_sub {a b : Nat} (h : b ≤ a) : Int64.ofNat a - Int64.ofNat b = Int64.ofNat (a - b) := (Int64.ofNat_sub a b h).symm
theorem j_div {a b : Nat} (ha : a < 9223372036854775808) (hb : b < 9223372036854775808) : Int64.ofNat a / Int64.ofNat b = Int64.ofNat (a / b) := by
  by_cases h0 : b = 0
  · subst h0
    rw [Nat.div_zero]
    exact Int64.div_zero
  · rw [y_eq, Int64.toInt_div_of_ne_right, j_ti ha, j_ti hb, j_ti (Nat.lt_of_le_of_lt (Nat.div_le_self _ _) ha), Int.tdiv_eq_ediv_of_nonneg (by omega)]
    · exact (Int.natCast_ediv a b).symm
    · intro e
      rw [y_eq, j_ti hb] at e
      have : (-1 : Int64).toInt = -1 := rfl
      omega
theorem j_i64 {n : Nat} (h : n < 2147483648) : (Int32.ofNat n).toInt64 = Int64.ofNat n := by
  rw [y_eq, Int32.toInt_toInt64, o_ti h, j_ti (by omega)]
theorem j_i32 {n : Nat} (h : n < 2147483648) : (Int64.ofNat n).toInt32 = Int32.ofNat n := by
  rw [z_eq, Int64.toInt_toInt32, j_ti (by omega), o_ti h, z_bm (by omega) (by omega)]
theorem j_n32 {n : Nat} (h : n < 2147483648) : (-Int64.ofNat n).toInt32 = -Int32.ofNat n := by
  rw [z_eq, Int64.toInt_toInt32, Int64.toInt_neg, j_ti (by omega), Int32.toInt_neg, o_ti h, y_bm (by omega) (by omega)]
def eN (D : Nat → Nat → Nat) (i j : Nat) : Nat := (D 2 j - D 2 i) + (D 3 (j - 1) - D 3 i) + D 6 j
def eL (D : Nat → Nat → Nat) (i : Nat) : Nat := if i = 0 then (if D 12 2 - D 12 3 < 1000 then 1000 else D 12 2 - D 12 3) else D 12 2
def eA (D : Nat → Nat → Nat) (i j : Nat) : Nat := if D 12 4 = 0 then D 4 (j - 1) - D 4 i else eL D i
def eZ (D : Nat → Nat → Nat) (i j : Nat) : Nat := if D 12 4 = 0 then D 5 (j - 1) - D 5 i else 0
/-- too long -/
def eX (D : Nat → Nat → Nat) (i j : Nat) : Prop := eL D i < eN D i j ∧ eZ D i j < eN D i j - eL D i
/-- the ratio without its sign, and with it -/
def eM (D : Nat → Nat → Nat) (i j : Nat) : Nat := if eN D i j ≤ eL D i then (if eN D i j = eL D i then 0 else if j = D 12 0 then 0 else if eA D i j = 0 then 100000 else if 100000 < (eL D i - eN D i j) * 1000 / eA D i j then 100000 else (eL D i - eN D i j) * 1000 / eA D i j) else if eZ D i j < eN D i j - eL D i then 1000 else ((eN D i j - eL D i) * 1000 + eZ D i j - 1) / eZ D i j
def eR (D : Nat → Nat → Nat) (i j : Nat) : Int32 := if eN D i j ≤ eL D i then Int32.ofNat (eM D i j) else -Int32.ofNat (eM D i j)
def bdn (m : Nat) : Nat := if 10000 < 100 * m * m * m / 1000000000 then 10000 else 100 * m * m * m / 1000000000
noncomputable def eB (D : Nat → Nat → Nat) (i j : Nat) : Nat := if eN D i j ≤ eL D i then bdn (eM D i j) else if eZ D i j < eN D i j - eL D i then 10000 else bdn (eM D i j)
def eC (D : Nat → Nat → Nat) (i j : Nat) : Nat := if eN D i j ≤ eL D i then (if 500 < eM D i j then (if 1000 < eM D i j then 3 else 2) else 1) else if eM D i j ≤ 500 then 1 else 0
/-- the breaks are breaks, the sums are sums -/
def wK (D : Nat → Nat → Nat) : Prop := (1 ≤ D 12 0 ∧ D 12 0 ≤ 600) ∧ (∀ i j, i ≤ j → j ≤ D 12 0 → D 2 i ≤ D 2 j ∧ D 3 i ≤ D 3 j ∧ D 4 i ≤ D 4 j ∧ D 5 i ≤ D 5 j) ∧ (∀ j, j ≤ D 12 0 → D 2 j ≤ 2000000000000 ∧ D 3 j ≤ 300000000 ∧ D 4 j ≤ 300000000 ∧ D 5 j ≤ 300000000 ∧ D 6 j ≤ 500000 ∧ D 9 j ≤ 500000 ∧ D 7 j ≤ 600 ∧ D 1 j ≤ 4000 ∧ D 0 j ≤ 3) ∧ (∀ j, 1 ≤ j → j ≤ D 12 0 → (D 0 j = 3 ↔ j = D 12 0) ∧ D 3 j = D 3 (j - 1) + (if D 0 j = 0 then D 9 j else 0) ∧ D 4 j = D 4 (j - 1) + (if D 0 j = 0 then D 9 j / 2 else 0) ∧ D 5 j = D 5 (j - 1) + (if D 0 j = 0 then D 9 j / 3 else 0) ∧ D 7 j = D 7 (j - 1) + (if D 0 j = 0 then 1 else 0) ∧ D 6 j = (if D 0 j = 1 then D 9 j else 0)) ∧ (D 0 0 = 0 ∧ D 1 0 = 0 ∧ D 2 0 = 0 ∧ D 3 0 = 0 ∧ D 4 0 = 0 ∧ D 5 0 = 0 ∧ D 7 0 = 0) ∧ (1000 ≤ D 12 2 ∧ D 12 2 ≤ 1000000 ∧ D 12 3 ≤ 500000 ∧ D 12 4 ≤ 3)
/-- the kind's breaks, at the setting o -/
def cK (M : sm_M) (o : Nat) (D : Nat → Nat → Nat) : Prop := iV M (o + 1) 3 = Int32.ofNat (D 12 0) ∧ (∀ b, b ≤ D 12 0 → iV M (o + 1 + 3) b = Int32.ofNat (D 0 b) ∧ iV M (o + 1 + 4) b = Int32.ofNat (D 1 b) ∧ iV M (o + 1 + 6) b = Int32.ofNat (D 7 b) ∧ jV M (o + 1 + 7) b = Int64.ofNat (D 2 b) ∧ jV M (o + 1 + 8) b = Int64.ofNat (D 3 b) ∧ jV M (o + 1 + 9) b = Int64.ofNat (D 4 b) ∧ jV M (o + 1 + 10) b = Int64.ofNat (D 5 b)) ∧ (∀ b, 1 ≤ b → b ≤ D 12 0 → iV M (o + 1 + 5) b = Int32.ofNat (D 6 b)) ∧ iV M o 1 = Int32.ofNat (D 12 2) ∧ iV M o 2 = Int32.ofNat (D 12 3) ∧ iV M o 3 = Int32.ofNat (D 12 4)
/-- the reference's breaks -/
def mK (M : sm_M) (D : Nat → Nat → Nat) : Prop := iV M 116 63 = Int32.ofNat (D 12 0) ∧ (∀ b, b ≤ D 12 0 → jV M 152 b = Int64.ofNat (D 2 b) ∧ jV M 153 b = Int64.ofNat (D 3 b) ∧ jV M 154 b = Int64.ofNat (D 4 b) ∧ jV M 155 b = Int64.ofNat (D 5 b)) ∧ (∀ b, 1 ≤ b → b ≤ D 12 0 → iV M 150 b = Int32.ofNat (D 0 b) ∧ iV M 151 b = Int32.ofNat (D 1 b) ∧ jV M 156 b = Int64.ofNat (D 9 b)) ∧ iV M 116 60 = Int32.ofNat (D 12 2) ∧ iV M 116 61 = Int32.ofNat (D 12 3) ∧ iV M 116 62 = Int32.ofNat (D 12 4)
/-- what measure leaves in the line l, what oneLine leaves -/
noncomputable def cLine (M : sm_M) (l : Nat) (D : Nat → Nat → Nat) (i j : Nat) : Prop := iV M l 0 = Int32.ofNat i ∧ iV M l 1 = Int32.ofNat j ∧ jV M l 2 = Int64.ofNat (eN D i j) ∧ jV M l 3 = Int64.ofNat (eA D i j) ∧ jV M l 4 = Int64.ofNat (eZ D i j) ∧ jV M l 5 = Int64.ofNat (eL D i) ∧ (iV M l 6 = 0 ↔ ¬ j = D 12 0) ∧ (iV M l 7 = 0 ↔ ¬ eX D i j) ∧ iV M l 8 = eR D i j ∧ iV M l 9 = Int32.ofNat (eB D i j) ∧ iV M l 10 = Int32.ofNat (eC D i j)
noncomputable def mLine (M : sm_M) (D : Nat → Nat → Nat) (i j : Nat) : Prop := jV M 116 78 = Int64.ofNat (eN D i j) ∧ jV M 116 80 = Int64.ofNat (eA D i j) ∧ jV M 116 81 = Int64.ofNat (eZ D i j) ∧ jV M 116 79 = Int64.ofNat (eL D i) ∧ (iV M 116 85 = 0 ↔ ¬ eX D i j) ∧ iV M 116 83 = eR D i j ∧ iV M 116 84 = Int32.ofNat (eB D i j)
theorem lb {D : Nat → Nat → Nat} (h : wK D) {i j : Nat} (hij : i < j) (hj : j ≤ D 12 0) : eN D i j ≤ 2000300500000 ∧ eL D i ≤ 1000000 ∧ 1000 ≤ eL D i ∧ eA D i j ≤ 300000000 ∧ eZ D i j ≤ 300000000 := by
  obtain ⟨h1, h2, h3, h4, h5, h6⟩ := h
  have a1 := h3 j hj
  have a2 := h3 (j - 1) (by omega)
  unfold eN eA eZ eL
  refine ⟨by omega, ?_, ?_, ?_, ?_⟩
  · split
    · split <;> omega
    · omega
  · split
    · split <;> omega
    · omega
  · split
    · omega
    · split
      · split <;> omega
      · omega
  · split <;> omega
theorem eM_le {D : Nat → Nat → Nat} (h : wK D) {i j : Nat} (hij : i < j) (hj : j ≤ D 12 0) : eM D i j ≤ 100000 := by
  have hb := lb h hij hj
  unfold eM
  split
  · split
    · omega
    · split
      · omega
      · split
        · omega
        · split <;> omega
  · split
    · omega
    · rename_i c1 c2
      have hz : 0 < eZ D i j := by omega
      have : ((eN D i j - eL D i) * 1000 + eZ D i j - 1) / eZ D i j < 1001 := (Nat.div_lt_iff_lt_mul hz).mpr (by omega)
      omega
theorem bdn_le (m : Nat) : bdn m ≤ 10000 := by
  unfold bdn
  split <;> omega
theorem eB_le (D : Nat → Nat → Nat) (i j : Nat) : eB D i j ≤ 10000 := by
  unfold eB
  have := bdn_le (eM D i j)
  split
  · exact this
  · split
    · omega
    · exact this
theorem eC_le (D : Nat → Nat → Nat) (i j : Nat) : eC D i j ≤ 3 := by
  unfold eC
  repeat' split
  all_goals omega
