/-! SET: how wide parts can be. -/
theorem sc_b {z : Nat} {v : Int32} {c : Int} (hz : z ≤ 100000) (h3 : -5000 ≤ v.toInt) (h4 : v.toInt ≤ 5000) : -500000 ≤ (sc z v).toInt ∧ (sc z v).toInt ≤ 500000 := by
  have hb := zmul_b (z := z) (v := v.toInt) (by omega) (by omega) h3 h4
  rw [sc_ti hz h3 h4]
  exact tdiv_b hb.1 hb.2
theorem sc_k {z : Nat} {v : Int32} (hz : z ≤ 100000) (h3 : -500 ≤ v.toInt) (h4 : v.toInt ≤ 500) : -50000 ≤ (sc z v).toInt ∧ (sc z v).toInt ≤ 50000 := by
  rw [sc_ti hz (by omega) (by omega)]
  have a1 : (z : Int) * (-500) ≤ z * v.toInt := Int.mul_le_mul_of_nonneg_left h3 (by omega)
  have a2 : (z : Int) * v.toInt ≤ z * 500 := Int.mul_le_mul_of_nonneg_left h4 (by omega)
  rcases Int.lt_or_le ((z : Int) * v.toInt) 0 with y | y
  · have e : ((z : Int) * v.toInt).tdiv 1000 = -((-((z : Int) * v.toInt)).tdiv 1000) := by rw [Int.neg_tdiv]; omega
    rw [e, Int.tdiv_eq_ediv_of_nonneg (by omega)]
    omega
  · rw [Int.tdiv_eq_ediv_of_nonneg y]
    omega
/-- the width of a sign, as a number -/
theorem sc_N {z v : Nat} (hz : z ≤ 100000) (hv : v ≤ 5000) : sc z (Int32.ofNat v) = Int64.ofNat (z * v / 1000) ∧ z * v / 1000 ≤ 500000 := by
  have h1 : z * v ≤ 100000 * 5000 := Nat.mul_le_mul hz hv
  refine ⟨?_, by omega⟩
  rw [y_eq, sc_ti hz (by rw [o_ti (by omega)]; omega) (by rw [o_ti (by omega)]; omega), o_ti (by omega), j_ti (by omega), Int.tdiv_eq_ediv_of_nonneg (by exact_mod_cast Nat.zero_le _)]
  rw [Int.natCast_ediv, Int.natCast_mul]
  rfl
section PWB
variable {a b : Nat} {x z w : Nat → Nat} {kf jf : Nat → Nat → Int32}
theorem pwF_b (hw : wF w kf jf) (hx : ∀ i, a ≤ i → i < b → x i < 128 ∧ z i ≤ 100000) (hb : b ≤ 8192) : ∀ (f k : Nat) (s : Int64) (C : Int), a ≤ k → -C ≤ s.toInt → s.toInt ≤ C → 0 ≤ C → C ≤ 100000000000 - 550000 * ((b - k : Nat) : Int) → -(C + 550000 * ((b - k : Nat) : Int)) ≤ (pwF a b x z w kf jf f k s).toInt ∧ (pwF a b x z w kf jf f k s).toInt ≤ C + 550000 * ((b - k : Nat) : Int)
  | 0, k, s, C, ha, h1, h2, h0, h3 => by
    unfold pwF
    omega
  | f + 1, k, s, C, ha, h1, h2, h0, h3 => by
    unfold pwF
    by_cases hk : k < b
    · rw [if_pos hk]
      obtain ⟨x1, z1⟩ := hx k ha hk
      have e1 : -(C + 50000) ≤ (kst a x z kf k s).toInt ∧ (kst a x z kf k s).toInt ≤ C + 50000 := by
        unfold kst
        split
        · have hs := sc_k z1 (hw.2.1 (x (k - 1)) (x k)).1 (hw.2.1 (x (k - 1)) (x k)).2
          rw [y_add (by omega) (by omega)]
          omega
        · omega
      split
      · rename_i hj
        have hs := sc_b (c := 0) z1 (v := jf (x k) (x (k + 1))) (by have := hw.2.2 (x k) (x (k + 1)); omega) (by have := hw.2.2 (x k) (x (k + 1)); omega)
        have e2 : (kst a x z kf k s + sc (z k) (jf (x k) (x (k + 1)))).toInt = (kst a x z kf k s).toInt + (sc (z k) (jf (x k) (x (k + 1)))).toInt := y_add (by omega) (by omega)
        have ih := pwF_b hw hx hb f (k + 2) (kst a x z kf k s + sc (z k) (jf (x k) (x (k + 1)))) (C + 550000) (by omega) (by omega) (by omega) (by omega) (by omega)
        omega
      · have hs := sc_b (c := 0) z1 (v := Int32.ofNat (w (x k))) (by have := hw.1 (x k) x1; rw [o_ti (by omega)]; omega) (by have := hw.1 (x k) x1; rw [o_ti (by omega)]; omega)
        have e2 : (kst a x z kf k s + sc (z k) (Int32.ofNat (w (x k)))).toInt = (kst a x z kf k s).toInt + (sc (z k) (Int32.ofNat (w (x k)))).toInt := y_add (by omega) (by omega)
        have ih := pwF_b hw hx hb f (k + 1) (kst a x z kf k s + sc (z k) (Int32.ofNat (w (x k)))) (C + 550000) (by omega) (by omega) (by omega) (by omega) (by omega)
        omega
    · rw [if_neg hk]
      omega
def pwN (a b : Nat) (x z w : Nat → Nat) (kf jf : Nat → Nat → Int32) : Nat := (pwd a b x z w kf jf).toInt.toNat
theorem pwN_b (hw : wF w kf jf) (hx : ∀ i, a ≤ i → i < b → x i < 128 ∧ z i ≤ 100000) (hb : b ≤ 8192) : pwd a b x z w kf jf = Int64.ofNat (pwN a b x z w kf jf) ∧ pwN a b x z w kf jf ≤ 550000 * (b - a) := by
  have h := pwF_b hw hx hb (b - a) a 0 0 (Nat.le_refl _) (by decide) (by decide) (by decide) (by omega)
  have e0 : (0 : Int64).toInt = 0 := rfl
  have hp : 0 ≤ (pwd a b x z w kf jf).toInt ∧ (pwd a b x z w kf jf).toInt ≤ 550000 * ((b - a : Nat) : Int) := by
    unfold pwd
    split
    · rename_i h0
      rw [y_lt, e0] at h0
      omega
    · rw [e0]
      omega
  unfold pwN
  refine ⟨?_, by omega⟩
  rw [y_eq, j_ti (by omega)]
  omega
end PWB
/-- the kind of the break at a place -/
def uk (H : Nat → Bool) (pb : Nat → Nat) (pn p : Nat) : Nat := if p = pn then 3 else if pb p = 32 then 0 else if H p = true then 1 else if 0 < p ∧ pb (p - 1) = 45 then 2 else 4
def uW (pn : Nat) (pb ps w : Nat → Nat) (kf jf : Nat → Nat → Int32) (a b : Nat) : Nat := if a ≤ b ∧ b ≤ pn then pwN a b pb ps w kf jf else 0
def ug (pn : Nat) (ps w : Nat → Nat) (p : Nat) : Nat := if p < pn then ps p * w 32 / 1000 else 0
def uh (pn : Nat) (ps w : Nat → Nat) (p : Nat) : Nat := if p - 1 < pn then ps (p - 1) * w 45 / 1000 else 0
section SETN
variable {pb ps w : Nat → Nat} {kf jf : Nat → Nat → Int32} {pn pw : Nat} {H : Nat → Bool}
theorem uW_b (hP : wP pb ps pn pw) (hw : wF w kf jf) (a b : Nat) (h : a ≤ b) : uW pn pb ps w kf jf a b ≤ 550000 * (b - a) := by
  unfold uW
  split
  · have hn := hP.1
    exact (pwN_b hw (fun i h1 h2 => by have := hP.2.1 i (by omega); omega) (by omega)).2
  · omega
theorem ug_b (hP : wP pb ps pn pw) (hw : wF w kf jf) (p : Nat) : ug pn ps w p ≤ 500000 := by
  unfold ug
  split
  · exact (sc_N (by have := hP.2.1 p (by omega); omega) (hw.1 32 (by omega))).2
  · omega
theorem uh_b (hP : wP pb ps pn pw) (hw : wF w kf jf) (p : Nat) : uh pn ps w p ≤ 500000 := by
  unfold uh
  split
  · exact (sc_N (by have := hP.2.1 (p - 1) (by omega); omega) (hw.1 45 (by omega))).2
  · omega
theorem uk_3 (q : Nat) : (uk H pb pn q = 3 ↔ q = pn) ∧ uk H pb pn q ≤ 4 := by
  unfold uk
  split
  · exact ⟨⟨fun _ => by assumption, fun _ => rfl⟩, by omega⟩
  · split
    · exact ⟨⟨fun e => by omega, fun e => by omega⟩, by omega⟩
    · split
      · exact ⟨⟨fun e => by omega, fun e => by omega⟩, by omega⟩
      · split <;> exact ⟨⟨fun e => by omega, fun e => by omega⟩, by omega⟩
theorem pwd_uW (hP : wP pb ps pn pw) (hw : wF w kf jf) {a b : Nat} (h : a ≤ b) (hb : b ≤ pn) : pwd a b pb ps w kf jf = Int64.ofNat (uW pn pb ps w kf jf a b) := by
  have hn := hP.1
  unfold uW
  rw [if_pos ⟨h, hb⟩]
  exact (pwN_b hw (fun i h1 h2 => by have := hP.2.1 i (by omega); omega) (by omega)).1
end SETN
