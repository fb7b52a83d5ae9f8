/-! COSTS of a line. -/
def pt (D : Nat → Nat → Nat) (b : Nat) : Bool := decide (1 ≤ b) && (D 0 b == 1 || D 0 b == 2)
def lng (D : Nat → Nat → Nat) (i j : Nat) : Nat := if eZ D i j < eN D i j - eL D i then 1000000000 + eN D i j - eZ D i j - eL D i else 0
def pen (D : Nat → Nat → Nat) (i j : Nat) : Nat := if D 0 j = 1 then (if pt D i = true then 5500 else 2500) else if D 0 j = 2 then (if pt D i = true then 3900 else 900) else if D 0 j = 3 then (if pt D i = true then 5000 else 0) else 0
noncomputable def alo (D : Nat → Nat → Nat) (i j : Nat) : Nat := (10 + eB D i j) * (10 + eB D i j) + pen D i j + lng D i j
def beh (D : Nat → Nat → Nat) (i j g : Nat) : Nat := if 1 < eC D i j - g ∨ 1 < g - eC D i j then 10000 else 0
theorem sq_b {m : Nat} (h : m ≤ 10000) : (10 + m) * (10 + m) ≤ 100200100 := by
  have : (10 + m) * (10 + m) ≤ 10010 * 10010 := Nat.mul_le_mul (by omega) (by omega)
  omega
section COST
variable {D : Nat → Nat → Nat} {o l i j g : Nat}
theorem eX_i : eX D i j ↔ eZ D i j < eN D i j - eL D i := by unfold eX; omega
theorem P122 {M : sm_M} {b : Nat} (hw : wK D) (hb : b ≤ D 12 0) (hK : cK M o D) : (p122_0 M (o + 1) (Int32.ofNat b) = 0 ↔ ¬ (D 0 b = 1 ∨ D 0 b = 2)) ∧ q122_0 M (o + 1) (Int32.ofNat b) := by
  have hn := hw.1
  have hk := hw.2.2.1 b hb
  have hin : vp_in (Int32.ofNat b) 601 := (o_in (by omega)).mpr (by omega)
  have k1 : Int32.ofNat (D 0 b) = (1 : Int32) ↔ D 0 b = 1 := o_eq (m := 1) (by omega) (by omega)
  have k2 : Int32.ofNat (D 0 b) = (2 : Int32) ↔ D 0 b = 2 := o_eq (m := 2) (by omega) (by omega)
  constructor
  · unfold p122_0
    rw [o_cl (by omega), (hK.2.1 b hb).1]
    by_cases c1 : D 0 b = 1
    · rw [if_pos (k1.mpr c1)]
      exact ⟨fun z => absurd z (by decide), fun z => absurd (Or.inl c1) z⟩
    · rw [if_neg (mt k1.mp c1)]
      by_cases c2 : D 0 b = 2
      · rw [if_pos (k2.mpr c2)]
        exact ⟨fun z => absurd z (by decide), fun z => absurd (Or.inr c2) z⟩
      · rw [if_neg (mt k2.mp c2)]
        exact ⟨fun _ z => by omega, fun _ => rfl⟩
  · unfold q122_0
    exact ⟨hin, fun _ => trivial, fun _ => hin⟩
theorem pt_i (hi : 1 ≤ i) : pt D i = true ↔ (D 0 i = 1 ∨ D 0 i = 2) := by
  unfold pt
  simp [hi]
theorem pt_0 : ¬ pt D 0 = true := by
  unfold pt
  simp
theorem P121 {M : sm_M} (hw : wK D) (hij : i < j) (hj : j ≤ D 12 0) (hK : cK M o D) (hln : cLine M l D i j) : p121_0 M o l = Int64.ofNat (alo D i j) ∧ q121_0 M o l := by
  have hn := hw.1
  have hb := lb hw hij hj
  have hB := eB_le D i j
  have hsq := sq_b hB
  have hk := hw.2.2.1 j hj
  have hk3 := (hw.2.2.2.1 j (by omega) hj).1
  obtain ⟨v0, v1, v2, v3, v4, v5, v6, v7, v8, v9, v10⟩ := hln
  obtain ⟨x1, x2⟩ := P122 hw hj hK
  obtain ⟨w1, w2⟩ := P122 (b := i) hw (by omega) hK
  have inj : vp_in (Int32.ofNat j) 601 := (o_in (by omega)).mpr (by omega)
  have k1 : Int32.ofNat (D 0 j) = (1 : Int32) ↔ D 0 j = 1 := o_eq (m := 1) (by omega) (by omega)
  have P3 : ∀ c : Nat, p121_3 M l (Int64.ofNat c) = Int64.ofNat (c + lng D i j) := fun c => by
    unfold p121_3 lng
    rw [v2, v4, v5]
    by_cases cx : eZ D i j < eN D i j - eL D i
    · rw [if_neg (fun z => v7.mp z (eX_i.mpr cx)), if_pos cx, show (1000000000 : Int64) = Int64.ofNat 1000000000 from rfl, j_add, j_sub (by omega), j_sub (by omega), j_add]
    · rw [if_pos (v7.mpr (mt eX_i.mp cx)), if_neg cx]
      rfl
  have P2 : ∀ (c : Nat) (s : Int32) (b : Bool), (s = 0 ↔ b = false) → p121_2 M o l (Int64.ofNat c) s = Int64.ofNat (c + (if D 0 j = 1 then (if b = true then 5500 else 2500) else if D 0 j = 2 then (if b = true then 3900 else 900) else if D 0 j = 3 then (if b = true then 5000 else 0) else 0) + lng D i j) := fun c s b hs => by
    unfold p121_2
    rw [v1, o_cl (n := j) (by omega), (hK.2.1 j hj).1, show (2500 : Int64) = Int64.ofNat 2500 from rfl, show (3000 : Int64) = Int64.ofNat 3000 from rfl, show (900 : Int64) = Int64.ofNat 900 from rfl, show (5000 : Int64) = Int64.ofNat 5000 from rfl, show (0 : Int64) = Int64.ofNat 0 from rfl]
    simp only [j_add, P3]
    have hs0 : b = true → ¬ s = 0 := fun h z => by rw [hs] at z; rw [h] at z; exact absurd z (by decide)
    have hs1 : ¬ b = true → s = 0 := fun h => hs.mpr (by simpa using h)
    by_cases c1 : D 0 j = 1
    · rw [if_neg (mt x1.mp (fun z => z (Or.inl c1))), if_pos (k1.mpr c1), if_pos c1]
      by_cases hb2 : b = true
      · rw [if_neg (hs0 hb2), if_pos hb2]
      · rw [if_pos (hs1 hb2), if_neg hb2]
    · by_cases c2 : D 0 j = 2
      · rw [if_neg (mt x1.mp (fun z => z (Or.inr c2))), if_neg (mt k1.mp c1), if_neg c1, if_pos c2]
        by_cases hb2 : b = true
        · rw [if_neg (hs0 hb2), if_pos hb2]
        · rw [if_pos (hs1 hb2), if_neg hb2]
      · rw [if_pos (x1.mpr (by omega)), if_neg c1, if_neg c2]
        by_cases c3 : D 0 j = 3
        · rw [if_neg (fun z => v6.mp z (hk3.mp c3)), if_pos c3]
          by_cases hb2 : b = true
          · rw [if_neg (hs0 hb2), if_pos hb2]
          · rw [if_pos (hs1 hb2), if_neg hb2]
            congr 1
        · rw [if_pos (v6.mpr (mt hk3.mpr c3)), if_neg c3]
          congr 1
  have eq : ((10 : Int64) + (iV M l 9).toInt64) * ((10 : Int64) + (iV M l 9).toInt64) = Int64.ofNat ((10 + eB D i j) * (10 + eB D i j)) := by
    rw [v9, j_i64 (by omega), show (10 : Int64) = Int64.ofNat 10 from rfl, j_add, j_mul]
  have q2 : ∀ (c : Int64) (s : Int32), q121_2 M o l c s := fun c s => by
    unfold q121_2
    rw [v1]
    exact ⟨x2, fun _ => trivial, fun _ => inj⟩
  constructor
  · unfold p121_0 p121_1
    rw [eq, v0]
    have k0 : Int32.ofNat i ≤ 0 ↔ i = 0 := o_le0 (by omega)
    by_cases c0 : i = 0
    · rw [if_pos (k0.mpr c0), P2 _ 0 false ⟨fun _ => rfl, fun _ => rfl⟩]
      unfold alo pen
      have : ¬ pt D i = true := by rw [c0]; exact pt_0
      simp only [this, if_false]
    · rw [if_neg (mt k0.mp c0)]
      have hpi := pt_i (D := D) (i := i) (by omega)
      by_cases c1 : D 0 i = 1 ∨ D 0 i = 2
      · rw [if_neg (mt w1.mp (fun z => z c1)), P2 _ 1 true ⟨fun z => absurd z (by decide), fun z => absurd z (by decide)⟩]
        unfold alo pen
        simp only [hpi.mpr c1, if_true]
      · rw [if_pos (w1.mpr c1), P2 _ 0 false ⟨fun _ => rfl, fun _ => rfl⟩]
        unfold alo pen
        have : ¬ pt D i = true := mt hpi.mp c1
        simp only [this, if_false]
  · unfold q121_0 q121_1
    rw [v0]
    exact ⟨fun _ => q2 _ _, fun _ => ⟨w2, fun _ => q2 _ _, fun _ => q2 _ _⟩⟩
theorem P123 {M : sm_M} (hg : g ≤ 3) (hln : cLine M l D i j) : p123_0 M o (Int32.ofNat g) l = Int64.ofNat (beh D i j g) := by
  have hC := eC_le D i j
  have v10 := hln.2.2.2.2.2.2.2.2.2.2
  unfold p123_0 beh
  rw [v10]
  have e : (Int32.ofNat (eC D i j) - Int32.ofNat g).toInt = (eC D i j : Int) - g := by
    rw [z_sub, o_ti (by omega), o_ti (by omega)]
    · rw [o_ti (by omega), o_ti (by omega)]; omega
    · rw [o_ti (by omega), o_ti (by omega)]; omega
  have z0 : (0 : Int32).toInt = 0 := rfl
  have z1 : (1 : Int32).toInt = 1 := rfl
  have k : (if 0 ≤ (Int32.ofNat (eC D i j) - Int32.ofNat g) then (Int32.ofNat (eC D i j) - Int32.ofNat g) else 0 - (Int32.ofNat (eC D i j) - Int32.ofNat g)) ≤ (1 : Int32) ↔ ¬ (1 < eC D i j - g ∨ 1 < g - eC D i j) := by
    by_cases c : g ≤ eC D i j
    · rw [if_pos (by rw [z_le, e, z0]; omega), z_le, e, z1]; omega
    · rw [if_neg (by rw [z_le, e, z0]; omega), z_le, z_sub, e, z1, z0]
      · omega
      · rw [e, z0]; omega
      · rw [e, z0]; omega
  by_cases c : 1 < eC D i j - g ∨ 1 < g - eC D i j
  · rw [if_neg (mt k.mp (fun z => z c)), if_pos c]; rfl
  · rw [if_pos (k.mpr c), if_neg c]; rfl
end COST
