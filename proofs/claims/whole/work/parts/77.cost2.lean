/-! COSTS of a line: the reference. -/
section COST2
variable {D : Nat → Nat → Nat} {i j g : Nat}
theorem P211 {M : sm_M} {b : Nat} (hw : wK D) (hb : b ≤ D 12 0) (hK : mK M D) : (p211_0 M (Int32.ofNat b) = 0 ↔ ¬ pt D b = true) ∧ q211_0 M (Int32.ofNat b) := by
  have hn := hw.1
  have hk := hw.2.2.1 b hb
  have hin : vp_in (Int32.ofNat b) 602 := (o_in (by omega)).mpr (by omega)
  have k0 : Int32.ofNat b ≤ 0 ↔ b = 0 := o_le0 (by omega)
  have k1 : Int32.ofNat (D 0 b) = (1 : Int32) ↔ D 0 b = 1 := o_eq (m := 1) (by omega) (by omega)
  have k2 : Int32.ofNat (D 0 b) = (2 : Int32) ↔ D 0 b = 2 := o_eq (m := 2) (by omega) (by omega)
  constructor
  · unfold p211_0
    by_cases c0 : b = 0
    · rw [if_pos (k0.mpr c0)]
      exact ⟨fun _ => by rw [c0]; exact pt_0, fun _ => rfl⟩
    · have hpi := pt_i (D := D) (i := b) (by omega)
      rw [if_neg (mt k0.mp c0), o_cl (by omega), (hK.2.2.1 b (by omega) hb).1]
      by_cases c1 : D 0 b = 1
      · rw [if_pos (k1.mpr c1)]
        exact ⟨fun z => absurd z (by decide), fun z => absurd (hpi.mpr (Or.inl c1)) z⟩
      · rw [if_neg (mt k1.mp c1)]
        by_cases c2 : D 0 b = 2
        · rw [if_pos (k2.mpr c2)]
          exact ⟨fun z => absurd z (by decide), fun z => absurd (hpi.mpr (Or.inr c2)) z⟩
        · rw [if_neg (mt k2.mp c2)]
          exact ⟨fun _ z => by have := hpi.mp z; omega, fun _ => rfl⟩
  · unfold q211_0
    exact ⟨fun _ => trivial, fun _ => ⟨hin, fun _ => trivial, fun _ => hin⟩⟩
theorem P209 {M : sm_M} (hm : eM D i j ≤ 100000) (h : mLine M D i j) : p209_0 M = Int32.ofNat (eC D i j) := by
  unfold p209_0
  rw [h.2.2.2.2.2.1]
  exact cls_c hm
theorem P210 {M : sm_M} (hw : wK D) (hij : i < j) (hj : j ≤ D 12 0) (hK : mK M D) (hln : mLine M D i j) (hg : g ≤ 3) : p210_0 M (Int32.ofNat i) (Int32.ofNat j) (Int32.ofNat g) = Int64.ofNat (alo D i j + beh D i j g) ∧ q210_0 M (Int32.ofNat i) (Int32.ofNat j) (Int32.ofNat g) := by
  have hn := hw.1
  have hb := lb hw hij hj
  have hm := eM_le hw hij hj
  have hB := eB_le D i j
  have hC := eC_le D i j
  have hsq := sq_b hB
  have hk := hw.2.2.1 j hj
  have hk3 := (hw.2.2.2.1 j (by omega) hj).1
  have h9 := P209 hm hln
  obtain ⟨v78, v80, v81, v79, v85, v83, v84⟩ := hln
  obtain ⟨x1, x2⟩ := P211 hw hj hK
  obtain ⟨w1, w2⟩ := P211 (b := i) hw (by omega) hK
  have inj : vp_in (Int32.ofNat j) 602 := (o_in (by omega)).mpr (by omega)
  have kj := (hK.2.2.1 j (by omega) hj).1
  have k1 : Int32.ofNat (D 0 j) = (1 : Int32) ↔ D 0 j = 1 := o_eq (m := 1) (by omega) (by omega)
  have k2 : Int32.ofNat (D 0 j) = (2 : Int32) ↔ D 0 j = 2 := o_eq (m := 2) (by omega) (by omega)
  have k3 : Int32.ofNat (D 0 j) = (3 : Int32) ↔ D 0 j = 3 := o_eq (m := 3) (by omega) (by omega)
  have ee : (Int32.ofNat (eC D i j) - Int32.ofNat g).toInt = (eC D i j : Int) - g := by
    rw [z_sub, o_ti (by omega), o_ti (by omega)]
    · rw [o_ti (by omega), o_ti (by omega)]; omega
    · rw [o_ti (by omega), o_ti (by omega)]; omega
  have kc1 : (1 : Int32) < Int32.ofNat (eC D i j) - Int32.ofNat g ↔ 1 < eC D i j - g := by
    rw [z_lt, ee, show (1 : Int32).toInt = 1 from rfl]; omega
  have kc2 : (-1 : Int32) ≤ Int32.ofNat (eC D i j) - Int32.ofNat g ↔ ¬ 1 < g - eC D i j := by
    rw [z_le, ee, show (-1 : Int32).toInt = -1 from rfl]; omega
  have ex : eZ D i j < eN D i j - eL D i → (((1000000000 : Int64) + (jV M 116 78)) - (jV M 116 81)) - (jV M 116 79) = Int64.ofNat (lng D i j) := fun cx => by
    unfold lng
    rw [v78, v81, v79, if_pos cx, show (1000000000 : Int64) = Int64.ofNat 1000000000 from rfl, j_add, j_sub (by omega), j_sub (by omega)]
  have e10 : (10000 : Int64) = Int64.ofNat 10000 := rfl
  have e5 : (5000 : Int64) = Int64.ofNat 5000 := rfl
  -- the end of the sum: what the end and a long line add
  have tl : ∀ c : Nat, (if (iV M 150 (Int32.ofNat j).toNatClampNeg) = (3 : Int32) then (if (p211_0 M (Int32.ofNat i)) = 0 then (if (iV M 116 85) = 0 then (Int64.ofNat c) else (Int64.ofNat c + ((((1000000000 : Int64) + (jV M 116 78)) - (jV M 116 81)) - (jV M 116 79)))) else (if (iV M 116 85) = 0 then (Int64.ofNat c + (5000 : Int64)) else ((Int64.ofNat c + (5000 : Int64)) + ((((1000000000 : Int64) + (jV M 116 78)) - (jV M 116 81)) - (jV M 116 79))))) else (if (iV M 116 85) = 0 then (Int64.ofNat c) else (Int64.ofNat c + ((((1000000000 : Int64) + (jV M 116 78)) - (jV M 116 81)) - (jV M 116 79))))) = Int64.ofNat (c + (if D 0 j = 3 then (if pt D i = true then 5000 else 0) else 0) + lng D i j) := fun c => by
    rw [o_cl (by omega), kj]
    by_cases cx : eZ D i j < eN D i j - eL D i
    · rw [ex cx, e5, j_add, j_add, j_add]
      have n85 : ¬ iV M 116 85 = 0 := fun z => v85.mp z (eX_i.mpr cx)
      rw [if_neg n85, if_neg n85]
      by_cases c3 : D 0 j = 3
      · rw [if_pos (k3.mpr c3), if_pos c3]
        by_cases cp : pt D i = true
        · rw [if_neg (mt w1.mp (fun z => z cp)), if_pos cp]
        · rw [if_pos (w1.mpr cp), if_neg cp]; rfl
      · rw [if_neg (mt k3.mp c3), if_neg c3]; rfl
    · have n85 : iV M 116 85 = 0 := v85.mpr (mt eX_i.mp cx)
      have l0 : lng D i j = 0 := by unfold lng; rw [if_neg cx]
      rw [if_pos n85, if_pos n85, l0, e5, j_add]
      by_cases c3 : D 0 j = 3
      · rw [if_pos (k3.mpr c3), if_pos c3]
        by_cases cp : pt D i = true
        · rw [if_neg (mt w1.mp (fun z => z cp)), if_pos cp]
        · rw [if_pos (w1.mpr cp), if_neg cp]; rfl
      · rw [if_neg (mt k3.mp c3), if_neg c3]; rfl
  have P4 : ∀ c : Nat, p210_4 M (Int32.ofNat i) (Int32.ofNat j) (Int64.ofNat c) = Int64.ofNat (c + 10000 + (if D 0 j = 3 then (if pt D i = true then 5000 else 0) else 0) + lng D i j) := fun c => by
    unfold p210_4
    rw [e10, j_add]
    exact tl (c + 10000)
  have P3 : ∀ c : Nat, p210_3 M (Int32.ofNat i) (Int32.ofNat j) (Int32.ofNat g) (Int64.ofNat c) = Int64.ofNat (c + beh D i j g + (if D 0 j = 3 then (if pt D i = true then 5000 else 0) else 0) + lng D i j) := fun c => by
    unfold p210_3 beh
    rw [h9]
    by_cases c1 : 1 < eC D i j - g
    · rw [if_pos (kc1.mpr c1), if_pos (Or.inl c1)]
      exact P4 c
    · rw [if_neg (mt kc1.mp c1)]
      by_cases c2 : 1 < g - eC D i j
      · rw [if_neg (mt kc2.mp (fun z => z c2)), if_pos (Or.inr c2)]
        exact P4 c
      · rw [if_pos (kc2.mpr c2), if_neg (show ¬ (1 < eC D i j - g ∨ 1 < g - eC D i j) by omega)]
        exact tl c
  have P2 : ∀ c : Nat, p210_2 M (Int32.ofNat i) (Int32.ofNat j) (Int32.ofNat g) (Int64.ofNat c) = Int64.ofNat (c + (if pt D i = true then (if pt D j = true then 3000 else 0) else 0) + beh D i j g + (if D 0 j = 3 then (if pt D i = true then 5000 else 0) else 0) + lng D i j) := fun c => by
    unfold p210_2
    by_cases cp : pt D i = true
    · rw [if_neg (mt w1.mp (fun z => z cp)), if_pos cp]
      by_cases cq : pt D j = true
      · rw [if_neg (mt x1.mp (fun z => z cq)), if_pos cq, show (3000 : Int64) = Int64.ofNat 3000 from rfl, j_add, P3, if_pos cp]
      · rw [if_pos (x1.mpr cq), if_neg cq, P3, if_pos cp]; rfl
    · rw [if_pos (w1.mpr cp), if_neg cp, P3, if_neg cp]; rfl
  have eq : ((10 : Int64) + (iV M 116 84).toInt64) * ((10 : Int64) + (iV M 116 84).toInt64) = Int64.ofNat ((10 + eB D i j) * (10 + eB D i j)) := by
    rw [v84, j_i64 (by omega), show (10 : Int64) = Int64.ofNat 10 from rfl, j_add, j_mul]
  have ptj := pt_i (D := D) (i := j) (by omega)
  constructor
  · unfold p210_0 p210_1
    rw [eq, o_cl (by omega), kj, show (2500 : Int64) = Int64.ofNat 2500 from rfl, show (900 : Int64) = Int64.ofNat 900 from rfl, j_add, j_add, j_add, P2, P2, P2, P2]
    unfold alo pen
    by_cases c1 : D 0 j = 1
    · rw [if_pos (k1.mpr c1), if_neg (mt k2.mp (by omega)), if_pos c1, if_pos (ptj.mpr (Or.inl c1)), if_neg (show ¬ D 0 j = 3 by omega)]
      congr 1
      split <;> omega
    · rw [if_neg (mt k1.mp c1), if_neg c1]
      by_cases c2 : D 0 j = 2
      · rw [if_pos (k2.mpr c2), if_pos c2, if_pos (ptj.mpr (Or.inr c2)), if_neg (show ¬ D 0 j = 3 by omega)]
        congr 1
        split <;> omega
      · rw [if_neg (mt k2.mp c2), if_neg c2, if_neg (show ¬ pt D j = true from fun z => by have := ptj.mp z; omega)]
        congr 1
        split <;> split <;> omega
  · have q4 : ∀ c : Int64, q210_4 M (Int32.ofNat i) (Int32.ofNat j) c := fun c => by
      unfold q210_4
      exact ⟨inj, fun _ => w2, fun _ => trivial⟩
    have q3 : ∀ c : Int64, q210_3 M (Int32.ofNat i) (Int32.ofNat j) (Int32.ofNat g) c := fun c => by
      unfold q210_3
      exact ⟨fun _ => q4 c, fun _ => ⟨fun _ => ⟨inj, fun _ => w2, fun _ => trivial⟩, fun _ => q4 c⟩⟩
    have q2 : ∀ c : Int64, q210_2 M (Int32.ofNat i) (Int32.ofNat j) (Int32.ofNat g) c := fun c => by
      unfold q210_2
      exact ⟨w2, fun _ => q3 c, fun _ => ⟨x2, fun _ => q3 c, fun _ => q3 _⟩⟩
    have q1 : ∀ c : Int64, q210_1 M (Int32.ofNat i) (Int32.ofNat j) (Int32.ofNat g) c := fun c => by
      unfold q210_1
      exact ⟨inj, fun _ => q2 _, fun _ => q2 _⟩
    unfold q210_0
    exact ⟨inj, fun _ => q1 _, fun _ => q1 _⟩
end COST2
