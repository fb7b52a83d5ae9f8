/-! SPOT: which glue, where a word begins. -/
def gb (D : Nat → Nat → Nat) (i w : Nat) : Nat := fs (fun b => D 7 b == D 7 i + w) (D 12 0 + 1) i
section SPOT
variable {D : Nat → Nat → Nat} {o i j w : Nat}
theorem D7_hit (hw : wK D) : ∀ d, i + d ≤ D 12 0 → D 7 i + w ≤ D 7 (i + d) → ∃ b, i ≤ b ∧ b ≤ i + d ∧ D 7 b = D 7 i + w
  | 0, h, h2 => ⟨i, Nat.le_refl _, Nat.le_refl _, by have h3 : D 7 (i + 0) = D 7 i := rfl; omega⟩
  | d + 1, h, h2 => by
    have h3 := (hw.2.2.2.1 (i + (d + 1)) (by omega) h).2.2.2.2.1
    rw [show i + (d + 1) - 1 = i + d from by omega] at h3
    by_cases c : D 7 i + w ≤ D 7 (i + d)
    · obtain ⟨b, b1, b2, b3⟩ := D7_hit hw d (by omega) c
      exact ⟨b, b1, by omega, b3⟩
    · refine ⟨i + (d + 1), by omega, Nat.le_refl _, ?_⟩
      split at h3 <;> omega
theorem gb_s (hw : wK D) (hij : i < j) (hj : j ≤ D 12 0) (hwd : w < wd D i j) : i ≤ gb D i w ∧ gb D i w < j ∧ D 7 (gb D i w) = D 7 i + w ∧ (∀ b, i ≤ b → b < gb D i w → D 7 b < D 7 i + w) ∧ (0 < w → i < gb D i w ∧ D 0 (gb D i w) = 0) := by
  have hn := hw.1
  unfold wd at hwd
  have hm := D7_mono hw (j - 1 - i) i (by omega)
  rw [show i + (j - 1 - i) = j - 1 from by omega] at hm
  obtain ⟨b, b1, b2, b3⟩ := D7_hit (i := i) (w := w) hw (j - 1 - i) (by omega) (by rw [show i + (j - 1 - i) = j - 1 from by omega]; omega)
  have g1 : i ≤ gb D i w := fs_ge (by omega)
  have no : ∀ k, i ≤ k → k < gb D i w → ¬ D 7 k = D 7 i + w := fun k k1 k2 h => by
    have := fs_no (p := fun b => D 7 b == D 7 i + w) (n := D 12 0 + 1) (i := i) (k := k) (by omega) k1 k2
    simp [h] at this
  have g2 : gb D i w ≤ b := by
    rcases Nat.lt_or_ge b (gb D i w) with z | z
    · exact absurd b3 (no b b1 z)
    · exact z
  have g3 : D 7 (gb D i w) = D 7 i + w := by
    have := fs_is (p := fun b => D 7 b == D 7 i + w) (n := D 12 0 + 1) (i := i) (by omega) (by show gb D i w < _; omega)
    simp at this
    exact this
  refine ⟨g1, by omega, g3, fun k k1 k2 => ?_, fun hw0 => ?_⟩
  · have h1 := D7_mono hw (gb D i w - k) k (by omega)
    rw [show k + (gb D i w - k) = gb D i w from by omega] at h1
    have h2 := no k k1 k2
    omega
  · have hne : gb D i w ≠ i := fun h => by rw [h] at g3; omega
    refine ⟨by omega, ?_⟩
    have h3 := (hw.2.2.2.1 (gb D i w) (by omega) (by omega)).2.2.2.2.1
    have h4 := no (gb D i w - 1) (by omega) (by omega)
    have h5 := D7_mono hw (gb D i w - 1 - i) i (by omega)
    rw [show i + (gb D i w - 1 - i) = gb D i w - 1 from by omega] at h5
    by_cases c : D 0 (gb D i w) = 0
    · exact c
    · rw [if_neg c] at h3; omega
theorem s141_1 {M : sm_M} (hS : SH M) (ho : fS o) (hw : wK D) (hK : cK M o D) (hij : i < j) (hj : j ≤ D 12 0) (hwd : w < wd D i j) (hw0 : 0 < w) : ∀ (d b : Nat), gb D i w - b = d → i < b → b ≤ gb D i w → sm_w 141 (4, [some (.ref (o + 1)), some (.int (Int32.ofNat i)), some (.int (Int32.ofNat w)), some (.int (Int32.ofNat b))], []) M (rI (fun v M2 => v = Int32.ofNat (gb D i w) ∧ M2 = M)) := by
  have hn := hw.1
  obtain ⟨g1, g2, g3, g4, g5⟩ := gb_s hw hij hj hwd
  have h7 := hw.2.2.1 (j - 1) (by omega)
  have h7i := hw.2.2.1 i (by omega)
  have hwl : w ≤ 600 := by unfold wd at hwd; omega
  intro d
  induction d with
  | zero =>
    intro b hd hb hbg
    have e : b = gb D i w := by omega
    subst e
    have hz := (g5 hw0).2
    obtain ⟨a1, -, a3, -⟩ := hK.2.1 (gb D i w) (by omega)
    obtain ⟨-, -, c3, -⟩ := hK.2.1 i (by omega)
    refine g141_1 hS (fS_1 ho) ?_
    rw [hK.1, o_cl (by omega), o_cl (by omega), a1, a3, c3, hz, g3, ← Int32.ofNat_sub _ _ (by omega)]
    refine ⟨fun c => absurd ((o_lt (by omega) (by omega)).mp c) (by omega), fun _ => ⟨(o_in (by omega)).mpr (by omega), fun _ => ⟨(o_in (by omega)).mpr (by omega), (o_in (by omega)).mpr (by omega), fun _ => ⟨rfl, rfl⟩, fun c => absurd (by congr 1; omega) c⟩, fun c => absurd rfl c⟩⟩
  | succ d ih =>
    intro b hd hb hbg
    obtain ⟨a1, -, a3, -⟩ := hK.2.1 b (by omega)
    obtain ⟨-, -, c3, -⟩ := hK.2.1 i (by omega)
    have hlt := g4 b (by omega) (by omega)
    have hmo := D7_mono hw (b - i) i (by omega)
    rw [show i + (b - i) = b from by omega] at hmo
    have hk := hw.2.2.1 b (by omega)
    refine g141_1 hS (fS_1 ho) ?_
    rw [hK.1, o_cl (by omega), o_cl (by omega), a1, a3, c3, ← Int32.ofNat_sub _ _ hmo, o_eq0 (by omega), o_eq (n := D 7 b - D 7 i) (m := w) (by omega) (by omega), o_s]
    have nx := ih (b + 1) (by omega) (by omega) (by omega)
    exact ⟨fun c => absurd ((o_lt (by omega) (by omega)).mp c) (by omega), fun _ => ⟨(o_in (by omega)).mpr (by omega), fun _ => ⟨(o_in (by omega)).mpr (by omega), (o_in (by omega)).mpr (by omega), fun c => by omega, fun _ => nx⟩, fun _ => nx⟩⟩
theorem s141 {M : sm_M} (hS : SH M) (ho : fS o) (hw : wK D) (hK : cK M o D) (hij : i < j) (hj : j ≤ D 12 0) (hwd : w < wd D i j) (hw0 : 0 < w) : sm_cI 141 [.ref (o + 1), .int (Int32.ofNat i), .int (Int32.ofNat w)] M (fun v M2 => v = Int32.ofNat (gb D i w) ∧ M2 = M) := by
  refine g141_0 hS (fS_1 ho) ?_
  rw [o_s]
  have g := (gb_s hw hij hj hwd).2.2.2.2 hw0
  exact s141_1 hS ho hw hK hij hj hwd hw0 _ (i + 1) rfl (by omega) (by omega)
/-- where the word behind glue b begins -/
noncomputable def sv (D : Nat → Nat → Nat) (i j b : Nat) : Int64 := if D 12 4 = 0 then (if eN D i j ≤ eL D i then (if j = D 12 0 then Int64.ofNat (bg D i j + ((D 2 b - D 2 i) + (D 3 b - D 3 i))) else if eA D i j = 0 then Int64.ofNat (bg D i j + ((D 2 b - D 2 i) + (D 3 b - D 3 i))) else Int64.ofNat (bg D i j + ((D 2 b - D 2 i) + (D 3 b - D 3 i))) + Int64.ofNat ((eL D i - eN D i j) * (D 4 b - D 4 i) / eA D i j)) else if eZ D i j < eN D i j - eL D i then Int64.ofNat (bg D i j + ((D 2 b - D 2 i) + (D 3 b - D 3 i))) - Int64.ofNat (D 5 b - D 5 i) else Int64.ofNat (bg D i j + ((D 2 b - D 2 i) + (D 3 b - D 3 i))) - Int64.ofNat ((eN D i j - eL D i) * (D 5 b - D 5 i) / eZ D i j)) else Int64.ofNat (bg D i j + ((D 2 b - D 2 i) + (D 3 b - D 3 i)))
theorem prod_b {a b c : Nat} (ha : a ≤ 300000000) (hb : b ≤ 300000000) : a * b < 9223372036854775808 ∧ a * b / c < 9223372036854775808 := by
  have h1 : a * b ≤ 300000000 * 300000000 := Nat.mul_le_mul ha hb
  have h2 : a * b / c ≤ a * b := Nat.div_le_self _ _
  omega
theorem s140 {M : sm_M} {l : Nat} (hS : SH M) (ho : fS o) (hl : fL l) (hw : wK D) (hK : cK M o D) (hij : i < j) (hj : j ≤ D 12 0) (hln : cLine M l D i j) (hwd : w < wd D i j) : sm_cJ 140 [.ref o, .ref l, .int (Int32.ofNat w)] M (fun v M2 => v = (if w = 0 then Int64.ofNat (bg D i j) else sv D i j (gb D i w)) ∧ M2 = M) := by
  have hn := hw.1
  have hb := lb hw hij hj
  obtain ⟨g1, g2, g3, g4, g5⟩ := gb_s hw hij hj hwd
  have h7 := hw.2.2.1 (j - 1) (by omega)
  have hwl : w ≤ 600 := by unfold wd at hwd; omega
  have mo := hw.2.1 i (gb D i w) g1 (by omega)
  have mb := hw.2.2.1 (gb D i w) (by omega)
  have hal := hw.2.2.2.2.2
  have hp := P136 hw hij hj hK hln
  obtain ⟨v0, v1, v2, v3, v4, v5, v6, v7, v8, v9, v10⟩ := hln
  refine g140_0 hS ho hl ⟨fun c => ?_, fun c => ?_⟩
  · have hw0 : 0 < w := (o_lt (n := 0) (by omega) (by omega)).mp c
    rw [v0]
    refine (s141 hS ho hw hK hij hj hwd hw0).mono fun v M1 k1 s1 => ?_
    obtain ⟨k11, k12⟩ := k1
    subst k12
    rw [k11, v0, hp, if_neg (by omega)]
    have in1 : vp_in (Int32.ofNat (gb D i w)) 601 := (o_in (by omega)).mpr (by omega)
    have in2 : vp_in (Int32.ofNat i) 601 := (o_in (by omega)).mpr (by omega)
    obtain ⟨-, -, -, a4, a5, a6, a7⟩ := hK.2.1 (gb D i w) (by omega)
    obtain ⟨-, -, -, c4, c5, c6, c7⟩ := hK.2.1 i (by omega)
    have e0 : (0 : Int64) = Int64.ofNat 0 := rfl
    have kA : Int64.ofNat 0 < Int64.ofNat (eA D i j) ↔ 0 < eA D i j := j_lt (by omega) (by omega)
    have kZ : Int64.ofNat 0 < Int64.ofNat (eZ D i j) ↔ 0 < eZ D i j := j_lt (by omega) (by omega)
    have kL : Int64.ofNat (eN D i j) ≤ Int64.ofNat (eL D i) ↔ eN D i j ≤ eL D i := j_le (by omega) (by omega)
    have kG : Int32.ofNat (D 12 4) = 0 ↔ D 12 4 = 0 := o_eq0 (by omega)
    refine ⟨in1, in2, in1, in2, ?_, ?_, rfl⟩
    · unfold q142_0
      rw [v0, v3, v4, e0]
      exact ⟨fun _ => ⟨fun _ => ⟨fun _ => ⟨fun q => ⟨in1, in2, fun w => by rw [w] at q; exact absurd q (Int64.lt_irrefl)⟩, fun _ => trivial⟩, fun _ => trivial⟩, fun _ => ⟨in1, in2, fun _ => ⟨fun q w => by rw [w] at q; exact absurd q (Int64.lt_irrefl), fun _ => trivial⟩, fun _ => trivial⟩⟩, fun _ => trivial⟩
    · have eb : Int64.ofNat (bg D i j) + ((((jV M1 (o + 1 + 7) (Int32.ofNat (gb D i w)).toNatClampNeg) - (jV M1 (o + 1 + 7) (Int32.ofNat i).toNatClampNeg)) + (jV M1 (o + 1 + 8) (Int32.ofNat (gb D i w)).toNatClampNeg)) - (jV M1 (o + 1 + 8) (Int32.ofNat i).toNatClampNeg)) = Int64.ofNat (bg D i j + ((D 2 (gb D i w) - D 2 i) + (D 3 (gb D i w) - D 3 i))) := by
        rw [o_cl (n := gb D i w) (by omega), o_cl (n := i) (by omega), a4, a5, c4, c5, j_sub mo.1, j_add, j_sub (by omega), j_add]
        congr 1
        omega
      rw [eb]
      generalize hB : bg D i j + ((D 2 (gb D i w) - D 2 i) + (D 3 (gb D i w) - D 3 i)) = B
      unfold p142_0 sv
      rw [hB, hK.2.2.2.2.2, v0, v2, v3, v4, v5, o_cl (n := gb D i w) (by omega), o_cl (n := i) (by omega), a6, c6, a7, c7, j_sub mo.2.2.1, j_sub mo.2.2.2, e0]
      have zz : Int64.ofNat B + Int64.ofNat 0 = Int64.ofNat B := j_add B 0
      by_cases q1 : D 12 4 = 0
      · rw [if_pos (kG.mpr q1), if_pos q1]
        by_cases q2 : eN D i j ≤ eL D i
        · rw [if_pos (kL.mpr q2), if_pos q2]
          by_cases q3 : j = D 12 0
          · rw [if_neg (fun w => v6.mp w q3), if_pos q3, zz]
          · rw [if_pos (v6.mpr q3), if_neg q3]
            by_cases q4 : eA D i j = 0
            · rw [if_neg (mt kA.mp (by omega)), if_pos q4, zz]
            · rw [if_pos (kA.mpr (by omega)), if_neg q4, j_sub q2, j_mul, j_div (prod_b (by omega) (by omega) (c := 1)).1 (by omega)]
        · rw [if_neg (mt kL.mp q2), if_neg q2]
          by_cases q3 : eZ D i j < eN D i j - eL D i
          · rw [if_neg (fun w => v7.mp w ⟨by omega, q3⟩), if_pos q3, Int64.sub_eq_add_neg]
          · rw [if_pos (v7.mpr (fun w => q3 w.2)), if_neg q3, if_pos (kZ.mpr (by omega)), j_sub (by omega), j_mul, j_div (prod_b (by omega) (by omega) (c := 1)).1 (by omega), Int64.sub_eq_add_neg]
      · rw [if_neg (mt kG.mp q1), if_neg q1, zz]
  · have hw0 : w = 0 := by
      have := mt (o_lt (n := 0) (m := w) (by omega) (by omega)).mpr c
      omega
    rw [if_pos hw0]
    exact ⟨hp, rfl⟩
end SPOT
