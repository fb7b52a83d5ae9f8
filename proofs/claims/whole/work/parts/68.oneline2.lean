/-! LINES: the reference measures one, its beginning. -/
section ONEL2
variable {D : Nat → Nat → Nat} {i j : Nat} {A : sm_M}
theorem s207_3 {M : sm_M} (hS : SH M) (hw : wK D) (hij : i < j) (hj : j ≤ D 12 0) (hK : mK M D) (h78 : jV M 116 78 = Int64.ofNat (eN D i j)) (h79 : jV M 116 79 = Int64.ofNat (eL D i)) (h80 : jV M 116 80 = Int64.ofNat (D 4 (j - 1) - D 4 i)) (h81 : jV M 116 81 = Int64.ofNat (D 5 (j - 1) - D 5 i)) (hA : Fr pm7 A M) : sm_w 207 (165, [some (.ref 116), none, some (.int (Int32.ofNat j)), none, none, none, none], []) M (rV (fun M2 => mLine M2 D i j ∧ Fr pm7 A M2)) := by
  have hn := hw.1
  have hb := lb hw hij hj
  have hm := eM_le hw hij hj
  have hk := (hK.2.2.1 j (by omega) hj).1
  have hk0 := hw.2.2.1 j hj
  have hk3 := (hw.2.2.2.1 j (by omega) hj).1
  have hal := hw.2.2.2.2.2
  refine g207_3 hS ?_
  rw [hK.2.2.2.2.2, o_eq0 (by omega)]
  refine ⟨fun c => ?_, fun c M1 s1 e1 M3 s3 e3 => ?_⟩
  · have hA2 : eA D i j = D 4 (j - 1) - D 4 i := by unfold eA; rw [if_pos c]
    have hZ : eZ D i j = D 5 (j - 1) - D 5 i := by unfold eZ; rw [if_pos c]
    exact s207_4 hS hb hm (by omega) hk ⟨hk0.2.2.2.2.2.2.2.2, hk3⟩ h78 h79 (by rw [hA2]; exact h80) (by rw [hZ]; exact h81) hA
  · have hA2 : eA D i j = eL D i := by unfold eA; rw [if_neg c]
    have hZ : eZ D i j = 0 := by unfold eZ; rw [if_neg c]
    refine s207_4 s3 hb hm (by omega) ?_ ⟨hk0.2.2.2.2.2.2.2.2, hk3⟩ ?_ ?_ ?_ ?_ (by rw [e3, e1]; exact (hA.wJ ⟨rfl, by omega, by omega⟩).wJ ⟨rfl, by omega, by omega⟩)
    · rw [e3, iV_wJ, e1, iV_wJ]; exact hk
    · rw [e3, jV_wJ, if_neg (by omega), e1, jV_wJ, if_neg (by omega)]; exact h78
    · rw [e3, jV_wJ, if_neg (by omega), e1, jV_wJ, if_neg (by omega)]; exact h79
    · rw [e3, jV_wJ, if_neg (by omega), e1, jV_wJ, if_pos ⟨rfl, rfl⟩, hA2]; exact h79
    · rw [e3, jV_wJ, if_pos ⟨rfl, rfl⟩, hZ]; rfl
theorem s207_2 {M : sm_M} {og a b : Int64} (hS : SH M) (hw : wK D) (hij : i < j) (hj : j ≤ D 12 0) (hK : mK M D) (ho : og = Int64.ofNat (if D 0 j = 0 then D 9 j else 0)) (hs : b + a = Int64.ofNat (eN D i j)) (hA : Fr pm7 A M) : sm_w 207 (70, [some (.ref 116), some (.int (Int32.ofNat i)), some (.int (Int32.ofNat j)), some (.long (og)), none, none, none], [.long (a), .long (b), .ref 116]) M (rV (fun M2 => mLine M2 D i j ∧ Fr pm7 A M2)) := by
  have hn := hw.1
  have mo := hw.2.1
  have m2 := mo i (j - 1) (by omega) (by omega)
  have hk0 := hw.2.2.1 j hj
  have hst := hw.2.2.2.1 j (by omega) hj
  have hw2 := hw
  obtain ⟨-, -, -, -, -, w1, w2, w3, w4⟩ := hw
  have in1 : vp_in (Int32.ofNat j) 602 := (o_in (by omega)).mpr (by omega)
  have in2 : vp_in (Int32.ofNat i) 602 := (o_in (by omega)).mpr (by omega)
  have hp7 : (∀ k, 60 ≤ k → k ≤ 63 → ¬ pm7 116 k) ∧ ∀ a k, 150 ≤ a → a ≤ 156 → ¬ pm7 a k := ⟨fun k z1 z2 => by unfold pm7; omega, fun a k z1 z2 => by unfold pm7; omega⟩
  refine g207_2 hS fun M1 s1 e1 => ⟨in1, in2, fun M5 s5 e5 => ⟨in1, in2, fun M9 s9 e9 M11 s11 e11 => ?_⟩⟩
  have f1 : Fr pm7 M M1 := by rw [e1]; exact (Fr.rf _ _).wJ ⟨rfl, by omega, by omega⟩
  have K1 := hK.fr f1 hp7
  have f5 : Fr pm7 M M5 := by rw [e5]; exact f1.wJ ⟨rfl, by omega, by omega⟩
  have K5 := hK.fr f5 hp7
  have f9 : Fr pm7 M M9 := by rw [e9]; exact f5.wJ ⟨rfl, by omega, by omega⟩
  have K9 := hK.fr f9 hp7
  have f11 : Fr pm7 M M11 := by rw [e11]; exact f9.wJ ⟨rfl, by omega, by omega⟩
  have K11 := hK.fr f11 hp7
  have od2 : og / (2 : Int64) = Int64.ofNat (if D 0 j = 0 then D 9 j / 2 else 0) := by
    rw [ho, show (2 : Int64) = Int64.ofNat 2 from rfl, j_div (by split <;> omega) (by omega)]
    split <;> rfl
  have od3 : og / (3 : Int64) = Int64.ofNat (if D 0 j = 0 then D 9 j / 3 else 0) := by
    rw [ho, show (3 : Int64) = Int64.ofNat 3 from rfl, j_div (by split <;> omega) (by omega)]
    split <;> rfl
  have v80 : ((jV M1 154 (Int32.ofNat j).toNatClampNeg) - og / (2 : Int64)) - (jV M1 154 (Int32.ofNat i).toNatClampNeg) = Int64.ofNat (D 4 (j - 1) - D 4 i) := by
    rw [o_cl (n := j) (by omega), o_cl (n := i) (by omega), (K1.2.1 j hj).2.2.1, (K1.2.1 i (by omega)).2.2.1, od2, j_sub (by omega), j_sub (by omega)]
    congr 1
    omega
  have v81 : ((jV M5 155 (Int32.ofNat j).toNatClampNeg) - og / (3 : Int64)) - (jV M5 155 (Int32.ofNat i).toNatClampNeg) = Int64.ofNat (D 5 (j - 1) - D 5 i) := by
    rw [o_cl (n := j) (by omega), o_cl (n := i) (by omega), (K5.2.1 j hj).2.2.2, (K5.2.1 i (by omega)).2.2.2, od3, j_sub (by omega), j_sub (by omega)]
    congr 1
    omega
  rw [hs] at e1
  rw [v80] at e5
  rw [v81] at e9
  have x78 : jV M11 116 78 = Int64.ofNat (eN D i j) := by rw [e11, jV_wJ, if_neg (by omega), e9, jV_wJ, if_neg (by omega), e5, jV_wJ, if_neg (by omega), e1, jV_wJ, if_pos ⟨rfl, rfl⟩]
  have x80 : jV M11 116 80 = Int64.ofNat (D 4 (j - 1) - D 4 i) := by rw [e11, jV_wJ, if_neg (by omega), e9, jV_wJ, if_neg (by omega), e5, jV_wJ, if_pos ⟨rfl, rfl⟩]
  have x81 : jV M11 116 81 = Int64.ofNat (D 5 (j - 1) - D 5 i) := by rw [e11, jV_wJ, if_neg (by omega), e9, jV_wJ, if_pos ⟨rfl, rfl⟩]
  rw [K9.2.2.2.1, j_i64 (by omega)] at e11
  rw [o_eq0 (by omega)]
  refine ⟨fun c M13 s13 e13 => ?_, fun c => ?_⟩
  · rw [K11.2.2.2.1, K11.2.2.2.2.1] at e13
    have ed : (Int32.ofNat (D 12 2) - Int32.ofNat (D 12 3)).toInt = (D 12 2 : Int) - D 12 3 := by
      rw [z_sub, o_ti (by omega), o_ti (by omega)]
      · rw [o_ti (by omega), o_ti (by omega)]; omega
      · rw [o_ti (by omega), o_ti (by omega)]; omega
    have f13 : Fr pm7 M M13 := by rw [e13]; exact f11.wJ ⟨rfl, by omega, by omega⟩
    have q13 : jV M13 116 79 = (Int32.ofNat (D 12 2) - Int32.ofNat (D 12 3)).toInt64 := by rw [e13, jV_wJ, if_pos ⟨rfl, rfl⟩]
    have kk : (1000 : Int64) ≤ jV M13 116 79 ↔ 1000 ≤ D 12 2 - D 12 3 := by
      rw [q13, y_le, Int32.toInt_toInt64, ed, show (1000 : Int64).toInt = 1000 from rfl]; omega
    rw [kk]
    refine ⟨fun c2 => ?_, fun c2 M15 s15 e15 => ?_⟩
    · refine s207_3 s13 hw2 hij hj (hK.fr f13 hp7) (by rw [e13, jV_wJ, if_neg (by omega)]; exact x78) ?_ (by rw [e13, jV_wJ, if_neg (by omega)]; exact x80) (by rw [e13, jV_wJ, if_neg (by omega)]; exact x81) (hA.tr f13)
      rw [q13]
      unfold eL
      rw [if_pos c, if_neg (by omega), y_eq, Int32.toInt_toInt64, ed, j_ti (by omega)]
      omega
    · have f15 : Fr pm7 M M15 := by rw [e15]; exact f13.wJ ⟨rfl, by omega, by omega⟩
      refine s207_3 s15 hw2 hij hj (hK.fr f15 hp7) (by rw [e15, jV_wJ, if_neg (by omega), e13, jV_wJ, if_neg (by omega)]; exact x78) ?_ (by rw [e15, jV_wJ, if_neg (by omega), e13, jV_wJ, if_neg (by omega)]; exact x80) (by rw [e15, jV_wJ, if_neg (by omega), e13, jV_wJ, if_neg (by omega)]; exact x81) (hA.tr f15)
      rw [e15, jV_wJ, if_pos ⟨rfl, rfl⟩]
      unfold eL
      rw [if_pos c, if_pos (by omega)]
      rfl
  · refine s207_3 s11 hw2 hij hj K11 x78 ?_ x80 x81 (hA.tr f11)
    rw [e11, jV_wJ, if_pos ⟨rfl, rfl⟩]
    unfold eL
    rw [if_neg c]
theorem s207 {M : sm_M} (hS : SH M) (hw : wK D) (hK : mK M D) (hij : i < j) (hj : j ≤ D 12 0) : sm_cV 207 [.ref 116, .int (Int32.ofNat i), .int (Int32.ofNat j)] M (fun M2 => mLine M2 D i j ∧ Fr pm7 M M2) := by
  have hn := hw.1
  have mo := hw.2.1
  have m1 := mo i j (by omega) hj
  have m2 := mo i (j - 1) (by omega) (by omega)
  have m3 := mo (j - 1) j (by omega) hj
  have hk0 := hw.2.2.1 j hj
  have hst := hw.2.2.2.1 j (by omega) hj
  have in1 : vp_in (Int32.ofNat j) 602 := (o_in (by omega)).mpr (by omega)
  have in2 : vp_in (Int32.ofNat i) 602 := (o_in (by omega)).mpr (by omega)
  obtain ⟨k1, k2, k3⟩ := hK.2.2.1 j (by omega) hj
  obtain ⟨a1, a2, a3, a4⟩ := hK.2.1 j hj
  obtain ⟨b1, b2, b3, b4⟩ := hK.2.1 i (by omega)
  have step : ∀ og : Int64, og = Int64.ofNat (if D 0 j = 0 then D 9 j else 0) → sm_w 207 (19, [some (.ref 116), some (.int (Int32.ofNat i)), some (.int (Int32.ofNat j)), none, none, none, none], [.long (og)]) M (rV (fun M2 => mLine M2 D i j ∧ Fr pm7 M M2)) := fun og ho => by
    refine g207_1 hS ⟨in1, in2, in1, in2, in1, ?_⟩
    have e1 : ((((jV M 152 (Int32.ofNat j).toNatClampNeg) - (jV M 152 (Int32.ofNat i).toNatClampNeg)) + (jV M 153 (Int32.ofNat j).toNatClampNeg)) - og) - (jV M 153 (Int32.ofNat i).toNatClampNeg) = Int64.ofNat ((D 2 j - D 2 i) + (D 3 (j - 1) - D 3 i)) := by
      rw [o_cl (n := j) (by omega), o_cl (n := i) (by omega), a1, a2, b1, b2, ho, j_sub m1.1, j_add, j_sub (by omega), j_sub (by omega)]
      congr 1
      omega
    rw [e1, o_cl (by omega), k1, k3, show (1 : Int32) = Int32.ofNat 1 from rfl, o_eq (by omega) (by omega)]
    refine ⟨fun c => ⟨in1, s207_2 hS hw hij hj hK ho ?_ (Fr.rf _ _)⟩, fun c => s207_2 hS hw hij hj hK ho ?_ (Fr.rf _ _)⟩
    · rw [j_add]
      unfold eN
      rw [hst.2.2.2.2.2, if_pos c]
    · rw [show (0 : Int64) = Int64.ofNat 0 from rfl, j_add]
      unfold eN
      rw [hst.2.2.2.2.2, if_neg c]
  refine g207_0 hS ?_
  rw [o_cl (by omega), k1, k3, o_eq0 (by omega)]
  exact ⟨in1, fun c => ⟨in1, step _ (by rw [if_pos c])⟩, fun c => step _ (by rw [if_neg c]; rfl)⟩
end ONEL2
