/-! LINES: the reference measures one. -/
theorem mK.fr {M M2 : sm_M} {D : Nat → Nat → Nat} {p : Nat → Nat → Prop} (h : mK M D) (f : Fr p M M2) (hp : (∀ k, 60 ≤ k → k ≤ 63 → ¬ p 116 k) ∧ ∀ a k, 150 ≤ a → a ≤ 156 → ¬ p a k) : mK M2 D := by
  obtain ⟨h1, h2, h3, h4, h5, h6⟩ := h
  have e0 : ∀ k, 60 ≤ k → k ≤ 63 → iV M2 116 k = iV M 116 k := fun k z1 z2 => f.2.1 116 k (hp.1 k z1 z2)
  have ei : ∀ a k, 150 ≤ a → a ≤ 156 → iV M2 a k = iV M a k := fun a k z1 z2 => f.2.1 a k (hp.2 a k z1 z2)
  have ej : ∀ a k, 150 ≤ a → a ≤ 156 → jV M2 a k = jV M a k := fun a k z1 z2 => f.2.2 a k (hp.2 a k z1 z2)
  refine ⟨by rw [e0 _ (by omega) (by omega)]; exact h1, fun b hb => ?_, fun b h0 hb => ?_, by rw [e0 _ (by omega) (by omega)]; exact h4, by rw [e0 _ (by omega) (by omega)]; exact h5, by rw [e0 _ (by omega) (by omega)]; exact h6⟩
  · rw [ej _ _ (by omega) (by omega), ej _ _ (by omega) (by omega), ej _ _ (by omega) (by omega), ej _ _ (by omega) (by omega)]
    exact h2 b hb
  · rw [ei _ _ (by omega) (by omega), ei _ _ (by omega) (by omega), ej _ _ (by omega) (by omega)]
    exact h3 b h0 hb
def pm7 : Nat → Nat → Prop := fun a k => a = 116 ∧ 78 ≤ k ∧ k ≤ 85
theorem lst_c {a q : Int64} : (if a ≤ q then a else q) = if a < q then a else q := by
  by_cases c : a < q
  · rw [if_pos c, if_pos (Int64.le_of_lt c)]
  · rw [if_neg c]
    by_cases d : a ≤ q
    · rw [if_pos d]; exact Int64.le_antisymm d (Int64.not_lt.mp c)
    · rw [if_neg d]
section ONEL
variable {D : Nat → Nat → Nat} {i j : Nat} {A : sm_M}
theorem s207_5 {M : sm_M} (hS : SH M) (hm : eM D i j ≤ 100000) (h78 : jV M 116 78 = Int64.ofNat (eN D i j)) (h79 : jV M 116 79 = Int64.ofNat (eL D i)) (h80 : jV M 116 80 = Int64.ofNat (eA D i j)) (h81 : jV M 116 81 = Int64.ofNat (eZ D i j)) (h85 : iV M 116 85 = 0 ↔ ¬ eX D i j) (h83 : iV M 116 83 = eR D i j) (hA : Fr pm7 A M) : sm_w 207 (354, [some (.ref 116), none, none, none, none, none, none], []) M (rV (fun M2 => mLine M2 D i j ∧ Fr pm7 A M2)) := by
  have done : ∀ (c : Int32) (M1 : sm_M), M1 = sm_wI M 116 84 c → c = Int32.ofNat (eB D i j) → mLine M1 D i j ∧ Fr pm7 A M1 := fun c M1 e1 hc => by
    refine ⟨⟨?_, ?_, ?_, ?_, ?_, ?_, ?_⟩, by rw [e1]; exact hA.wI ⟨rfl, by omega, by omega⟩⟩
    · rw [e1]; exact h78
    · rw [e1]; exact h80
    · rw [e1]; exact h81
    · rw [e1]; exact h79
    · rw [e1, iV_wI, if_neg (by omega)]; exact h85
    · rw [e1, iV_wI, if_neg (by omega)]; exact h83
    · rw [e1, iV_wI, if_pos ⟨rfl, rfl⟩]; exact hc
  have long : ¬ iV M 116 85 = 0 → eB D i j = 10000 := fun c => by
    have hx : eX D i j := Classical.not_not.mp (fun w => c (h85.mpr w))
    unfold eX at hx
    unfold eB
    rw [if_neg (by omega), if_pos hx.2]
  refine g207_5 hS ?_
  rw [h83]
  by_cases c : eN D i j ≤ eL D i
  · have hr : eR D i j = Int32.ofNat (eM D i j) := by unfold eR; rw [if_pos c]
    have hB : eB D i j = bdn (eM D i j) := by unfold eB; rw [if_pos c]
    rw [hr]
    refine ⟨fun _ => ⟨fun c2 M1 s1 e1 => done _ M1 e1 ?_, fun c2 M3 s3 e3 => done _ M3 e3 ?_⟩, fun c2 => absurd (Int32.not_lt.mp (o_nn (by omega))) c2⟩
    · unfold p208_0
      rw [lst_c, hB]
      exact bad_c hm (j_i64 (by omega))
    · rw [long c2]; rfl
  · have hr : eR D i j = -Int32.ofNat (eM D i j) := by unfold eR; rw [if_neg c]
    rw [hr, neg_neg32 hm]
    refine ⟨fun c2 => absurd c2 (neg_lt hm (eM_pos c)), fun _ => ⟨fun c2 M1 s1 e1 => done _ M1 e1 ?_, fun c2 M3 s3 e3 => done _ M3 e3 ?_⟩⟩
    · have hz : ¬ eZ D i j < eN D i j - eL D i := fun w => h85.mp c2 ⟨by omega, w⟩
      have hB : eB D i j = bdn (eM D i j) := by unfold eB; rw [if_neg c, if_neg hz]
      unfold p208_0
      rw [lst_c, hB]
      exact bad_c hm (j_i64 (by omega))
    · rw [long c2]; rfl
theorem s207_4 {M : sm_M} (hS : SH M) (hb : eN D i j ≤ 2000300500000 ∧ eL D i ≤ 1000000 ∧ 1000 ≤ eL D i ∧ eA D i j ≤ 300000000 ∧ eZ D i j ≤ 300000000) (hm : eM D i j ≤ 100000) (hj : 1 ≤ j ∧ j ≤ D 12 0 ∧ D 12 0 ≤ 600) (hk : iV M 150 j = Int32.ofNat (D 0 j)) (hk3 : D 0 j ≤ 3 ∧ (D 0 j = 3 ↔ j = D 12 0)) (h78 : jV M 116 78 = Int64.ofNat (eN D i j)) (h79 : jV M 116 79 = Int64.ofNat (eL D i)) (h80 : jV M 116 80 = Int64.ofNat (eA D i j)) (h81 : jV M 116 81 = Int64.ofNat (eZ D i j)) (hA : Fr pm7 A M) : sm_w 207 (185, [some (.ref 116), none, some (.int (Int32.ofNat j)), none, none, none, none], []) M (rV (fun M2 => mLine M2 D i j ∧ Fr pm7 A M2)) := by
  have e0 : (0 : Int64) = Int64.ofNat 0 := rfl
  have e1' : (1 : Int64) = Int64.ofNat 1 := rfl
  have e3' : (1000 : Int64) = Int64.ofNat 1000 := rfl
  have e5' : (100000 : Int64) = Int64.ofNat 100000 := rfl
  refine g207_4 hS fun M1 s1 e1 => ?_
  have j78 : jV M1 116 78 = Int64.ofNat (eN D i j) := by rw [e1]; exact h78
  have j79 : jV M1 116 79 = Int64.ofNat (eL D i) := by rw [e1]; exact h79
  have j80 : jV M1 116 80 = Int64.ofNat (eA D i j) := by rw [e1]; exact h80
  have j81 : jV M1 116 81 = Int64.ofNat (eZ D i j) := by rw [e1]; exact h81
  have v85 : iV M1 116 85 = 0 := by rw [e1, iV_wI, if_pos ⟨rfl, rfl⟩]
  have f1 : Fr pm7 A M1 := by rw [e1]; exact hA.wI ⟨rfl, by omega, by omega⟩
  have vk : iV M1 150 j = Int32.ofNat (D 0 j) := by rw [e1, iV_wI, if_neg (by omega)]; exact hk
  -- a ratio is written, and the line is not too long
  have go : ∀ (r : Int32) (M3 : sm_M), SH M3 → M3 = sm_wI M1 116 83 r → r = eR D i j → ¬ eX D i j → sm_w 207 (354, [some (.ref 116), none, none, none, none, none, none], []) M3 (rV (fun M2 => mLine M2 D i j ∧ Fr pm7 A M2)) := fun r M3 s3 e3 hr hx => by
    refine s207_5 s3 hm ?_ ?_ ?_ ?_ ?_ ?_ (by rw [e3]; exact f1.wI ⟨rfl, by omega, by omega⟩)
    · rw [e3]; exact j78
    · rw [e3]; exact j79
    · rw [e3]; exact j80
    · rw [e3]; exact j81
    · rw [e3, iV_wI, if_neg (by omega), v85]; exact ⟨fun _ => hx, fun _ => rfl⟩
    · rw [e3, iV_wI, if_pos ⟨rfl, rfl⟩]; exact hr
  rw [j78, j79, j80, j81, o_cl (by omega), vk, e0, e1', e3', e5']
  have k1 : Int64.ofNat (eL D i) ≤ Int64.ofNat (eN D i j) ↔ eL D i ≤ eN D i j := j_le (by omega) (by omega)
  have k2 : Int64.ofNat (eN D i j) = Int64.ofNat (eL D i) ↔ eN D i j = eL D i := j_eq (by omega) (by omega)
  rw [k1, k2]
  refine ⟨fun c1 => ⟨fun c2 M3 s3 e3 => go _ M3 s3 e3 ?_ ?_, fun c2 => ?_⟩, fun c1 => ⟨(o_in (by omega)).mpr (by omega), ?_⟩⟩
  · unfold eR eM; rw [if_pos (by omega), if_pos (by omega), if_pos c2]; rfl
  · unfold eX; omega
  · rw [j_sub c1, j_lt (by omega) (by omega)]
    refine ⟨fun c3 M5 s5 e5 M7 s7 e7 => ?_, fun c3 => ⟨?_, fun M10 s10 e10 => go _ M10 s10 e10 ?_ ?_⟩⟩
    · refine s207_5 s7 hm ?_ ?_ ?_ ?_ ?_ ?_ (by rw [e7, e5]; exact (f1.wI ⟨rfl, by omega, by omega⟩).wI ⟨rfl, by omega, by omega⟩)
      · rw [e7, e5]; exact j78
      · rw [e7, e5]; exact j79
      · rw [e7, e5]; exact j80
      · rw [e7, e5]; exact j81
      · rw [e7, iV_wI, if_pos ⟨rfl, rfl⟩]
        exact ⟨fun w => absurd w (by decide), fun w => absurd ⟨by omega, c3⟩ w⟩
      · rw [e7, iV_wI, if_neg (by omega), e5, iV_wI, if_pos ⟨rfl, rfl⟩]
        unfold eR eM; rw [if_neg (by omega), if_neg (by omega), if_pos c3]; rfl
    · rw [j_eq (by omega) (by omega)]; omega
    · have hz : 0 < eZ D i j := by omega
      have hq : ((eN D i j - eL D i) * 1000 + eZ D i j - 1) / eZ D i j < 1001 := (Nat.div_lt_iff_lt_mul hz).mpr (by omega)
      unfold eR eM
      rw [if_neg (by omega), if_neg (by omega), if_neg c3, j_mul, j_add, j_sub (by omega), j_div (by omega) (by omega)]
      exact j_n32 (by omega)
    · unfold eX; omega
  · rw [show (3 : Int32) = Int32.ofNat 3 from rfl, o_eq (by omega) (by omega), j_eq (by omega) (by omega), hk3.2]
    have hx : ¬ eX D i j := by unfold eX; omega
    refine ⟨fun c2 M13 s13 e13 => go _ M13 s13 e13 ?_ hx, fun c2 => ⟨fun c3 M15 s15 e15 => go _ M15 s15 e15 ?_ hx, fun c3 => ⟨?_, fun M18 s18 e18 => go _ M18 s18 e18 ?_ hx⟩⟩⟩
    · unfold eR eM; rw [if_pos (by omega), if_pos (by omega), if_neg (by omega), if_pos c2]; rfl
    · unfold eR eM; rw [if_pos (by omega), if_pos (by omega), if_neg (by omega), if_neg c2, if_pos c3]; rfl
    · exact c3
    · have k5 : Int64.ofNat 100000 < Int64.ofNat ((eL D i - eN D i j) * 1000 / eA D i j) ↔ 100000 < (eL D i - eN D i j) * 1000 / eA D i j := j_lt (by omega) (Nat.lt_of_le_of_lt (Nat.div_le_self _ _) (by omega))
      have cn : eN D i j ≤ eL D i := by omega
      have cq : ¬ eN D i j = eL D i := by omega
      unfold eR eM
      rw [if_pos cn, if_pos cn, if_neg cq, if_neg c2, if_neg c3, j_sub cn, j_mul, j_div (by omega) (by omega)]
      unfold p208_0
      rw [lst_c]
      by_cases c5 : 100000 < (eL D i - eN D i j) * 1000 / eA D i j
      · rw [if_pos (k5.mpr c5), if_pos c5]; exact j_i32 (by omega)
      · rw [if_neg (mt k5.mp c5), if_neg c5]; exact j_i32 (by omega)
end ONEL
