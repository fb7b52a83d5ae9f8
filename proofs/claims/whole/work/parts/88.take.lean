/-! CHOOSING: the row that the reference takes. -/
section TAKE
variable {D : Nat → Nat → Nat}
theorem mE_v {M : sm_M} {x : Nat × Nat} (hE : ∀ j, j ≤ D 12 0 → ∀ c, c < 4 → mE M (4 * j + c) (Ent D j c)) (hx : vx D x) : jV M 158 (4 * x.1 + x.2) = Int64.ofNat (ck D x) ∧ (1 ≤ x.1 → iV M 159 (4 * x.1 + x.2) = Int32.ofNat (4 * (pre D x).1 + (pre D x).2)) := by
  obtain ⟨v1, v2, ⟨q, b, h⟩, v3⟩ := hx
  have z := hE x.1 v1 x.2 (by omega)
  rw [v3] at z
  have e : pre D x = (b, h) := by unfold pre; rw [v3]
  have ec : ck D x = q := by unfold ck; rw [v3]
  rw [e, ec]
  exact ⟨z.2.1, fun h1 => z.2.2 (by omega)⟩
def bsN (n : Nat) (b : Option Nat) : Int32 := match b with
  | none => -1
  | some h => Int32.ofNat (4 * n + h)
theorem s213_1 {M : sm_M} {K : sm_M → Prop} (hS : SH M) (hw : wK D) (hK : mK M D) (hE : ∀ j, j ≤ D 12 0 → ∀ c, c < 4 → mE M (4 * j + c) (Ent D j c)) {hh : Nat} (hb : bstF (Ent D (D 12 0)) 4 = some hh) (hk : ∀ M2, SH M2 → M2 = sm_wJ M 116 66 (Int64.ofNat (ck D (D 12 0, hh))) → sm_w 213 (107, [some (.ref 116), some (.int (Int32.ofNat (4 * D 12 0 + hh))), some (.int ((0 : Int32))), some (.int (Int32.ofNat (4 * D 12 0 + hh)))], []) M2 (rV K)) : ∀ (d g : Nat), 4 - g = d → g ≤ 4 → sm_w 213 (4, [some (.ref 116), some (.int (bsN (D 12 0) (bstF (Ent D (D 12 0)) g))), some (.int (Int32.ofNat g)), none], []) M (rV K) := by
  have hn := hw.1
  have hB := Ent_b hw (Nat.le_refl (D 12 0))
  intro d
  induction d with
  | zero =>
    intro g hd hg
    have e : g = 4 := by omega
    subst e
    rw [hb]
    obtain ⟨b1, b2⟩ := (bstF_s (Ent D (D 12 0)) 4).1 hh hb
    have hx : vx D (D 12 0, hh) := ⟨Nat.le_refl _, by show hh ≤ 3; omega, b2⟩
    show sm_w 213 (4, [some (.ref 116), some (.int (Int32.ofNat (4 * D 12 0 + hh))), some (.int (Int32.ofNat 4)), none], []) M (rV K)
    refine g213_1 hS ⟨fun _ => ⟨(o_in (by omega)).mpr (by omega), fun M2 s2 e2 => hk M2 s2 ?_⟩, fun c => absurd (Int32.le_refl _) c⟩
    rw [o_cl (by omega), (mE_v hE hx).1] at e2
    exact e2
  | succ d ih =>
    intro g hd hg
    have ih := ih (g + 1) (by omega) (by omega)
    have hEg := hE (D 12 0) (Nat.le_refl _) g (by omega)
    have hBg := hB g (by omega)
    obtain ⟨i1, i2⟩ := bstF_s (Ent D (D 12 0)) g
    have in1 : ∀ c, c < 4 → vp_in (Int32.ofNat (4 * D 12 0 + c)) 2408 := fun c hc => (o_in (by omega)).mpr (by omega)
    refine g213_1 hS ⟨fun c => absurd ((o_le (n := 4) (by omega) (by omega)).mp c) (by omega), fun _ => ?_⟩
    rw [hK.1, show (4 : Int32) = Int32.ofNat 4 from rfl, ← Int32.ofNat_mul, ← Int32.ofNat_add, o_cl (n := 4 * D 12 0 + g) (by omega), o_s]
    refine ⟨in1 g (by omega), ?_⟩
    cases hq : Ent D (D 12 0) g with
    | none =>
      rw [hq] at hEg
      have e : bstF (Ent D (D 12 0)) (g + 1) = bstF (Ent D (D 12 0)) g := by
        show (match Ent D (D 12 0) g with | none => _ | some x => _) = _
        rw [hq]
      rw [e] at ih
      exact ⟨fun _ => ih, fun c => absurd hEg c⟩
    | some x =>
      obtain ⟨k, p, q⟩ := x
      rw [hq] at hEg hBg
      have hkb : k ≤ 600 * 2100000000000 := hBg.1
      refine ⟨fun c => absurd (hEg.1.symm.trans c) (by decide), fun _ => ?_⟩
      cases hb2 : bstF (Ent D (D 12 0)) g with
      | none =>
        have e : bstF (Ent D (D 12 0)) (g + 1) = some g := by
          show (match Ent D (D 12 0) g with | none => _ | some x => _) = _
          rw [hq, hb2]
        rw [e] at ih
        exact ⟨fun _ => ih, fun c => absurd (show (-1 : Int32) < 0 by decide) c⟩
      | some h =>
        obtain ⟨a1, ⟨k', p', q'⟩, a2⟩ := i1 h hb2
        have hEh := hE (D 12 0) (Nat.le_refl _) h (by omega)
        have hBh := hB h (by omega)
        rw [a2] at hEh hBh
        have hk' : k' ≤ 600 * 2100000000000 := hBh.1
        have m1 := hEg.2.2 (by omega)
        have m2 := hEh.2.2 (by omega)
        have wg := (Pt_w hw (D 12 0) (Nat.le_refl _)).2 (D 12 0) (Nat.le_refl _) hn.1 g k p q hq
        have wh := (Pt_w hw (D 12 0) (Nat.le_refl _)).2 (D 12 0) (Nat.le_refl _) hn.1 h k' p' q' a2
        have hne : ¬ p = p' := fun z => by
          have e1 := wg.2.2.2
          have e2 := wh.2.2.2
          rw [z] at e1
          omega
        have dv1 : (4 * p + q) / 4 = p := by have := wg.2.2.1; omega
        have dv2 : (4 * p' + q') / 4 = p' := by have := wh.2.2.1; omega
        have e : bstF (Ent D (D 12 0)) (g + 1) = @ite _ (les (some (k, p, q)) (Ent D (D 12 0) h)) (Classical.propDecidable _) (some g) (some h) := by
          show (match Ent D (D 12 0) g with | none => _ | some x => _) = _
          rw [hq, hb2]
        have hles : les (some (k, p, q)) (Ent D (D 12 0) h) ↔ (k < k' ∨ (k = k' ∧ p < p')) := by rw [a2]; exact Iff.rfl
        have yes : (k < k' ∨ (k = k' ∧ p < p')) → sm_w 213 (4, [some (.ref 116), some (.int (Int32.ofNat (4 * D 12 0 + g))), some (.int (Int32.ofNat (g + 1))), none], []) M (rV K) := fun c => by
          rw [e, if_pos (hles.mpr c)] at ih
          exact ih
        have no : ¬ (k < k' ∨ (k = k' ∧ p < p')) → sm_w 213 (4, [some (.ref 116), some (.int (Int32.ofNat (4 * D 12 0 + h))), some (.int (Int32.ofNat (g + 1))), none], []) M (rV K) := fun c => by
          rw [e, if_neg (mt hles.mp c)] at ih
          exact ih
        refine ⟨fun c => absurd c (show ¬ Int32.ofNat (4 * D 12 0 + h) < 0 from o_nn (by omega)), fun _ => ⟨in1 g (by omega), in1 h (by omega), ?_⟩⟩
        show ((jV M 158 (4 * D 12 0 + g)) < (jV M 158 (Int32.ofNat (4 * D 12 0 + h)).toNatClampNeg) → _) ∧ (¬ (jV M 158 (4 * D 12 0 + g)) < (jV M 158 (Int32.ofNat (4 * D 12 0 + h)).toNatClampNeg) → _ ∧ _ ∧ (((jV M 158 (4 * D 12 0 + g)) = (jV M 158 (Int32.ofNat (4 * D 12 0 + h)).toNatClampNeg) → _ ∧ _ ∧ sm_cI 212 [.ref 116, .int (iV M 159 (4 * D 12 0 + g)), .int (iV M 159 (Int32.ofNat (4 * D 12 0 + h)).toNatClampNeg)] M _) ∧ _))
        rw [o_cl (n := 4 * D 12 0 + h) (by omega), hEg.2.1, hEh.2.1, m1, m2, j_lt (by omega) (by omega), j_eq (by omega) (by omega)]
        refine ⟨fun c => yes (Or.inl c), fun c => ⟨in1 g (by omega), in1 h (by omega), fun c2 => ⟨in1 g (by omega), in1 h (by omega), ?_⟩, fun c2 => no (fun w => ?_)⟩⟩
        rotate_left
        · rcases w with w | w
          · exact c w
          · refine c2 ?_
            show Int64.ofNat k = jV M 158 (Int32.ofNat (4 * D 12 0 + h)).toNatClampNeg
            rw [o_cl (by omega), hEh.2.1, w.1]
        refine sm_cI.mono (K := fun v M2 => v = (if (4 * p + q) / 4 < (4 * p' + q') / 4 then 1 else 0) ∧ M2 = M) (g212_0 hS (s212_1 hS (by have := wg.2.1; have := wg.2.2.1; omega) (by have := wh.2.1; have := wh.2.2.1; omega) (by rw [dv1, dv2]; exact hne))) fun v M11 k11 s11 => ?_
        obtain ⟨k1, k2⟩ := k11
        subst k2
        rw [dv1, dv2] at k1
        refine ⟨fun c3 => no (fun w => ?_), fun c3 => yes ?_⟩
        · rw [k1, if_pos (by omega)] at c3
          exact absurd c3 (by decide)
        · rcases Nat.lt_or_ge p p' with z | z
          · exact Or.inr ⟨c2, z⟩
          · rw [k1, if_neg (by omega)] at c3
            exact absurd rfl c3
theorem s213_2 {M : sm_M} {K : sm_M → Prop} {x0 : Nat} (hS : SH M) (hw : wK D) (hE : ∀ j, j ≤ D 12 0 → ∀ c, c < 4 → mE M (4 * j + c) (Ent D j c)) {x : Nat × Nat} (hx : vx D x) (hk : ∀ M1, SH M1 → M1 = sm_wI M 116 64 (Int32.ofNat (nL D x)) → sm_w 213 (133, [some (.ref 116), none, some (.int (Int32.ofNat (nL D x))), some (.int (Int32.ofNat x0))], []) M1 (rV K)) : ∀ (d t : Nat), nL D x - t = d → t ≤ nL D x → sm_w 213 (107, [some (.ref 116), some (.int (Int32.ofNat x0)), some (.int (Int32.ofNat t)), some (.int (Int32.ofNat (4 * (pa D x t).1 + (pa D x t).2)))], []) M (rV K) := by
  have hn := hw.1
  intro d
  induction d with
  | zero =>
    intro t hd ht
    have e : t = nL D x := by omega
    obtain ⟨w1, w2⟩ := pa_v hw hx t ht
    have v1 := w1.1
    have v2 := w1.2.1
    have h0 : (pa D x t).1 = 0 := by
      rcases Nat.eq_zero_or_pos (pa D x t).1 with z | z
      · exact z
      · have := nL_s hw w1 z
        omega
    refine g213_2 hS ?_
    rw [o_d4 (by omega), o_le0 (by omega), e]
    refine ⟨fun _ M1 s1 e1 => hk M1 s1 e1, fun c => absurd ?_ c⟩
    rw [e] at h0 v2
    omega
  | succ d ih =>
    intro t hd ht
    have ih := ih (t + 1) (by omega) (by omega)
    obtain ⟨w1, w2⟩ := pa_v hw hx t ht
    have v1 := w1.1
    have v2 := w1.2.1
    have h3 : 1 ≤ (pa D x t).1 := by
      rcases Nat.eq_zero_or_pos (pa D x t).1 with z | z
      · rw [nL_0 z] at w2; omega
      · exact z
    refine g213_2 hS ?_
    rw [o_d4 (by omega), o_le0 (by omega), o_cl (by omega), (mE_v hE w1).2 h3, o_s]
    exact ⟨fun c => by omega, fun _ => ⟨(o_in (by omega)).mpr (by omega), ih⟩⟩
def p163 : Nat → Nat → Prop := fun a _ => a = 161 ∨ a = 162 ∨ a = 163
theorem s213_3 {A : sm_M} {x : Nat × Nat} (hw : wK D) (hx : vx D x) : ∀ (d t : Nat), nL D x - t = d → t ≤ nL D x → ∀ M, SH M → (∀ j, j ≤ D 12 0 → ∀ c, c < 4 → mE M (4 * j + c) (Ent D j c)) → (∀ j, nL D x - t ≤ j → j < nL D x → iV M 161 j = Int32.ofNat (pre D (pa D x (nL D x - 1 - j))).1 ∧ iV M 162 j = Int32.ofNat (rE D x j) ∧ jV M 163 j = Int64.ofNat (rK D x j)) → Fr p163 A M → sm_w 213 (133, [some (.ref 116), none, some (.int (Int32.ofNat (nL D x - t))), some (.int (Int32.ofNat (4 * (pa D x t).1 + (pa D x t).2)))], []) M (rV (fun M2 => (∀ j, j < nL D x → iV M2 161 j = Int32.ofNat (pre D (pa D x (nL D x - 1 - j))).1 ∧ iV M2 162 j = Int32.ofNat (rE D x j) ∧ jV M2 163 j = Int64.ofNat (rK D x j)) ∧ Fr p163 A M2)) := by
  have hn := hw.1
  have hL : nL D x ≤ 600 := by
    have h1 := nl_le hw x.1 x hx
    have h2 := hx.1
    show nl D x.1 x ≤ 600
    omega
  intro d
  induction d with
  | zero =>
    intro t hd ht M hS hE hj hA
    obtain ⟨w1, w2⟩ := pa_v hw hx t ht
    have v1 := w1.1
    have v2 := w1.2.1
    have h0 : (pa D x t).1 = 0 := by
      rcases Nat.eq_zero_or_pos (pa D x t).1 with z | z
      · exact z
      · have := nL_s hw w1 z
        omega
    refine g213_3 hS ?_
    rw [o_d4 (by omega), o_le0 (by omega)]
    exact ⟨fun _ => ⟨fun j hj2 => hj j (by omega) hj2, hA⟩, fun c => absurd (by omega) c⟩
  | succ d ih =>
    intro t hd ht M hS hE hj hA
    have ih := ih (t + 1) (by omega) (by omega)
    obtain ⟨w1, w2⟩ := pa_v hw hx t ht
    have v1 := w1.1
    have v2 := w1.2.1
    have h3 : 1 ≤ (pa D x t).1 := by
      rcases Nat.eq_zero_or_pos (pa D x t).1 with z | z
      · rw [nL_0 z] at w2; omega
      · exact z
    have hp := pre_v hw w1 h3
    have u1 := hp.1.1
    have u2 := hp.1.2.1
    have ex : Int32.ofNat (nL D x - t) + (-1 : Int32) = Int32.ofNat (nL D x - (t + 1)) := by
      rw [z_eq, z_add, o_ti (by omega), o_ti (by omega)]
      · show ((nL D x - t : Nat) : Int) + -1 = _
        omega
      · rw [o_ti (by omega)]; show _ ≤ ((nL D x - t : Nat) : Int) + -1; omega
      · rw [o_ti (by omega)]; show ((nL D x - t : Nat) : Int) + -1 < _; omega
    have d1 : (4 * (pa D x t).1 + (pa D x t).2) / 4 = (pa D x t).1 := by omega
    have d2 : (4 * (pre D (pa D x t)).1 + (pre D (pa D x t)).2) / 4 = (pre D (pa D x t)).1 := by omega
    have in1 : vp_in (Int32.ofNat (4 * (pa D x t).1 + (pa D x t).2)) 2408 := (o_in (by omega)).mpr (by omega)
    have in2 : vp_in (Int32.ofNat (4 * (pre D (pa D x t)).1 + (pre D (pa D x t)).2)) 2408 := (o_in (by omega)).mpr (by omega)
    have in3 : vp_in (Int32.ofNat (nL D x - (t + 1))) 602 := (o_in (by omega)).mpr (by omega)
    refine g213_3 hS ?_
    rw [o_d4 (by omega), o_le0 (by omega), d1, ex, o_cl (n := nL D x - (t + 1)) (by omega), o_cl (n := 4 * (pa D x t).1 + (pa D x t).2) (by omega)]
    refine ⟨fun c => by omega, fun _ => ⟨in3, fun M2 s2 e2 => ?_⟩⟩
    have f2 : Fr p163 M M2 := by rw [e2]; exact (Fr.rf _ _).wI (Or.inr (Or.inl rfl))
    have E2 : ∀ j, j ≤ D 12 0 → ∀ c, c < 4 → mE M2 (4 * j + c) (Ent D j c) := fun j hj2 c hc => mE_fr (hE j hj2 c hc) f2 (by unfold p163; omega)
    rw [(mE_v E2 w1).2 h3, o_d4 (by omega), d2]
    refine ⟨in1, in3, fun M6 s6 e6 => ?_⟩
    have f6 : Fr p163 M M6 := by rw [e6]; exact f2.wI (Or.inl rfl)
    have E6 : ∀ j, j ≤ D 12 0 → ∀ c, c < 4 → mE M6 (4 * j + c) (Ent D j c) := fun j hj2 c hc => mE_fr (hE j hj2 c hc) f6 (by unfold p163; omega)
    rw [(mE_v E6 w1).2 h3, o_cl (n := 4 * (pre D (pa D x t)).1 + (pre D (pa D x t)).2) (by omega), (mE_v E6 w1).1, (mE_v E6 hp.1).1, j_sub hp.2.2.1]
    refine ⟨in1, in1, in2, in3, fun M12 s12 e12 => ⟨in1, ?_⟩⟩
    have f12 : Fr p163 M M12 := by rw [e12]; exact f6.wJ (Or.inr (Or.inr rfl))
    have E12 : ∀ j, j ≤ D 12 0 → ∀ c, c < 4 → mE M12 (4 * j + c) (Ent D j c) := fun j hj2 c hc => mE_fr (hE j hj2 c hc) f12 (by unfold p163; omega)
    rw [(mE_v E12 w1).2 h3]
    refine ih M12 s12 E12 (fun j j1' j2' => ?_) (hA.tr f12)
    by_cases q : j = nL D x - (t + 1)
    · have et : nL D x - 1 - j = t := by omega
      unfold rE rK
      rw [et]
      refine ⟨?_, ?_, ?_⟩
      · rw [e12, iV_wJ, e6, iV_wI, if_pos ⟨rfl, q⟩]
      · rw [e12, iV_wJ, e6, iV_wI, if_neg (by omega), e2, iV_wI, if_pos ⟨rfl, q⟩]
      · rw [e12, jV_wJ, if_pos ⟨rfl, q⟩]
    · have z := hj j (by omega) j2'
      rw [e12, iV_wJ, iV_wJ, jV_wJ, if_neg (by omega), e6, iV_wI, if_neg (by omega), iV_wI, if_neg (by omega), jV_wI, e2, iV_wI, if_neg (by omega), iV_wI, if_neg (by omega), jV_wI]
      exact z
end TAKE
