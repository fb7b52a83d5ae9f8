/-! CHOOSING: the kind finds the best rows. -/
theorem cE_fr {M M2 : sm_M} {s : Nat} {e : Option (Nat × Nat × Nat)} {p : Nat → Nat → Prop} (h : cE M s e) (f : Fr p M M2) (hp : ¬ p 37 s ∧ ¬ p 38 s ∧ ¬ p 39 s) : cE M2 s e := by
  unfold cE at h ⊢
  rw [f.2.2 _ _ hp.1, f.2.1 _ _ hp.2.1, f.2.1 _ _ hp.2.2]
  exact h
def pdp : Nat → Nat → Prop := fun a _ => a = 37 ∨ a = 38 ∨ a = 39 ∨ a = 40
section DP3
variable {D : Nat → Nat → Nat} {o f j : Nat}
theorem P119b {M : sm_M} {l i : Nat} (h5 : D 12 5 ≤ 10001) (h4 : iV M o 4 = Int32.ofNat (D 12 5)) (hln : cLine M l D i j) : p119_0 M l (iV M o 4) = 0 ↔ ¬ jok D i j := by
  have hB := eB_le D i j
  obtain ⟨v0, v1, v2, v3, v4, v5, v6, v7, v8, v9, v10⟩ := hln
  have k1 : Int32.ofNat (D 12 5) < Int32.ofNat (eB D i j) ↔ D 12 5 < eB D i j := o_lt (by omega) (by omega)
  have k2 : Int32.ofNat (D 12 5) = (10001 : Int32) ↔ D 12 5 = 10001 := o_eq (m := 10001) (by omega) (by omega)
  unfold p119_0 jok
  rw [v9, h4]
  by_cases c1 : D 12 5 < eB D i j
  · rw [if_pos (k1.mpr c1)]
    exact ⟨fun _ w => by omega, fun _ => rfl⟩
  · rw [if_neg (mt k1.mp c1)]
    by_cases c2 : eX D i j
    · rw [if_neg (fun z => v7.mp z c2)]
      by_cases c3 : D 12 5 = 10001
      · rw [if_pos (k2.mpr c3)]
        exact ⟨fun z => absurd z (by decide), fun z => absurd ⟨by omega, Or.inr c3⟩ z⟩
      · rw [if_neg (mt k2.mp c3)]
        exact ⟨fun _ w => by rcases w.2 with q | q; exact q c2; exact c3 q, fun _ => rfl⟩
    · rw [if_pos (v7.mpr c2)]
      exact ⟨fun z => absurd z (by decide), fun z => absurd ⟨by omega, Or.inl c2⟩ z⟩
theorem Ent0 : Ent D 0 = ini := rfl
theorem Ent_z : f = 0 → ∀ c, c < 4 → ¬ c = 1 → Ent D f c = none := fun h c _ h1 => by
  subst h
  exact if_neg h1
theorem s120 {M : sm_M} (hS : SH M) (ho : fS o) (hw : wK D) (hfj : f < j) (hj : j ≤ D 12 0) (hK : cK M o D) (hln : cLine M 40 D f j) (hP : ∀ c, c < 4 → cE M (4 * f + c) (Ent D f c)) (hQ : ∀ c, c < 4 → cE M (4 * j + c) (Pt D j f c)) : sm_cV 120 [.ref 36, .ref o] M (fun M2 => (∀ c, c < 4 → cE M2 (4 * j + c) (stp D f j (Ent D f) 4 (Pt D j f) c)) ∧ Fr (p789 (4 * j + eC D f j)) M M2) := by
  have hn := hw.1
  have hC := eC_le D f j
  have hwP := (Pt_w hw f (by omega)).1
  have hwQ := (Pt_w hw j hj).2 f (by omega) (by omega)
  obtain ⟨p1, p2⟩ := P121 hw hfj hj hK hln
  refine g120_0 hS ho ⟨p2, ?_⟩
  rw [p1, hln.2.1, hln.2.2.2.2.2.2.2.2.2.2, show (4 : Int32) = Int32.ofNat 4 from rfl, ← Int32.ofNat_mul, ← Int32.ofNat_add, Nat.mul_comm j 4]
  refine (s120_1 (A := M) (Q := Pt D j f) ho hw hfj hj hwP Ent_z 4 0 (by omega) (by omega) M hS hln hP (hQ _ (by omega)) (wE_bE (by omega) (hwQ _)) (fun k b h e hb => ?_) (Fr.rf _ _)).mono fun oo M2 z => ?_
  · have := (hwQ _ k b h e).2.1
    omega
  · obtain ⟨z1, z2, z3, z4⟩ := z
    refine ⟨z1, fun c hc => ?_, z4⟩
    by_cases e : c = eC D f j
    · rw [e]; exact z2
    · rw [stp_o e]
      exact cE_fr (hQ c hc) z4 (by unfold p789; omega)
theorem D53 (hw : wK D) : ∀ d i, i + d ≤ D 12 0 → D 5 (i + d) - D 5 i ≤ D 3 (i + d) - D 3 i
  | 0, i, _ => by rw [Nat.add_zero]; omega
  | d + 1, i, h => by
    have h1 := D53 hw d i (by omega)
    have h2 := hw.2.2.2.1 (i + (d + 1)) (by omega) h
    have m1 := hw.2.1 i (i + d) (by omega) (by omega)
    rw [show i + (d + 1) - 1 = i + d from by omega] at h2
    have e3 := h2.2.1
    have e5 := h2.2.2.2.1
    split at e3 <;> rename_i c
    · rw [if_pos c] at e5; omega
    · rw [if_neg c] at e5; omega
theorem long_on (hw : wK D) {q : Nat} (hfj : f < j) (hjq : j ≤ q) (hq : q ≤ D 12 0) (h : eL D f + eZ D f j < (D 2 j - D 2 f) + (D 3 (j - 1) - D 3 f)) : eX D f q := by
  have m1 := hw.2.1 j q hjq hq
  have m2 := hw.2.1 (j - 1) (q - 1) (by omega) (by omega)
  have m3 := hw.2.1 f j (by omega) (by omega)
  have m4 := hw.2.1 f (j - 1) (by omega) (by omega)
  have d := D53 hw (q - 1 - (j - 1)) (j - 1) (by omega)
  rw [show j - 1 + (q - 1 - (j - 1)) = q - 1 from by omega] at d
  unfold eX eN
  unfold eZ at h ⊢
  by_cases c : D 12 4 = 0
  · rw [if_pos c] at h ⊢; omega
  · rw [if_neg c] at h ⊢; omega
theorem P125 {M : sm_M} (hw : wK D) (hfj : f < j) (hj : j ≤ D 12 0) (hK : cK M o D) (hln : cLine M 40 D f j) : (p125_0 M o 40 = 0 ↔ ¬ (eL D f + eZ D f j < (D 2 j - D 2 f) + (D 3 (j - 1) - D 3 f))) ∧ q125_0 M o 40 := by
  have hn := hw.1
  have hb := lb hw hfj hj
  have m1 := hw.2.1 f j (by omega) hj
  have m2 := hw.2.1 f (j - 1) (by omega) (by omega)
  have b1 := hw.2.2.1 j hj
  have b2 := hw.2.2.1 (j - 1) (by omega)
  obtain ⟨v0, v1, v2, v3, v4, v5, v6, v7, v8, v9, v10⟩ := hln
  obtain ⟨a1, a2, a3, a4, a5, a6, a7⟩ := hK.2.1 j hj
  obtain ⟨c1, c2, c3, c4, c5, c6, c7⟩ := hK.2.1 f (by omega)
  obtain ⟨d1, d2, d3, d4, d5, d6, d7⟩ := hK.2.1 (j - 1) (by omega)
  constructor
  · unfold p125_0
    have e : p114_0 M o (iV M 40 0) (iV M 40 1) = Int64.ofNat ((D 2 j - D 2 f) + (D 3 (j - 1) - D 3 f)) := by
      unfold p114_0
      rw [v0, v1, o_p (by omega), o_cl (n := j) (by omega), o_cl (n := f) (by omega), o_cl (n := j - 1) (by omega), a4, c4, d5, c5, j_sub m1.1, j_add, j_sub (by omega)]
      congr 1
      omega
    rw [e, v4, v5]
    have k : Int64.ofNat ((D 2 j - D 2 f) + (D 3 (j - 1) - D 3 f)) - Int64.ofNat (eZ D f j) ≤ Int64.ofNat (eL D f) ↔ ¬ (eL D f + eZ D f j < (D 2 j - D 2 f) + (D 3 (j - 1) - D 3 f)) := by
      rw [y_le, y_sub, j_ti (by omega), j_ti (by omega), j_ti (by omega)]
      · omega
      · rw [j_ti (by omega), j_ti (by omega)]; omega
      · rw [j_ti (by omega), j_ti (by omega)]; omega
    by_cases c : eL D f + eZ D f j < (D 2 j - D 2 f) + (D 3 (j - 1) - D 3 f)
    · rw [if_neg (mt k.mp (fun z => z c))]
      exact ⟨fun z => absurd z (by decide), fun z => absurd c z⟩
    · rw [if_pos (k.mpr c)]
      exact ⟨fun _ => c, fun _ => rfl⟩
  · unfold q125_0 q114_0
    rw [v0, v1, o_p (by omega)]
    exact ⟨(o_in (by omega)).mpr (by omega), (o_in (by omega)).mpr (by omega), (o_in (by omega)).mpr (by omega), (o_in (by omega)).mpr (by omega)⟩
/-- how far break j is, when lines from f are seen up to breaks ahead of j0 -/
def kk (f j0 j : Nat) : Nat := if f < j ∧ j < j0 then f + 1 else if j ≤ f then j else f
def TB (M : sm_M) (D : Nat → Nat → Nat) (f j0 : Nat) : Prop := ∀ j, j ≤ D 12 0 → ∀ c, c < 4 → cE M (4 * j + c) (Pt D j (kk f j0 j) c)
theorem s111_1 {A : sm_M} (ho : fS o) (hw : wK D) (h5 : D 12 5 ≤ 10001) (hf : f < D 12 0) : ∀ (d j : Nat), D 12 0 + 1 - j = d → f < j → j ≤ D 12 0 + 1 → ∀ M, SH M → cK M o D → iV M o 4 = Int32.ofNat (D 12 5) → TB M D f j → Fr pdp A M → sm_w 111 (4, [some (.ref 36), some (.int (Int32.ofNat f)), some (.ref o), some (.int (Int32.ofNat j))], []) M (rV (fun M2 => TB M2 D f (D 12 0 + 1) ∧ Fr pdp A M2)) := by
  have hn := hw.1
  have hd1 : ∀ a k, o ≤ a → a ≤ o + 13 → ¬ pl 40 a k := fun a k z1 z2 => by unfold pl; unfold fS at ho; omega
  have hd2 : ∀ s a k, o ≤ a → a ≤ o + 13 → ¬ p789 s a k := fun s a k z1 z2 => by unfold p789; unfold fS at ho; omega
  intro d
  induction d with
  | zero =>
    intro j hd hfj hj M hS hK h4 hT hA
    have e : j = D 12 0 + 1 := by omega
    subst e
    refine g111_1 hS ho ?_
    rw [hK.1]
    exact ⟨fun _ => ⟨hT, hA⟩, fun c => absurd ((o_lt (by omega) (by omega)).mpr (by omega)) c⟩
  | succ d ih =>
    intro j hd hfj hj M hS hK h4 hT hA
    have ih := ih (j + 1) (by omega) (by omega) (by omega)
    refine g111_1 hS ho ?_
    rw [hK.1]
    refine ⟨fun c => absurd ((o_lt (by omega) (by omega)).mp c) (by omega), fun _ => ?_⟩
    refine (s112 hS ho fL_40 hw hK hfj (by omega)).mono fun M1 k1 s1 => ?_
    obtain ⟨kl, kf⟩ := k1
    have K1 := hK.fr kf hd1
    have h41 : iV M1 o 4 = Int32.ofNat (D 12 5) := by rw [kf.2.1 o 4 (hd1 o 4 (by omega) (by omega))]; exact h4
    have T1 : TB M1 D f j := fun q hq c hc => cE_fr (hT q hq c hc) kf (by unfold pl; omega)
    have A1 : Fr pdp A M1 := hA.tr (kf.mono fun a k z => by unfold pl at z; unfold pdp; omega)
    -- break j is seen, nothing has changed there
    have skip : ¬ jok D f j → TB M1 D f (j + 1) := fun cj q hq c hc => by
      by_cases e : q = j
      · have z := T1 q hq c hc
        rw [e] at z ⊢
        have e1 : kk f j j = f := by unfold kk; rw [if_neg (by omega), if_neg (by omega)]
        have e2 : kk f (j + 1) j = f + 1 := by unfold kk; rw [if_pos (by omega)]
        rw [e1] at z
        rw [e2, Pt_s hfj, lst_n cj]
        exact z
      · have e1 : kk f (j + 1) q = kk f j q := by
          unfold kk
          by_cases c1 : f < q ∧ q < j
          · rw [if_pos (by omega), if_pos c1]
          · rw [if_neg (by omega), if_neg c1]
        rw [e1]
        exact T1 q hq c hc
    rw [P119b h5 h41 kl, o_s]
    refine ⟨fun cj => ⟨fun cl => ih M1 s1 K1 h41 (skip cj) A1, fun cl => ?_⟩, fun cj => ?_⟩
    · obtain ⟨p1, p2⟩ := P125 hw hfj (by omega) K1 kl
      rw [p1]
      refine ⟨p2, fun c => ih M1 s1 K1 h41 (skip cj) A1, fun c => ⟨fun q hq c2 hc2 => ?_, A1⟩⟩
      have c := Classical.not_not.mp c
      have hx : eX D f j := Classical.not_not.mp (fun w => cl (kl.2.2.2.2.2.2.2.1.mpr w))
      have hB := eB_le D f j
      have ht : ¬ D 12 5 = 10001 := fun w => cj ⟨by omega, Or.inr w⟩
      have z := T1 q hq c2 hc2
      by_cases hqj : f < q ∧ ¬ q < j
      · have e1 : kk f j q = f := by unfold kk; rw [if_neg (by omega), if_neg (by omega)]
        have e2 : kk f (D 12 0 + 1) q = f + 1 := by unfold kk; rw [if_pos (by omega)]
        have hxq := long_on hw hfj (show j ≤ q by omega) hq c
        rw [e1] at z
        rw [e2, Pt_s (by omega), lst_n (fun w => by rcases w.2 with y | y; exact y hxq; exact ht y)]
        exact z
      · have e1 : kk f (D 12 0 + 1) q = kk f j q := by
          unfold kk
          by_cases c1 : f < q ∧ q < j
          · rw [if_pos (by omega), if_pos c1]
          · rw [if_neg (by omega), if_neg c1]
        rw [e1]
        exact z
    · have cj := Classical.not_not.mp cj
      have hP : ∀ c, c < 4 → cE M1 (4 * f + c) (Ent D f c) := fun c hc => by
        have z := T1 f (by omega) c hc
        have e1 : kk f j f = f := by unfold kk; rw [if_neg (by omega), if_pos (Nat.le_refl _)]
        rw [e1] at z
        exact z
      have hQ : ∀ c, c < 4 → cE M1 (4 * j + c) (Pt D j f c) := fun c hc => by
        have z := T1 j (by omega) c hc
        have e1 : kk f j j = f := by unfold kk; rw [if_neg (by omega), if_neg (by omega)]
        rw [e1] at z
        exact z
      refine (s120 s1 ho hw hfj (by omega) K1 kl hP hQ).mono fun M5 k5 s5 => ?_
      obtain ⟨k51, k52⟩ := k5
      refine ih M5 s5 (K1.fr k52 (hd2 _)) (by rw [k52.2.1 o 4 (hd2 _ o 4 (by omega) (by omega))]; exact h41) (fun q hq c hc => ?_) (A1.tr (k52.mono fun a k z => by unfold p789 at z; unfold pdp; omega))
      by_cases e : q = j
      · rw [e]
        have e2 : kk f (j + 1) j = f + 1 := by unfold kk; rw [if_pos (by omega)]
        rw [e2, Pt_s hfj, lst_y cj]
        exact k51 c hc
      · have e1 : kk f (j + 1) q = kk f j q := by
          unfold kk
          by_cases c1 : f < q ∧ q < j
          · rw [if_pos (by omega), if_pos c1]
          · rw [if_neg (by omega), if_neg c1]
        rw [e1]
        have hC := eC_le D f j
        exact cE_fr (T1 q hq c hc) k52 (by unfold p789; omega)
end DP3
