/-! THE CLASS'S LEVELS, whole. -/
theorem isL_9 {T : Nat → Nat → Nat → Nat} (h : wT T) {S : Nat → Nat → Prop} {j v : Nat} (k : isL T S j v) : v ≤ 9 := by
  rcases k.2 with z | ⟨p, a, i, z1, z2, z3, z4, z5⟩
  · omega
  · rw [z5]; exact (h.2.1 p z1).2.2.1 i z3
section LEV
variable {x0 x1 nx1 f n : Nat} {L : Nat → Nat} {T : Nat → Nat → Nat → Nat}
/-- the levels, as far as seen -/
def lvA (M : sm_M) (x0 n : Nat) (T : Nat → Nat → Nat → Nat) (S : Nat → Nat → Prop) : Prop := ∃ V : Nat → Nat, ∀ j, j ≤ n → iV M (x0 + 9) j = Int32.ofNat (V j) ∧ isL T S (j + 1) (V j)
theorem lvA.c {M : sm_M} {S S' : Nat → Nat → Prop} (h : lvA M x0 n T S) (e : ∀ p a, p < T 0 0 0 → (S p a ↔ S' p a)) : lvA M x0 n T S' := by
  obtain ⟨V, hV⟩ := h
  exact ⟨V, fun j hj => ⟨(hV j hj).1, isL_c (hV j hj).2 e⟩⟩
/-- seen: all ahead of st, and at st those of at most c signs -/
def Sx (T : Nat → Nat → Nat → Nat) (n : Nat) (L : Nat → Nat) (st c p a : Nat) : Prop := mt T n (rwd n L) p a ∧ (a < st ∨ a = st ∧ T 3 p 0 ≤ c)
theorem s91_2 {A : sm_M} {Q : sm_M → Prop} {st : Nat} (hx : fH x0) (hx1 : sA x1 1 nx1) (hne : ¬ x1 = x0 + 9) (hw : wT T) (hn : n ≤ 4000) (hfn : f + n ≤ nx1) (hnx : nx1 ≤ 8192) (hL : ∀ i, i < n → lt (L i) = true) (hst : st ≤ n) (hk : ∀ M2, SH M2 → cTb M2 x0 T → (∀ i, i < n → iV M2 x1 (f + i) = Int32.ofNat (L i)) → lvA M2 x0 n T (Sx T n L (st + 1) 0) → Fr (plv x0) A M2 → sm_w 91 (15, [some (.ref x0), some (.ref x1), some (.int (Int32.ofNat f)), some (.int (Int32.ofNat n)), some (.int (Int32.ofNat (st + 1))), none, none, none], []) M2 (rV Q)) {N : Nat} {par sg nd : Nat → Nat} : ∀ (d c : Nat), 14 - c = d → c ≤ 14 → st + c ≤ n + 2 → ∀ M, SH M → cC M x0 N par sg → cG M x0 N par sg nd T → (∀ i, i < n → iV M x1 (f + i) = Int32.ofNat (L i)) → lvA M x0 n T (Sx T n L st c) → Fr (plv x0) A M → sm_w 91 (28, [some (.ref x0), some (.ref x1), some (.int (Int32.ofNat f)), some (.int (Int32.ofNat n)), some (.int (Int32.ofNat st)), some (.int (bsI (wk N par sg (fun t => rwd n L (st + t)) c))), some (.int (Int32.ofNat (st + c))), none], []) M (rV Q) := by
  have hxx := fH_s hx
  have next : ∀ c M, SH M → cC M x0 N par sg → cG M x0 N par sg nd T → (∀ i, i < n → iV M x1 (f + i) = Int32.ofNat (L i)) → lvA M x0 n T (Sx T n L st c) → Fr (plv x0) A M → (∀ p, p < T 0 0 0 → mt T n (rwd n L) p st → T 3 p 0 ≤ c) → sm_w 91 (15, [some (.ref x0), some (.ref x1), some (.int (Int32.ofNat f)), some (.int (Int32.ofNat n)), some (.int (Int32.ofNat st + 1)), none, none, none], []) M (rV Q) := by
    intro c M hS hC hG hB hV hA hall
    rw [o_s]
    refine hk M hS ⟨N, par, sg, nd, hC, hG⟩ hB (hV.c fun p a hp => ?_) hA
    constructor
    · intro z
      have z2 := z.2
      exact ⟨z.1, by omega⟩
    · intro z
      refine ⟨z.1, ?_⟩
      rcases z.2 with y | ⟨y1, y2⟩
      · rcases Nat.lt_or_ge a st with w | w
        · exact Or.inl w
        · have ea : a = st := by omega
          subst ea
          exact Or.inr ⟨rfl, hall p hp z.1⟩
      · have := (hw.2.1 p hp).1.1
        omega
  intro d
  induction d with
  | zero =>
    intro c hd hc hsc M hS hC hG hB hV hA
    have e : c = 14 := by omega
    subst e
    have fn := next 14 M hS hC hG hB hV hA fun p hp hm => (hw.2.1 p hp).1.2
    refine g91_2 hS hx hx1 ⟨fun _ => fn, fun _ => ⟨fun _ => fn, fun c => ?_⟩⟩
    rw [show Int32.ofNat st + 14 = Int32.ofNat (st + 14) from (Int32.ofNat_add st 14).symm] at c
    exact absurd ((o_le (by omega) (by omega)).mpr (Nat.le_refl _)) c
  | succ d ih =>
    intro c hd hc hsc M hS hC hG hB hV hA
    have hN := hC.1
    have h0 := hC.2.2.2.2.1
    refine g91_2 hS hx hx1 ?_
    rw [o_s n, show Int32.ofNat st + 14 = Int32.ofNat (st + 14) from (Int32.ofNat_add st 14).symm, o_lt (by omega) (by omega), o_le (by omega) (by omega)]
    refine ⟨fun cc => next c M hS hC hG hB hV hA fun p hp hm => by have := hm.1; omega, fun cc => ⟨fun c2 => by omega, fun _ => ?_⟩⟩
    cases ew : wk N par sg (fun t => rwd n L (st + t)) c with
    | none =>
      have fn := next c M hS hC hG hB hV hA fun p hp hm => by
        rcases Nat.lt_or_ge c (T 3 p 0) with z | z
        · have e1 := (hG.2.2.2.1 p hp).2.1
          rw [wk_c (t := fun t => rwd n L (st + t)) _ fun i hi => hm.2 i hi] at e1
          have e2 := wk_nn ew (T 3 p 0 - c)
          rw [show c + (T 3 p 0 - c) = T 3 p 0 from by omega, e1] at e2
          cases e2
        · exact z
      exact ⟨fun _ => fn, fun c => absurd (by decide) c⟩
    | some x =>
      have hxN := wk_lt hN.1 ew
      refine ⟨fun c => absurd c (o_nn (by omega)), fun _ => ?_⟩
      have hr : rwd n L (st + c) < 128 := by
        unfold rwd
        split
        · omega
        · exact (lt_sm (hL _ (by omega))).1
      have ih := ih (c + 1) (by omega) (by omega) (by omega)
      have ews := wk_s ew
      have tl : sm_cI 73 [.ref x0, .int (Int32.ofNat x), .int (Int32.ofNat (rwd n L (st + c)))] M (fun v3 M2 => SH M2 → ((v3 < 0 → sm_w 91 (28, [some (.ref x0), some (.ref x1), some (.int (Int32.ofNat f)), some (.int (Int32.ofNat n)), some (.int (Int32.ofNat st)), some (.int (v3)), some (.int (Int32.ofNat (st + c) + (1 : Int32))), none], []) M2 (rV Q)) ∧ (¬ v3 < 0 → (vp_in v3 4201) ∧ (((iV M2 (x0 + 4) v3.toNatClampNeg) < 0 → sm_w 91 (28, [some (.ref x0), some (.ref x1), some (.int (Int32.ofNat f)), some (.int (Int32.ofNat n)), some (.int (Int32.ofNat st)), some (.int (v3)), some (.int (Int32.ofNat (st + c) + (1 : Int32))), none], []) M2 (rV Q)) ∧ (¬ (iV M2 (x0 + 4) v3.toNatClampNeg) < 0 → (vp_in v3 4201) ∧ (vp_in (iV M2 (x0 + 4) v3.toNatClampNeg) 300) ∧ sm_cV 94 [.ref x0, .long (jV M2 (x0 + 5) (iV M2 (x0 + 4) v3.toNatClampNeg).toNatClampNeg), .int (if (Int32.ofNat st - (1 : Int32)) < (0 : Int32) then (0 : Int32) else (Int32.ofNat st - (1 : Int32))), .int (Int32.ofNat n)] M2 (fun M8 => SH M8 → sm_w 91 (28, [some (.ref x0), some (.ref x1), some (.int (Int32.ofNat f)), some (.int (Int32.ofNat n)), some (.int (Int32.ofNat st)), some (.int (v3)), some (.int (Int32.ofNat (st + c) + (1 : Int32))), none], []) M8 (rV Q))))))) := by
        refine (s73 hS hx hC hxN hr).mono fun v M2 k2 s2 => ?_
        obtain ⟨k21, k22⟩ := k2
        subst k22
        have keep : (∀ p, p < T 0 0 0 → T 3 p 0 = c + 1 → ¬ mt T n (rwd n L) p st) → lvA M2 x0 n T (Sx T n L st (c + 1)) := fun hno => hV.c fun p a hp => by
          constructor
          · intro z
            exact ⟨z.1, by have := z.2; omega⟩
          · intro z
            refine ⟨z.1, ?_⟩
            rcases z.2 with y | ⟨y1, y2⟩
            · exact Or.inl y
            · right
              refine ⟨y1, ?_⟩
              rcases Nat.lt_or_ge c (T 3 p 0) with w | w
              · have := z.1
                rw [y1] at this
                exact absurd this (hno p hp (by omega))
              · exact w
        by_cases hix : ixQ N par sg x (rwd n L (st + c)) < N
        · rw [if_pos hix] at k21 ews
          have hy := hix
          rw [ews] at ih
          subst k21
          revert ews ih hy
          generalize ixQ N par sg x (rwd n L (st + c)) = y
          intro ih ews hy
          rw [o_cl (by omega)]
          refine ⟨fun c => absurd c (o_nn (by omega)), fun _ => ⟨(o_in (by omega)).mpr (by omega), ?_⟩⟩
          rw [o_s]
          rcases hG.2.2.1 y hy with ⟨g1, g2⟩ | ⟨q, g1, g2, g3⟩
          · rw [g1]
            refine ⟨fun _ => ih M2 s2 hC hG hB (keep fun p hp hm3 hm => ?_) hA, fun c => absurd (by decide) c⟩
            have e1 := (hG.2.2.2.1 p hp).2.1
            rw [wk_c (t := fun t => rwd n L (st + t)) _ fun i hi => hm.2 i hi, hm3, ews] at e1
            exact g2 p hp (Option.some.inj e1).symm
          · obtain ⟨q1, q2, q3⟩ := hG.2.2.2.1 q g1
            have w1 := hw.1
            rw [g2] at q2
            obtain ⟨i1, i2⟩ := wk_inj h0 hN.1 _ _ _ q2 ews
            have hm : mt T n (rwd n L) q st := ⟨by omega, i2⟩
            rw [g3, o_cl (by omega)]
            refine ⟨fun c => absurd c (o_nn (by omega)), fun _ => ⟨(o_in (by omega)).mpr (by omega), (o_in (by omega)).mpr (by omega), ?_⟩⟩
            have est : (if (Int32.ofNat st - (1 : Int32)) < (0 : Int32) then (0 : Int32) else (Int32.ofNat st - (1 : Int32))) = Int32.ofNat (st - 1) := by
              rcases Nat.eq_zero_or_pos st with z | z
              · subst z; rfl
              · rw [o_p z, if_neg (o_nn (by omega))]
            rw [est]
            obtain ⟨V, hVV⟩ := hV
            refine (s94 (V := V) s2 hx hn (by omega) q3 (dk_9 hw g1) (fun j hj => isL_9 hw (hVV j hj).2) (fun j hj => (hVV j hj).1)).mono fun M8 k8 s8 => ?_
            obtain ⟨k81, f8⟩ := k8
            have i8 : ∀ a k, x0 ≤ a → a ≤ x0 + 8 → iV M8 a k = iV M2 a k := fun a k h1 h2 => f8.2.1 a k (by unfold plv; omega)
            refine ih M8 s8 (hC.eq i8) (hG.eq i8 fun k => f8.2.2 _ k (by unfold plv; omega)) (fun i hi => by rw [f8.2.1 _ _ (by unfold plv; omega)]; exact hB i hi) ⟨fun j => upl T q (st - 1) V 13 j, fun j hj => ⟨k81 j hj, ?_⟩⟩ (hA.tr f8)
            show isL T (Sx T n L st (c + 1)) (j + 1) (upl T q (st - 1) V 13 j)
            rw [upl_s hw g1 hL hst hm]
            refine isL_c (isL_s (b := st) (hVV j hj).2 g1) fun p a hp => ?_
            constructor
            · rintro (z | ⟨z1, z2⟩)
              · exact ⟨z.1, by have := z.2; omega⟩
              · subst z1 z2
                exact ⟨hm, Or.inr ⟨rfl, by omega⟩⟩
            · intro z
              rcases z.2 with y | ⟨y1, y2⟩
              · exact Or.inl ⟨z.1, Or.inl y⟩
              · rcases Nat.lt_or_ge c (T 3 p 0) with w | w
                · right
                  subst y1
                  refine ⟨?_, rfl⟩
                  have e1 := (hG.2.2.2.1 p hp).2.1
                  rw [wk_c (t := fun t => rwd n L (a + t)) _ fun i hi => z.1.2 i hi, show T 3 p 0 = c + 1 from by omega, ews] at e1
                  have e2 : nd p = y := (Option.some.inj e1).symm
                  exact hG.2.1.2 p q hp g1 (e2.trans g2.symm)
                · exact Or.inl ⟨z.1, Or.inr ⟨y1, w⟩⟩
        · rw [if_neg hix] at k21 ews
          rw [ews] at ih
          subst k21
          refine ⟨fun _ => ?_, fun c => absurd (by decide) c⟩
          rw [o_s]
          refine ih M2 s2 hC hG hB (keep fun p hp hm3 hm => ?_) hA
          have e1 := (hG.2.2.2.1 p hp).2.1
          rw [wk_c (t := fun t => rwd n L (st + t)) _ fun i hi => hm.2 i hi, hm3, ews] at e1
          cases e1
      rw [o_eq0 (by omega), o_eq (by omega) (by omega)]
      refine ⟨fun c0 => g91_3 hS hx hx1 (g91_4 hS hx hx1 ⟨fun c => absurd c (by decide), fun _ => ?_⟩), fun c0 => ⟨fun c1 => g91_3 hS hx hx1 (g91_4 hS hx hx1 ⟨fun c => absurd c (by decide), fun _ => ?_⟩), fun c1 => g91_4 hS hx hx1 ⟨fun _ => ?_, fun c => absurd rfl c⟩⟩⟩
      · have er : rwd n L (st + c) = 46 := if_pos (Or.inl c0)
        rw [er] at tl
        exact tl
      · have er : rwd n L (st + c) = 46 := if_pos (Or.inr c1)
        rw [er] at tl
        exact tl
      · have er : rwd n L (st + c) = sml (L (st + c - 1)) := if_neg (by omega)
        have hl := lt_sm (hL (st + c - 1) (by omega))
        rw [show Int32.ofNat f + Int32.ofNat (st + c) = Int32.ofNat (f + (st + c)) from (Int32.ofNat_add f (st + c)).symm, o_p (by omega), o_cl (by omega), show f + (st + c) - 1 = f + (st + c - 1) from by omega, hB (st + c - 1) (by omega), p70_s M hl.2.2.1]
        rw [er] at tl
        exact ⟨(o_in (by omega)).mpr (by omega), tl⟩
theorem s91_1 {A : sm_M} (hx : fH x0) (hx1 : sA x1 1 nx1) (hne : ¬ x1 = x0 + 9) (hw : wT T) (hn : n ≤ 4000) (hfn : f + n ≤ nx1) (hnx : nx1 ≤ 8192) (hL : ∀ i, i < n → lt (L i) = true) : ∀ (d st : Nat), n + 1 - st = d → st ≤ n + 1 → ∀ M, SH M → cTb M x0 T → (∀ i, i < n → iV M x1 (f + i) = Int32.ofNat (L i)) → lvA M x0 n T (Sx T n L st 0) → Fr (plv x0) A M → sm_w 91 (15, [some (.ref x0), some (.ref x1), some (.int (Int32.ofNat f)), some (.int (Int32.ofNat n)), some (.int (Int32.ofNat st)), none, none, none], []) M (rV (fun M2 => lvA M2 x0 n T (mt T n (rwd n L)) ∧ Fr (plv x0) A M2)) := by
  intro d
  induction d with
  | zero =>
    intro st hd hst M hS hT hB hV hA
    have e : st = n + 1 := by omega
    subst e
    refine g91_1 hS hx hx1 ⟨fun _ => ⟨hV.c fun p a hp => ⟨fun z => z.1, fun z => ⟨z, ?_⟩⟩, hA⟩, fun c => absurd ((o_lt (by omega) (by omega)).mpr (by omega)) c⟩
    obtain ⟨⟨w1, w2⟩, w3⟩ := hw.2.1 p hp
    have z1 := z.1
    rcases Nat.lt_or_ge a (n + 1) with y | y
    · exact Or.inl y
    · have e1 : a = n + 1 := by omega
      have e2 := z.2 0 (by omega)
      subst e1
      have e3 : ld T p = 1 := by unfold ld; rw [if_pos (by rw [e2]; exact if_pos (Or.inr rfl))]
      omega
  | succ d ih =>
    intro st hd hst M hS hT hB hV hA
    obtain ⟨N, par, sg, nd, hC, hG⟩ := hT
    refine g91_1 hS hx hx1 ⟨fun c => absurd ((o_lt (by omega) (by omega)).mp c) (by omega), fun _ => ?_⟩
    exact s91_2 (Q := _) hx hx1 hne hw hn hfn hnx hL (by omega) (fun M2 s2 t2 b2 v2 f2 => ih (st + 1) (by omega) (by omega) M2 s2 t2 b2 v2 f2) 14 0 (by omega) (by omega) (by omega) M hS hC hG hB hV hA
theorem s91 {M : sm_M} (hS : SH M) (hx : fH x0) (hx1 : sA x1 1 nx1) (hne : ¬ x1 = x0 + 9) (hw : wT T) (hn : n ≤ 4000) (hfn : f + n ≤ nx1) (hnx : nx1 ≤ 8192) (hL : ∀ i, i < n → lt (L i) = true) (hT : cTb M x0 T) (hB : ∀ i, i < n → iV M x1 (f + i) = Int32.ofNat (L i)) : sm_cV 91 [.ref x0, .ref x1, .int (Int32.ofNat f), .int (Int32.ofNat n)] M (fun M2 => lvA M2 x0 n T (mt T n (rwd n L)) ∧ Fr (plv x0) M M2) := by
  have hxx := fH_s hx
  refine g91_0 hS hx hx1 ?_
  rw [o_s]
  refine (s92 (a := 0) (b := n + 1) (v := 0) hS (aH_9 hx) (by omega) (by omega) (by omega)).mono fun M1 k1 s1 => ?_
  obtain ⟨k11, f1⟩ := k1
  have f1 : Fr (plv x0) M M1 := f1.mono fun a k z => by unfold pfl at z; unfold plv; omega
  refine s91_1 hx hx1 hne hw hn hfn hnx hL (n + 1) 0 (by omega) (by omega) M1 s1 (hT.eq (fun a k h1 h2 => f1.2.1 a k (by unfold plv; omega)) fun k => f1.2.2 _ k (by unfold plv; omega)) (fun i hi => by rw [f1.2.1 _ _ (by unfold plv; omega)]; exact hB i hi) ⟨fun _ => 0, fun j hj => ⟨k11 j (by omega) (by omega), isL_0 fun p a hp z => ?_⟩⟩ f1
  have := (hw.2.1 p hp).1.1
  have := z.2
  omega
end LEV
