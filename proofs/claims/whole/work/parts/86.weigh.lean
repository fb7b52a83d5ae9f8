/-! CHOOSING: the reference's search. -/
def pwg : Nat → Nat → Prop := fun a k => a = 116 ∧ 78 ≤ k ∧ k ≤ 85 ∨ a = 158 ∨ a = 159 ∨ a = 160
def T2 (M : sm_M) (D : Nat → Nat → Nat) (j i : Nat) : Prop := ∀ b, b ≤ D 12 0 → ∀ c, c < 4 → mE M (4 * b + c) (if b < j then Ent D b c else if b = j then Pt D j i c else none)
section WEI
variable {D : Nat → Nat → Nat} {x1 x2 : Int32}
theorem pwg_K : (∀ k, 60 ≤ k → k ≤ 63 → ¬ pwg 116 k) ∧ ∀ a k, 150 ≤ a → a ≤ 156 → ¬ pwg a k := ⟨fun k z1 z2 => by unfold pwg; omega, fun a k z1 z2 => by unfold pwg; omega⟩
theorem s206_3 {A : sm_M} {K : Int32 → sm_M → Prop} {j : Nat} (hw : wK D) (hm : (x2 = 0 ∧ x1 = Int32.ofNat (D 12 5) ∧ D 12 5 ≤ 10000) ∨ (x2 = 1 ∧ D 12 5 = 10001)) (h1 : 1 ≤ j) (hj : j ≤ D 12 0) (hk : ∀ M2, SH M2 → mK M2 D → T2 M2 D (j + 1) 0 → Fr pwg A M2 → sm_w 206 (50, [some (.ref 116), some (.int (x1)), some (.int (x2)), some (.int (Int32.ofNat (j + 1))), none, none, none, none, none, none], []) M2 (rI K)) : ∀ (d i : Nat), j - i = d → i ≤ j → ∀ M, SH M → mK M D → T2 M D j i → Fr pwg A M → sm_w 206 (61, [some (.ref 116), some (.int (x1)), some (.int (x2)), some (.int (Int32.ofNat j)), some (.int (Int32.ofNat i)), none, none, none, none, none], []) M (rI K) := by
  have hn := hw.1
  intro d
  induction d with
  | zero =>
    intro i hd hi M hS hK hT hA
    have e : i = j := by omega
    subst e
    refine g206_3 hS ⟨fun _ => ?_, fun c => absurd (Int32.le_refl _) c⟩
    rw [o_s]
    refine hk M hS hK (fun b hb c hc => ?_) hA
    have z := hT b hb c hc
    by_cases c1 : b < i
    · rw [if_pos c1] at z
      rw [if_pos (by omega)]
      exact z
    · by_cases c2 : b = i
      · rw [if_neg c1, if_pos c2] at z
        rw [if_pos (by omega)]
        rw [c2] at z ⊢
        exact z
      · rw [if_neg c1, if_neg c2] at z
        rw [if_neg (by omega)]
        by_cases c3 : b = i + 1
        · rw [if_pos c3, Pt_0 (by omega)]; exact z
        · rw [if_neg c3]; exact z
  | succ d ih =>
    intro i hd hi M hS hK hT hA
    have ih := ih (i + 1) (by omega) (by omega)
    have hij : i < j := by omega
    have hP : ∀ c, c < 4 → mE M (4 * i + c) (Ent D i c) := fun c hc => by
      have z := hT i (by omega) c hc
      rw [if_pos hij] at z
      exact z
    have hQ : ∀ c, c < 4 → mE M (4 * j + c) (Pt D j i c) := fun c hc => by
      have z := hT j hj c hc
      rw [if_neg (by omega), if_pos rfl] at z
      exact z
    -- the same table, one break further, where nothing has changed
    have same : ∀ M2, Fr pm7 M M2 → Pt D j (i + 1) = Pt D j i → T2 M2 D j (i + 1) := fun M2 f e b hb c hc => by
      rw [e]
      exact mE_fr (hT b hb c hc) f (by unfold pm7; omega)
    have zr : ∀ c, c < 4 → (iV M 160 (4 * i + c) = 0 ↔ Ent D i c = none) := fun c hc => by
      have z := hP c hc
      cases hq : Ent D i c with
      | none => rw [hq] at z; exact ⟨fun _ => rfl, fun _ => z⟩
      | some x =>
        obtain ⟨k, b, h⟩ := x
        rw [hq] at z
        rw [z.1]
        exact ⟨fun w => absurd w (by decide), fun w => by cases w⟩
    -- some kind of break i is reached
    have go : sm_w 206 (124, [some (.ref 116), some (.int (x1)), some (.int (x2)), some (.int (Int32.ofNat j)), some (.int (Int32.ofNat i)), none, none, none, none, none], []) M (rI K) := by
      refine g206_4 hS ((s207 hS hw hK hij hj).mono fun M1 k1 s1 => ?_)
      obtain ⟨kl, kf⟩ := k1
      have hB := eB_le D i j
      have hC := eC_le D i j
      have hmM := eM_le hw hij hj
      have K1 := hK.fr kf ⟨fun k z1 z2 => by unfold pm7; omega, fun a k z1 z2 => by unfold pm7; omega⟩
      have A1 : Fr pwg A M1 := hA.tr (kf.mono fun a k z => by unfold pm7 at z; unfold pwg; omega)
      have no : ¬ jok D i j → sm_w 206 (61, [some (.ref 116), some (.int (x1)), some (.int (x2)), some (.int (Int32.ofNat j)), some (.int (Int32.ofNat i + (1 : Int32))), none, none, none, none, none], []) M1 (rI K) := fun cj => by
        rw [o_s]
        exact ih M1 s1 K1 (same M1 kf (by rw [Pt_s hij, lst_n cj])) A1
      have yes : jok D i j → sm_w 206 (166, [some (.ref 116), some (.int (x1)), some (.int (x2)), some (.int (Int32.ofNat j)), some (.int (Int32.ofNat i)), some (.int (((4 : Int32) * Int32.ofNat j) + (p209_0 M1))), some (.int ((0 : Int32))), none, none, none], []) M1 (rI K) := fun cj => by
        have hwQ := (Pt_w hw j hj).2 i (by omega) h1
        rw [P209 hmM kl, show (4 : Int32) = Int32.ofNat 4 from rfl, ← Int32.ofNat_mul, ← Int32.ofNat_add]
        have T1 : ∀ b, b ≤ D 12 0 → ∀ c, c < 4 → mE M1 (4 * b + c) (if b < j then Ent D b c else if b = j then Pt D j i c else none) := fun b hb c hc => mE_fr (hT b hb c hc) kf (by unfold pm7; omega)
        refine s206_5 (A := M1) (Q := Pt D j i) hw hij hj 4 0 (by omega) (by omega) M1 s1 K1 kl (fun c hc => mE_fr (hP c hc) kf (by unfold pm7; omega)) (mE_fr (hQ _ (by omega)) kf (by unfold pm7; omega)) (wE_bE (by omega) (hwQ _)) (fun k b h e => ?_) (fun k b h e hb => ?_) (Fr.rf _ _) (fun M2 s2 m2 f2 => ?_)
        · have := (hwQ _ k b h e).2.1
          omega
        · have := (hwQ _ k b h e).2.1
          omega
        · refine ih M2 s2 (K1.fr f2 ⟨fun k z1 z2 => by unfold p160; omega, fun a k z1 z2 => by unfold p160; omega⟩) (fun b hb c hc => ?_) (A1.tr (f2.mono fun a k z => by unfold p160 at z; unfold pwg; omega))
          by_cases c2 : b = j
          · subst c2
            rw [if_neg (by omega), if_pos rfl, Pt_s hij, lst_y cj]
            by_cases c3 : c = eC D i b
            · rw [c3]; exact m2
            · rw [stp_o c3]
              have z := T1 b hb c hc
              rw [if_neg (by omega), if_pos rfl] at z
              exact mE_fr z f2 (by unfold p160; omega)
          · have z := T1 b hb c hc
            by_cases c1 : b < j
            · rw [if_pos c1] at z ⊢
              exact mE_fr z f2 (by unfold p160; omega)
            · rw [if_neg c1, if_neg c2] at z ⊢
              exact mE_fr z f2 (by unfold p160; omega)
      rw [kl.2.2.2.2.2.2, kl.2.2.2.2.1]
      rcases hm with ⟨m1, m2, m3⟩ | ⟨m1, m2⟩
      · have kb : Int32.ofNat (eB D i j) ≤ x1 ↔ eB D i j ≤ D 12 5 := by rw [m2]; exact o_le (by omega) (by omega)
        rw [kb]
        refine ⟨fun _ => ⟨fun cx => ⟨fun cb => yes ⟨cb, Or.inl cx⟩, fun cb => no (fun w => cb w.1)⟩, fun cx => no (fun w => ?_)⟩, fun c => absurd m1 c⟩
        rcases w.2 with q | q
        · exact cx q
        · omega
      · exact ⟨fun c => absurd (m1.symm.trans c) (by decide), fun _ => yes ⟨by omega, Or.inr m2⟩⟩
    have e4 : (4 : Int32) * Int32.ofNat i = Int32.ofNat (4 * i) := by
      rw [show (4 : Int32) = Int32.ofNat 4 from rfl, ← Int32.ofNat_mul]
    refine g206_3 hS ⟨fun c => absurd ((o_le (by omega) (by omega)).mp c) (by omega), fun _ => ?_⟩
    rw [e4, show (1 : Int32) = Int32.ofNat 1 from rfl, show (2 : Int32) = Int32.ofNat 2 from rfl, show (3 : Int32) = Int32.ofNat 3 from rfl, ← Int32.ofNat_add, ← Int32.ofNat_add, ← Int32.ofNat_add, ← Int32.ofNat_add, o_cl (n := 4 * i) (by omega), o_cl (n := 4 * i + 1) (by omega), o_cl (n := 4 * i + 2) (by omega), o_cl (n := 4 * i + 3) (by omega), zr 1 (by omega), zr 2 (by omega), zr 3 (by omega)]
    have z0 : iV M 160 (4 * i) = 0 ↔ Ent D i 0 = none := zr 0 (by omega)
    rw [z0]
    have inn : ∀ q, q < 2404 → vp_in (Int32.ofNat q) 2408 := fun q hq => (o_in (by omega)).mpr (by omega)
    refine ⟨inn _ (by omega), fun c0 => ⟨inn _ (by omega), fun c1 => ⟨inn _ (by omega), fun c2 => ⟨inn _ (by omega), fun c3 => ?_, fun _ => go⟩, fun _ => go⟩, fun _ => go⟩, fun _ => go⟩
    have hno : ∀ c, c < 4 → Ent D i c = none := fun c hc => by
      rcases (show c = 0 ∨ c = 1 ∨ c = 2 ∨ c = 3 by omega) with h | h | h | h <;> subst h <;> assumption
    exact ih M hS hK (same M (Fr.rf _ _) (by rw [Pt_s hij, lst_e hno])) hA
theorem s206_6 {M : sm_M} {K : Int32 → sm_M → Prop} (hS : SH M) (hw : wK D) (hK : mK M D) (hT : ∀ b, b ≤ D 12 0 → ∀ c, c < 4 → mE M (4 * b + c) (Ent D b c)) (k0 : (∀ c, c < 4 → Ent D (D 12 0) c = none) → K 0 M) (k1 : (∃ c, c < 4 ∧ ¬ Ent D (D 12 0) c = none) → K 1 M) : ∀ (d g : Nat), 4 - g = d → g ≤ 4 → (∀ c, c < g → Ent D (D 12 0) c = none) → sm_w 206 (314, [some (.ref 116), none, none, some (.int (Int32.ofNat g)), none, none, none, none, none, none], []) M (rI K) := by
  have hn := hw.1
  intro d
  induction d with
  | zero =>
    intro g hd hg h
    have e : g = 4 := by omega
    subst e
    exact g206_6 hS ⟨fun _ => k0 h, fun c => absurd (Int32.le_refl _) c⟩
  | succ d ih =>
    intro g hd hg h
    refine g206_6 hS ⟨fun c => absurd ((o_le (n := 4) (by omega) (by omega)).mp c) (by omega), fun _ => ?_⟩
    rw [hK.1, show (4 : Int32) = Int32.ofNat 4 from rfl, ← Int32.ofNat_mul, ← Int32.ofNat_add, o_cl (by omega), o_s]
    have z := hT (D 12 0) (Nat.le_refl _) g (by omega)
    refine ⟨(o_in (by omega)).mpr (by omega), fun c => ih (g + 1) (by omega) (by omega) (fun q hq => ?_), fun c => k1 ⟨g, by omega, fun w => ?_⟩⟩
    · by_cases e : q = g
      · rw [e]
        cases hq2 : Ent D (D 12 0) g with
        | none => rfl
        | some x =>
          obtain ⟨k, b, h'⟩ := x
          rw [hq2] at z
          rw [z.1] at c
          exact absurd c (by decide)
      · exact h q (by omega)
    · rw [w] at z
      exact c z
end WEI
