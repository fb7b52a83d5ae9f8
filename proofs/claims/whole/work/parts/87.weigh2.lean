/-! CHOOSING: the reference's search, whole. -/
section WEI2
variable {D : Nat → Nat → Nat} {x1 x2 : Int32}
def wPost (D : Nat → Nat → Nat) (A : sm_M) (v : Int32) (M2 : sm_M) : Prop := ((v = 0 ∧ ∀ c, c < 4 → Ent D (D 12 0) c = none) ∨ (v = 1 ∧ ∃ c, c < 4 ∧ ¬ Ent D (D 12 0) c = none)) ∧ (∀ b, b ≤ D 12 0 → ∀ c, c < 4 → mE M2 (4 * b + c) (Ent D b c)) ∧ Fr pwg A M2
theorem s206_2 {A : sm_M} (hw : wK D) (hm : (x2 = 0 ∧ x1 = Int32.ofNat (D 12 5) ∧ D 12 5 ≤ 10000) ∨ (x2 = 1 ∧ D 12 5 = 10001)) : ∀ (d j : Nat), D 12 0 + 1 - j = d → 1 ≤ j → j ≤ D 12 0 + 1 → ∀ M, SH M → mK M D → T2 M D j 0 → Fr pwg A M → sm_w 206 (50, [some (.ref 116), some (.int (x1)), some (.int (x2)), some (.int (Int32.ofNat j)), none, none, none, none, none, none], []) M (rI (wPost D A)) := by
  have hn := hw.1
  intro d
  induction d with
  | zero =>
    intro j hd h1 hj M hS hK hT hA
    have e : j = D 12 0 + 1 := by omega
    subst e
    have hTf : ∀ b, b ≤ D 12 0 → ∀ c, c < 4 → mE M (4 * b + c) (Ent D b c) := fun b hb c hc => by
      have z := hT b hb c hc
      rw [if_pos (by omega)] at z
      exact z
    refine g206_2 hS ?_
    rw [hK.1]
    refine ⟨fun _ => ?_, fun c => absurd ((o_lt (by omega) (by omega)).mpr (by omega)) c⟩
    exact s206_6 hS hw hK hTf (fun h => ⟨Or.inl ⟨rfl, h⟩, hTf, hA⟩) (fun h => ⟨Or.inr ⟨rfl, h⟩, hTf, hA⟩) 4 0 (by omega) (by omega) (fun c hc => by omega)
  | succ d ih =>
    intro j hd h1 hj M hS hK hT hA
    refine g206_2 hS ?_
    rw [hK.1]
    refine ⟨fun c => absurd ((o_lt (by omega) (by omega)).mp c) (by omega), fun _ => ?_⟩
    exact s206_3 hw hm h1 (by omega) (fun M2 s2 K2 T2' f2 => ih (j + 1) (by omega) (by omega) (by omega) M2 s2 K2 T2' f2) _ 0 rfl (Nat.zero_le _) M hS hK hT hA
theorem s206_1 {A : sm_M} (hw : wK D) (hm : (x2 = 0 ∧ x1 = Int32.ofNat (D 12 5) ∧ D 12 5 ≤ 10000) ∨ (x2 = 1 ∧ D 12 5 = 10001)) : ∀ (d s : Nat), 4 * (D 12 0 + 1) - s = d → s ≤ 4 * (D 12 0 + 1) → ∀ M, SH M → mK M D → (∀ k, k < s → iV M 160 k = 0) → Fr pwg A M → sm_w 206 (2, [some (.ref 116), some (.int (x1)), some (.int (x2)), some (.int (Int32.ofNat s)), none, none, none, none, none, none], []) M (rI (wPost D A)) := by
  have hn := hw.1
  have e1' : ((1 : Int32) &&& 1) = 1 := by decide
  have e0' : ((0 : Int32) &&& 1) = 0 := by decide
  have t1 : (1 : Int32).toNatClampNeg = 1 := rfl
  intro d
  induction d with
  | zero =>
    intro s hd hs M hS hK hz hA
    refine g206_1 hS ?_
    rw [hK.1, o_s, show (4 : Int32) = Int32.ofNat 4 from rfl, ← Int32.ofNat_mul, e1', t1]
    have in1 : vp_in (1 : Int32) 2408 := (o_in (n := 1) (by omega)).mpr (by omega)
    refine ⟨fun _ => ⟨in1, fun M2 s2 e2 => ⟨in1, fun M5 s5 e5 => ⟨in1, fun M8 s8 e8 => ?_⟩⟩⟩, fun c => absurd ((o_le (by omega) (by omega)).mpr (by omega)) c⟩
    have f8 : Fr pwg M M8 := by
      rw [e8, e5, e2]
      exact (((Fr.rf _ _).wI (Or.inr (Or.inr (Or.inr rfl)))).wJ (Or.inr (Or.inl rfl))).wI (Or.inr (Or.inr (Or.inl rfl)))
    refine s206_2 hw hm _ 1 rfl (Nat.le_refl _) (by omega) M8 s8 (hK.fr f8 pwg_K) (fun b hb c hc => ?_) (hA.tr f8)
    have v160 : iV M8 160 (4 * b + c) = if 4 * b + c = 1 then 1 else 0 := by
      rw [e8, iV_wI, if_neg (by omega), e5, iV_wJ, e2, iV_wI]
      by_cases q : 4 * b + c = 1
      · rw [if_pos ⟨rfl, q⟩, if_pos q]
      · rw [if_neg (by omega), if_neg q]; exact hz _ (by omega)
    by_cases c1 : b < 1
    · have e : b = 0 := by omega
      subst e
      rw [if_pos c1]
      show mE M8 (4 * 0 + c) (ini c)
      unfold ini
      by_cases c2 : c = 1
      · rw [if_pos c2]
        refine ⟨by rw [v160, if_pos (by omega)], ?_, fun z => by omega⟩
        rw [e8, jV_wI, e5, jV_wJ, if_pos ⟨rfl, by omega⟩]; rfl
      · rw [if_neg c2]
        show iV M8 160 (4 * 0 + c) = 0
        rw [v160, if_neg (by omega)]
    · rw [if_neg c1]
      have nn : (if b = 1 then Pt D 1 0 c else none) = none := by
        by_cases c2 : b = 1
        · rw [if_pos c2, Pt_0 (by omega)]
        · rw [if_neg c2]
      rw [nn]
      show iV M8 160 (4 * b + c) = 0
      rw [v160, if_neg (by omega)]
  | succ d ih =>
    intro s hd hs M hS hK hz hA
    refine g206_1 hS ?_
    rw [hK.1, o_s (D 12 0), show (4 : Int32) = Int32.ofNat 4 from rfl, ← Int32.ofNat_mul, e0', o_s s, o_cl (n := s) (by omega)]
    refine ⟨fun c => absurd ((o_le (by omega) (by omega)).mp c) (by omega), fun _ => ⟨(o_in (by omega)).mpr (by omega), fun M11 s11 e11 => ?_⟩⟩
    have f11 : Fr pwg M M11 := by rw [e11]; exact (Fr.rf _ _).wI (Or.inr (Or.inr (Or.inr rfl)))
    refine ih (s + 1) (by omega) (by omega) M11 s11 (hK.fr f11 pwg_K) (fun k hk => ?_) (hA.tr f11)
    rw [e11, iV_wI]
    by_cases q : k = s
    · rw [if_pos ⟨rfl, q⟩]
    · rw [if_neg (by omega)]; exact hz k (by omega)
theorem s206 {M : sm_M} (hS : SH M) (hw : wK D) (hm : (x2 = 0 ∧ x1 = Int32.ofNat (D 12 5) ∧ D 12 5 ≤ 10000) ∨ (x2 = 1 ∧ D 12 5 = 10001)) (hK : mK M D) : sm_cI 206 [.ref 116, .int (x1), .int (x2)] M (wPost D M) := g206_0 hS (s206_1 hw hm _ 0 rfl (Nat.zero_le _) M hS hK (fun k hk => by omega) (Fr.rf _ _))
end WEI2
