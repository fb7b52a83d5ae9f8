/-! TEXT: the reference. -/
def pmt : Nat → Nat → Prop := fun a k => a = 116 ∧ (k = 0 ∨ k = 6) ∨ a = 119
section TEXT2
variable {D : Nat → Nat → Nat} {x : Int32}
theorem s220_1 {A : sm_M} {q : Nat} (hw : wK D) (hl : wL D) (hq : q < D 12 7) : ∀ (d k : Nat), D 1 (D 10 q) - tf D (lf D q) - k = d → k ≤ D 1 (D 10 q) - tf D (lf D q) → ∀ M, SH M → mK M D → mLn M D → iV M 116 0 = 0 → mO M (tO D (lf D q) (D 10 q)) k → Fr pmt A M → sm_w 220 (87, [some (.ref 116), some (.int (Int32.ofNat q)), none, none, some (.int (Int32.ofNat (tf D (lf D q) + k)))], []) M (rI (fun v M2 => v = Int32.ofNat (tL D (lf D q) (D 10 q)) ∧ iV M2 116 0 = 0 ∧ mO M2 (tO D (lf D q) (D 10 q)) (tL D (lf D q) (D 10 q)) ∧ Fr pmt A M2)) := by
  have hn := hw.1
  have hq7 := hl.1
  obtain ⟨l1, l2, l3, l4, l5, l6⟩ := hl
  obtain ⟨q1, q2⟩ := l2 q hq
  have hj4 := hw.2.2.1 (D 10 q) q2
  have l5j := l5 (D 10 q) q2
  have htf : tf D (lf D q) ≤ 4001 := by
    unfold tf
    have := hw.2.2.1 (lf D q) (by omega)
    split
    · omega
    · split <;> omega
  have inq : vp_in (Int32.ofNat q) 602 := (o_in (by omega)).mpr (by omega)
  have inj : vp_in (Int32.ofNat (D 10 q)) 602 := (o_in (by omega)).mpr (by omega)
  have hpK : (∀ k, 60 ≤ k → k ≤ 63 → ¬ pmt 116 k) ∧ ∀ a k, 150 ≤ a → a ≤ 156 → ¬ pmt a k := ⟨fun k z1 z2 => by unfold pmt; omega, fun a k z1 z2 => by unfold pmt; omega⟩
  have hpL : (∀ k, 64 ≤ k → k ≤ 67 → ¬ pmt 116 k) ∧ (∀ k, ¬ pmt 149 k) ∧ ∀ a k, 161 ≤ a → a ≤ 163 → ¬ pmt a k := ⟨fun k z1 z2 => by unfold pmt; omega, fun k => by unfold pmt; omega, fun a k z1 z2 => by unfold pmt; omega⟩
  intro d
  induction d with
  | zero =>
    intro k hd0 hk M hS hK hL h0 hO hA
    have e : k = D 1 (D 10 q) - tf D (lf D q) := by omega
    obtain ⟨a1, a2, a3⟩ := hL.2.2.2.2.1 q hq
    obtain ⟨b1, b2, b3⟩ := hK.2.2.1 (D 10 q) (by omega) q2
    refine g220_1 hS ?_
    rw [o_cl (n := q) (by omega), a2, o_cl (n := D 10 q) (by omega), b1, b2, hO.1, show (1 : Int32) = Int32.ofNat 1 from rfl, o_eq (n := D 0 (D 10 q)) (m := 1) (by omega) (by omega)]
    refine ⟨inq, inj, fun _ => ⟨inq, inj, fun c => ⟨(o_in (by omega)).mpr (by omega), fun M6 s6 e6 M8 s8 e8 => ?_⟩, fun c => ?_⟩, fun c => absurd ((o_le (by omega) (by omega)).mpr (by omega)) c⟩
    · rw [o_cl (by omega)] at e6
      have et : tL D (lf D q) (D 10 q) = k + 1 := by unfold tL; rw [if_pos c]; omega
      have v6 : iV M6 116 6 = Int32.ofNat k := by rw [e6, iV_wI, if_neg (by omega)]; exact hO.1
      rw [v6, ← Int32.ofNat_add] at e8
      have v8 : iV M8 116 6 = Int32.ofNat (k + 1) := by rw [e8, iV_wI, if_pos ⟨rfl, rfl⟩]
      rw [et]
      refine ⟨v8, ?_, ⟨v8, fun i hi => ?_⟩, ?_⟩
      · rw [e8, iV_wI, if_neg (by omega), e6, iV_wI, if_neg (by omega)]; exact h0
      · rw [e8, iV_wI, if_neg (by omega), e6, iV_wI]
        by_cases h : i = k
        · rw [if_pos ⟨rfl, h⟩]
          unfold tO
          rw [if_neg (by omega)]; rfl
        · rw [if_neg (by omega)]; exact hO.2 i (by omega)
      · rw [e8, e6]; exact (hA.wI (Or.inr rfl)).wI (Or.inl ⟨rfl, Or.inr rfl⟩)
    · have et : tL D (lf D q) (D 10 q) = k := by unfold tL; rw [if_neg c]; omega
      rw [et]
      exact ⟨rfl, h0, hO, hA⟩
  | succ d ih =>
    intro k hd0 hk M hS hK hL h0 hO hA
    obtain ⟨a1, a2, a3⟩ := hL.2.2.2.2.1 q hq
    obtain ⟨b1, b2, b3⟩ := hK.2.2.1 (D 10 q) (by omega) q2
    refine g220_1 hS ?_
    rw [o_cl (n := q) (by omega), a2, o_cl (n := D 10 q) (by omega), b2, hO.1]
    refine ⟨inq, inj, fun c => absurd ((o_le (by omega) (by omega)).mp c) (by omega), fun _ => ⟨(o_in (by omega)).mpr (by omega), (o_in (by omega)).mpr (by omega), fun M12 s12 e12 M14 s14 e14 => ?_⟩⟩
    rw [o_cl (n := k) (by omega), o_cl (by omega), hL.2.2.2.2.2 (tf D (lf D q) + k) (by omega)] at e12
    have v12 : iV M12 116 6 = Int32.ofNat k := by rw [e12, iV_wI, if_neg (by omega)]; exact hO.1
    rw [v12, o_s] at e14
    rw [o_s]
    have f14 : Fr pmt M M14 := by rw [e14, e12]; exact ((Fr.rf _ _).wI (Or.inr rfl)).wI (Or.inl ⟨rfl, Or.inr rfl⟩)
    refine ih (k + 1) (by omega) (by omega) M14 s14 (hK.fr f14 hpK) (hL.fr f14 hpL) (by rw [e14, iV_wI, if_neg (by omega), e12, iV_wI, if_neg (by omega)]; exact h0) ⟨by rw [e14, iV_wI, if_pos ⟨rfl, rfl⟩], fun i hi => ?_⟩ (hA.tr f14)
    rw [e14, iV_wI, if_neg (by omega), e12, iV_wI]
    by_cases h : i = k
    · rw [if_pos ⟨rfl, h⟩]
      unfold tO
      rw [if_pos (by omega), h]
    · rw [if_neg (by omega)]; exact hO.2 i (by omega)
theorem s220n {M : sm_M} (hS : SH M) (hs : iV M 116 59 = 0) : sm_cI 220 [.ref 116, .int (x)] M (fun _ M2 => ((x < 0 ∧ iV M2 116 0 = 1) ∨ (¬ x < 0 ∧ iV M2 116 0 = 2)) ∧ Fr pm0 M M2) := by
  refine g220_0 hS ⟨fun c => ⟨fun _ M4 s4 e4 => ⟨Or.inr ⟨Int32.not_lt.mpr c, by rw [e4, iV_wI, if_pos ⟨rfl, rfl⟩]⟩, by rw [e4]; exact (Fr.rf _ _).wI ⟨rfl, rfl⟩⟩, fun c2 => absurd hs c2⟩, fun c M27 s27 e27 => ⟨Or.inl ⟨Int32.not_le.mp c, by rw [e27, iV_wI, if_pos ⟨rfl, rfl⟩]⟩, by rw [e27]; exact (Fr.rf _ _).wI ⟨rfl, rfl⟩⟩⟩
theorem s220 {M : sm_M} (hS : SH M) (hs : ¬ iV M 116 59 = 0) (hw : wK D) (hl : wL D) (hK : mK M D) (hL : mLn M D) : sm_cI 220 [.ref 116, .int (x)] M (fun v M2 => (¬ (¬ x < 0 ∧ x < Int32.ofNat (D 12 7)) ∧ iV M2 116 0 = 1 ∧ Fr pm0 M M2) ∨ ((¬ x < 0 ∧ x < Int32.ofNat (D 12 7)) ∧ v = Int32.ofNat (tL D (lf D x.toNatClampNeg) (D 10 x.toNatClampNeg)) ∧ iV M2 116 0 = 0 ∧ mO M2 (tO D (lf D x.toNatClampNeg) (D 10 x.toNatClampNeg)) (tL D (lf D x.toNatClampNeg) (D 10 x.toNatClampNeg)) ∧ Fr pmt M M2)) := by
  have hn := hw.1
  have hq7 := hl.1
  have set0 : ∀ (c : Int32) (M4 : sm_M), M4 = sm_wI M 116 0 c → iV M4 116 0 = c ∧ Fr pm0 M M4 := fun c M4 e4 => ⟨by rw [e4, iV_wI, if_pos ⟨rfl, rfl⟩], by rw [e4]; exact (Fr.rf _ _).wI ⟨rfl, rfl⟩⟩
  have hpK : (∀ k, 60 ≤ k → k ≤ 63 → ¬ pmt 116 k) ∧ ∀ a k, 150 ≤ a → a ≤ 156 → ¬ pmt a k := ⟨fun k z1 z2 => by unfold pmt; omega, fun a k z1 z2 => by unfold pmt; omega⟩
  have hpL : (∀ k, 64 ≤ k → k ≤ 67 → ¬ pmt 116 k) ∧ (∀ k, ¬ pmt 149 k) ∧ ∀ a k, 161 ≤ a → a ≤ 163 → ¬ pmt a k := ⟨fun k z1 z2 => by unfold pmt; omega, fun k => by unfold pmt; omega, fun a k z1 z2 => by unfold pmt; omega⟩
  refine g220_0 hS ?_
  rw [hL.2.2.1]
  refine ⟨fun c => ⟨fun c2 => absurd c2 hs, fun _ => ⟨fun c3 M6 s6 e6 => ?_, fun c3 M20 s20 e20 => Or.inl ⟨fun z => c3 z.2, set0 1 M20 e20⟩⟩⟩, fun c M25 s25 e25 => Or.inl ⟨fun z => c (Int32.not_lt.mp z.1), set0 1 M25 e25⟩⟩
  have c0 := Int32.not_lt.mpr c
  obtain ⟨q, hq, e⟩ := z_ps c0
  subst e
  have hql := (o_lt hq (by omega)).mp c3
  obtain ⟨q1, q2⟩ := hl.2.1 q hql
  have f6 : Fr pmt M M6 := (set0 0 M6 e6).2.mono fun a k z => Or.inl ⟨z.1, Or.inl z.2⟩
  have K6 := hK.fr f6 hpK
  have L6 := hL.fr f6 hpL
  have inq : vp_in (Int32.ofNat q) 602 := (o_in hq).mpr (by omega)
  have go : ∀ (y : Int32) (M9 : sm_M), SH M9 → M9 = sm_wI M6 116 6 (0 : Int32) → y = Int32.ofNat (tf D (lf D q)) → sm_w 220 (87, [some (.ref 116), some (.int (Int32.ofNat q)), none, none, some (.int (y))], []) M9 (rI (fun v M2 => (¬ (¬ Int32.ofNat q < 0 ∧ Int32.ofNat q < Int32.ofNat (D 12 7)) ∧ iV M2 116 0 = 1 ∧ Fr pm0 M M2) ∨ ((¬ Int32.ofNat q < 0 ∧ Int32.ofNat q < Int32.ofNat (D 12 7)) ∧ v = Int32.ofNat (tL D (lf D q) (D 10 q)) ∧ iV M2 116 0 = 0 ∧ mO M2 (tO D (lf D q) (D 10 q)) (tL D (lf D q) (D 10 q)) ∧ Fr pmt M M2))) := fun y M9 s9 e9 hy => by
    have f9 : Fr pmt M M9 := by rw [e9]; exact f6.wI (Or.inl ⟨rfl, Or.inr rfl⟩)
    have h := s220_1 (A := M) hw hl hql _ 0 rfl (Nat.zero_le _) M9 s9 (hK.fr f9 hpK) (hL.fr f9 hpL) (by rw [e9, iV_wI, if_neg (by omega)]; exact (set0 0 M6 e6).1) ⟨by rw [e9, iV_wI, if_pos ⟨rfl, rfl⟩]; rfl, fun i hi => by omega⟩ f9
    rw [hy]
    refine h.mono fun oo M2 z => ?_
    obtain ⟨v, z1, z2⟩ := z
    exact ⟨v, z1, Or.inr ⟨⟨c0, c3⟩, z2⟩⟩
  obtain ⟨a1, a2, a3⟩ := L6.2.2.2.2.1 q hql
  rw [o_cl hq, a1, o_eq0 (by omega), o_cl (by omega)]
  refine ⟨inq, fun h M9 s9 e9 => go _ M9 s9 e9 ?_, fun h => ?_⟩
  · unfold tf; rw [if_pos h]; rfl
  · obtain ⟨b1, b2, -⟩ := K6.2.2.1 (lf D q) (by omega) (by omega)
    have hk := hw.2.2.1 (lf D q) (by omega)
    rw [b1, b2, o_eq0 (by omega)]
    have ini : vp_in (Int32.ofNat (lf D q)) 602 := (o_in (by omega)).mpr (by omega)
    refine ⟨ini, ini, fun c4 M13 s13 e13 => go _ M13 s13 e13 ?_, fun c4 M15 s15 e15 => go _ M15 s15 e15 ?_⟩
    · unfold tf; rw [if_neg h, if_pos c4, o_s]
    · unfold tf; rw [if_neg h, if_neg c4]; exact Int32.add_zero _
end TEXT2
