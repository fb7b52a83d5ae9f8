/-! SET: the reference makes its breaks, place by place. -/
section MBR2
variable {pb ps w : Nat → Nat} {kf jf : Nat → Nat → Int32} {pn pw : Nat} {H : Nat → Bool}
def pm1 (n : Nat) : Nat → Nat → Prop := fun a i => 150 ≤ a ∧ a ≤ 156 ∧ i = n
theorem s205_1 {A : sm_M} {k : Nat → Nat} (ek : k = uk H pb pn) (hP : wP pb ps pn pw) (hw : wF w kf jf) (h6 : un k pn ≤ 600) : ∀ (d p : Nat), pn - p = d → p ≤ pn → ∀ M, SH M → mP M pb ps pn pw → mH M H pn → mF M w kf jf → mRw M (un k p) (uD k (uW pn pb ps w kf jf) (ug pn ps w) (uh pn ps w) p) → jV M 116 67 = Int64.ofNat (ux k (uW pn pb ps w kf jf) (uh pn ps w) p) → Fr pmk A M → sm_w 205 (14, [some (.ref 116), some (.int (Int32.ofNat (us k p))), some (.int (Int32.ofNat (p + 1))), none, none, none, none], []) M (rV (fun M2 => mRw M2 (un k pn) (uD k (uW pn pb ps w kf jf) (ug pn ps w) (uh pn ps w) pn) ∧ jV M2 116 67 = Int64.ofNat (ux k (uW pn pb ps w kf jf) (uh pn ps w) pn) ∧ Fr pmk A M2)) := by
  have hn := hP.1
  intro d
  induction d with
  | zero =>
    intro p hd hp M hS hM hH hF hR hX hA
    have e : p = pn := by omega
    subst e
    refine g205_1 hS ?_
    rw [hM.1]
    exact ⟨fun _ => ⟨hR, hX, hA⟩, fun c => absurd ((o_lt (by omega) (by omega)).mpr (by omega)) c⟩
  | succ d ih =>
    intro p hd hp M hS hM hH hF hR hX hA
    have ih := ih (p + 1) (by omega) (by omega)
    have hun := un_mono k (p + 1) (pn - (p + 1))
    rw [show p + 1 + (pn - (p + 1)) = pn from by omega] at hun
    have hus := us_le k p
    have hkp : k (p + 1) ≤ 4 := by rw [ek]; exact (uk_3 (p + 1)).2
    have hk3 : k (p + 1) = 0 → p + 1 < pn := fun z => by
      have := (uk_3 (H := H) (pb := pb) (pn := pn) (p + 1)).1
      rw [← ek] at this
      omega
    obtain ⟨y1, y2⟩ := P204 hP hM hH (p := p + 1) (by omega)
    rw [← ek] at y1
    obtain ⟨l1, l2, l3, l4⟩ := ki_l hkp
    refine g205_1 hS ?_
    rw [hM.1, y1, l2]
    refine ⟨fun c => absurd ((o_lt (by omega) (by omega)).mp c) (by omega), fun _ => ⟨y2, fun c => ?_, fun c => ?_⟩⟩
    · have e600 : un k p < 600 := by
        rw [un_s, if_neg c] at hun
        omega
      have hWb := uW_b (pw := pw) hP hw (us k p) (p + 1) hus
      have hhb := uh_b (pw := pw) (kf := kf) (jf := jf) hP hw (p + 1)
      have hgb := ug_b (pw := pw) (kf := kf) (jf := jf) hP hw (p + 1)
      have hXb := ux_le (k := k) (W := uW pn pb ps w kf jf) (h := uh pn ps w) (uW_b (pw := pw) hP hw) (uh_b (pw := pw) (kf := kf) (jf := jf) hP hw) p
      obtain ⟨r1, r2, r3⟩ := hR
      obtain ⟨q1, q2, q3, q4⟩ := r2 (un k p) (Nat.le_refl _)
      have wd := s194 (a := us k p) (b := p + 1) (x := pb) (z := ps) hS a_146 a_147 hF (by omega) hus (by omega) (by omega) (fun i h1 _ => ⟨by have := hP.2.1 i (by omega); omega, (hM.2.2 i (by omega)).1⟩) (fun i h1 _ => ⟨by have := hP.2.1 i (by omega); omega, (hM.2.2 i (by omega)).2⟩)
      rw [pwd_uW hP hw hus (by omega)] at wd
      have oi : vp_in (Int32.ofNat (un k p + 1)) 602 := (o_in (by omega)).mpr (by omega)
      have ol : vp_in (Int32.ofNat (un k p)) 602 := (o_in (by omega)).mpr (by omega)
      have oc : (Int32.ofNat (un k p + 1)).toNatClampNeg = un k p + 1 := o_cl (by omega)
      have ok : (Int32.ofNat (un k p)).toNatClampNeg = un k p := o_cl (by omega)
      refine wd.mono fun v M2 k2 s2 => ?_
      obtain ⟨ev, eM⟩ := k2
      subst eM
      subst ev
      rw [r1, o_s, o_p (by omega), Nat.add_sub_cancel, oc, ok, o_p (k := p + 1) (by omega), Nat.add_sub_cancel, o_cl (n := p) (by omega), o_cl (n := p + 1) (by omega)]
      have gen : ∀ M5, SH M5 → Fr (pm1 (un k p + 1)) M2 M5 → iV M5 150 (un k p + 1) = Int32.ofNat (k (p + 1)) → iV M5 151 (un k p + 1) = Int32.ofNat (p + 1) → jV M5 152 (un k p + 1) = Int64.ofNat (uD k (uW pn pb ps w kf jf) (ug pn ps w) (uh pn ps w) p 2 (un k p) + uW pn pb ps w kf jf (us k p) (p + 1)) → jV M5 153 (un k p + 1) = Int64.ofNat (uD k (uW pn pb ps w kf jf) (ug pn ps w) (uh pn ps w) p 3 (un k p) + (if k (p + 1) = 0 then ug pn ps w (p + 1) else 0)) → jV M5 154 (un k p + 1) = Int64.ofNat (uD k (uW pn pb ps w kf jf) (ug pn ps w) (uh pn ps w) p 4 (un k p) + (if k (p + 1) = 0 then ug pn ps w (p + 1) / 2 else 0)) → jV M5 155 (un k p + 1) = Int64.ofNat (uD k (uW pn pb ps w kf jf) (ug pn ps w) (uh pn ps w) p 5 (un k p) + (if k (p + 1) = 0 then ug pn ps w (p + 1) / 3 else 0)) → jV M5 156 (un k p + 1) = Int64.ofNat (if k (p + 1) = 0 then ug pn ps w (p + 1) else if k (p + 1) = 1 then uh pn ps w (p + 1) else 0) → sm_w 205 (287, [some (.ref 116), some (.int (Int32.ofNat (us k (p + 1)))), some (.int (Int32.ofNat (p + 1))), none, some (.int (Int32.ofNat (un k p + 1))), some (.long (Int64.ofNat (uW pn pb ps w kf jf (us k p) (p + 1) + (if k (p + 1) = 1 then uh pn ps w (p + 1) else 0)))), none], []) M5 (rV (fun M2 => mRw M2 (un k pn) (uD k (uW pn pb ps w kf jf) (ug pn ps w) (uh pn ps w) pn) ∧ jV M2 116 67 = Int64.ofNat (ux k (uW pn pb ps w kf jf) (uh pn ps w) pn) ∧ Fr pmk A M2)) := by
        intro M5 s5 f5 g0 g1 g2 g3 g4 g5 g6
        have x5 : jV M5 116 67 = Int64.ofNat (ux k (uW pn pb ps w kf jf) (uh pn ps w) p) := by rw [f5.2.2 _ _ (by unfold pm1; omega)]; exact hX
        have fA : Fr pmk A M5 := hA.tr (f5.mono fun a i z => by unfold pm1 at z; unfold pmk; omega)
        have fin : ∀ M7, SH M7 → (∀ a i, ¬ (a = 116 ∧ i = 63) → iV M7 a i = iV M5 a i) → (∀ a i, ¬ (a = 116 ∧ i = 67) → jV M7 a i = jV M5 a i) → iV M7 116 63 = Int32.ofNat (un k p + 1) → jV M7 116 67 = Int64.ofNat (ux k (uW pn pb ps w kf jf) (uh pn ps w) (p + 1)) → Fr pmk A M7 → sm_w 205 (14, [some (.ref 116), some (.int (Int32.ofNat (us k (p + 1)))), some (.int (Int32.ofNat (p + 1 + 1))), none, none, none, none], []) M7 (rV (fun M2 => mRw M2 (un k pn) (uD k (uW pn pb ps w kf jf) (ug pn ps w) (uh pn ps w) pn) ∧ jV M2 116 67 = Int64.ofNat (ux k (uW pn pb ps w kf jf) (uh pn ps w) pn) ∧ Fr pmk A M2)) := by
          intro M7 s7 i7 j7 h63 h67 f7
          have i2 : ∀ a i, ¬ (a = 116 ∧ i = 63) → ¬ pm1 (un k p + 1) a i → iV M7 a i = iV M2 a i := fun a i z1 z2 => (i7 a i z1).trans (f5.2.1 a i z2)
          refine ih M7 s7 ⟨by rw [i2 _ _ (by omega) (by unfold pm1; omega)]; exact hM.1, by rw [i2 _ _ (by omega) (by unfold pm1; omega)]; exact hM.2.1, fun i hi => by rw [i2 _ _ (by omega) (by unfold pm1; omega), i2 _ _ (by omega) (by unfold pm1; omega)]; exact hM.2.2 i hi⟩ (fun i hi => by rw [i2 _ _ (by omega) (by unfold pm1; omega)]; exact hH i hi) (hF.eq (i2 _ _ (by omega) (by unfold pm1; omega)) (i2 _ _ (by omega) (by unfold pm1; omega)) fun a i z => i2 _ _ (by omega) (by unfold pm1; omega)) ?_ h67 f7
          refine mRw_s c ⟨r1, r2, r3⟩ h63 (fun a i z1 z2 z3 => ⟨i2 _ _ (by omega) (by unfold pm1; omega), (j7 a i (by omega)).trans (f5.2.2 a i (by unfold pm1; omega))⟩) ⟨by rw [i7 _ _ (by omega)]; exact g0, by rw [i7 _ _ (by omega)]; exact g1, by rw [j7 _ _ (by omega)]; exact g2, by rw [j7 _ _ (by omega)]; exact g3, by rw [j7 _ _ (by omega)]; exact g4, by rw [j7 _ _ (by omega)]; exact g5, by rw [j7 _ _ (by omega)]; exact g6⟩
        refine g205_2 s5 ?_
        rw [x5, j_le (by split <;> omega) (by omega), o_s]
        refine ⟨fun c7 M6 s6 e6 => ?_, fun c7 M6 s6 e6 M7 s7 e7 => ?_⟩
        · refine fin M6 s6 (fun a i z => by rw [e6, iV_wI, if_neg z]) (fun a i z => by rw [e6, jV_wI]) (by rw [e6, iV_wI, if_pos ⟨rfl, rfl⟩]) ?_ (by rw [e6]; exact fA.wI (Or.inl ⟨rfl, Or.inl rfl⟩))
          rw [e6, jV_wI, x5, ux_s, if_neg c]
          congr 1
          omega
        · refine fin M7 s7 (fun a i z => by rw [e7, iV_wI, if_neg z, e6, iV_wJ]) (fun a i z => by rw [e7, jV_wI, e6, jV_wJ, if_neg z]) (by rw [e7, iV_wI, if_pos ⟨rfl, rfl⟩]) ?_ (by rw [e7, e6]; exact (fA.wJ (Or.inl ⟨rfl, Or.inr rfl⟩)).wI (Or.inl ⟨rfl, Or.inl rfl⟩))
          rw [e7, jV_wI, e6, jV_wJ, if_pos ⟨rfl, rfl⟩, ux_s, if_neg c]
          congr 1
          omega
      refine ⟨oi, fun M6 s6 e6 => ⟨oi, fun M9 s9 e9 => ⟨ol, oi, fun M13 s13 e13 => ⟨ol, oi, fun M17 s17 e17 => ⟨ol, oi, fun M21 s21 e21 => ⟨ol, oi, fun M25 s25 e25 => ⟨oi, fun M28 s28 e28 => ?_⟩⟩⟩⟩⟩⟩⟩
      have f28 : Fr (pm1 (un k p + 1)) M2 M28 := by
        rw [e28, e25, e21, e17, e13, e9, e6]
        exact (((((((Fr.rf _ _).wI ⟨by omega, by omega, rfl⟩).wI ⟨by omega, by omega, rfl⟩).wJ ⟨by omega, by omega, rfl⟩).wJ ⟨by omega, by omega, rfl⟩).wJ ⟨by omega, by omega, rfl⟩).wJ ⟨by omega, by omega, rfl⟩).wJ ⟨by omega, by omega, rfl⟩
      have v0 : iV M28 150 (un k p + 1) = Int32.ofNat (k (p + 1)) := by rw [e28, iV_wJ, e25, iV_wJ, e21, iV_wJ, e17, iV_wJ, e13, iV_wJ, e9, iV_wI, if_neg (by omega), e6, iV_wI, if_pos ⟨rfl, rfl⟩, ki_1 c]
      have v1 : iV M28 151 (un k p + 1) = Int32.ofNat (p + 1) := by rw [e28, iV_wJ, e25, iV_wJ, e21, iV_wJ, e17, iV_wJ, e13, iV_wJ, e9, iV_wI, if_pos ⟨rfl, rfl⟩]
      have v2 : jV M28 152 (un k p + 1) = Int64.ofNat (uD k (uW pn pb ps w kf jf) (ug pn ps w) (uh pn ps w) p 2 (un k p) + uW pn pb ps w kf jf (us k p) (p + 1)) := by rw [e28, jV_wJ, if_neg (by omega), e25, jV_wJ, if_neg (by omega), e21, jV_wJ, if_neg (by omega), e17, jV_wJ, if_neg (by omega), e13, jV_wJ, if_pos ⟨rfl, rfl⟩, e9, jV_wI, e6, jV_wI, q1, j_add]
      have v3 : jV M28 153 (un k p + 1) = Int64.ofNat (uD k (uW pn pb ps w kf jf) (ug pn ps w) (uh pn ps w) p 3 (un k p)) := by rw [e28, jV_wJ, if_neg (by omega), e25, jV_wJ, if_neg (by omega), e21, jV_wJ, if_neg (by omega), e17, jV_wJ, if_pos ⟨rfl, rfl⟩, e13, jV_wJ, if_neg (by omega), e9, jV_wI, e6, jV_wI, q2]
      have v4 : jV M28 154 (un k p + 1) = Int64.ofNat (uD k (uW pn pb ps w kf jf) (ug pn ps w) (uh pn ps w) p 4 (un k p)) := by rw [e28, jV_wJ, if_neg (by omega), e25, jV_wJ, if_neg (by omega), e21, jV_wJ, if_pos ⟨rfl, rfl⟩, e17, jV_wJ, if_neg (by omega), e13, jV_wJ, if_neg (by omega), e9, jV_wI, e6, jV_wI, q3]
      have v5 : jV M28 155 (un k p + 1) = Int64.ofNat (uD k (uW pn pb ps w kf jf) (ug pn ps w) (uh pn ps w) p 5 (un k p)) := by rw [e28, jV_wJ, if_neg (by omega), e25, jV_wJ, if_pos ⟨rfl, rfl⟩, e21, jV_wJ, if_neg (by omega), e17, jV_wJ, if_neg (by omega), e13, jV_wJ, if_neg (by omega), e9, jV_wI, e6, jV_wI, q4]
      have v6 : jV M28 156 (un k p + 1) = Int64.ofNat 0 := by rw [e28, jV_wJ, if_pos ⟨rfl, rfl⟩]; rfl
      have c28 : ∀ a i, (a = 147 ∨ a = 120) → iV M28 a i = iV M2 a i := fun a i z => f28.2.1 a i (by unfold pm1; omega)
      rw [l3, l4]
      refine ⟨fun c0 => ?_, fun c0 => ⟨fun c1 => ?_, fun c1 => ?_⟩⟩
      · have hlt := hk3 c0
        rw [c28 147 (p + 1) (Or.inl rfl), c28 120 _ (Or.inr rfl), (hM.2.2 (p + 1) hlt).2, show ((32 : Int32).toNatClampNeg) = 32 from rfl, hF.1 32 (by omega), p196_sc, (sc_N (by have := hP.2.1 (p + 1) hlt; omega) (hw.1 32 (by omega))).1]
        have eg : ps (p + 1) * w 32 / 1000 = ug pn ps w (p + 1) := by unfold ug; rw [if_pos hlt]
        rw [eg]
        refine ⟨(o_in (by omega)).mpr (by omega), (o_in (n := 32) (by omega)).mpr (by omega), oi, fun M33 s33 e33 => ⟨oi, oi, fun M37 s37 e37 => ⟨oi, oi, fun M41 s41 e41 => ⟨oi, oi, fun M45 s45 e45 => ?_⟩⟩⟩⟩
        have f45 : Fr (pm1 (un k p + 1)) M2 M45 := by
          rw [e45, e41, e37, e33]
          exact (((f28.wJ ⟨by omega, by omega, rfl⟩).wJ ⟨by omega, by omega, rfl⟩).wJ ⟨by omega, by omega, rfl⟩).wJ ⟨by omega, by omega, rfl⟩
        have w33 : jV M33 156 (un k p + 1) = Int64.ofNat (ug pn ps w (p + 1)) := by rw [e33, jV_wJ, if_pos ⟨rfl, rfl⟩]
        have w37 : jV M37 156 (un k p + 1) = Int64.ofNat (ug pn ps w (p + 1)) := by rw [e37, jV_wJ, if_neg (by omega)]; exact w33
        have w41 : jV M41 156 (un k p + 1) = Int64.ofNat (ug pn ps w (p + 1)) := by rw [e41, jV_wJ, if_neg (by omega)]; exact w37
        have i45 : ∀ a i, iV M45 a i = iV M28 a i := fun a i => by rw [e45, iV_wJ, e41, iV_wJ, e37, iV_wJ, e33, iV_wJ]
        have gg := gen M45 s45 f45 (by rw [i45]; exact v0) (by rw [i45]; exact v1) (by rw [e45, jV_wJ, if_neg (by omega), e41, jV_wJ, if_neg (by omega), e37, jV_wJ, if_neg (by omega), e33, jV_wJ, if_neg (by omega)]; exact v2) (by
          rw [e45, jV_wJ, if_neg (by omega), e41, jV_wJ, if_neg (by omega), e37, jV_wJ, if_pos ⟨rfl, rfl⟩, w33, e33, jV_wJ, if_neg (by omega), v3, j_add, if_pos c0]) (by
          rw [e45, jV_wJ, if_neg (by omega), e41, jV_wJ, if_pos ⟨rfl, rfl⟩, w37, e37, jV_wJ, if_neg (by omega), e33, jV_wJ, if_neg (by omega), v4, show (2 : Int64) = Int64.ofNat 2 from rfl, j_div (by omega) (by omega), j_add, if_pos c0]) (by
          rw [e45, jV_wJ, if_pos ⟨rfl, rfl⟩, w41, e41, jV_wJ, if_neg (by omega), e37, jV_wJ, if_neg (by omega), e33, jV_wJ, if_neg (by omega), v5, show (3 : Int64) = Int64.ofNat 3 from rfl, j_div (by omega) (by omega), j_add, if_pos c0]) (by rw [e45, jV_wJ, if_neg (by omega), w41, if_pos c0])
        rw [us_s, if_neg c, if_pos c0, if_neg (show ¬ k (p + 1) = 1 by omega), Nat.add_zero] at gg
        rw [o_s]
        exact gg
      · rw [c28 147 p (Or.inl rfl), c28 120 _ (Or.inr rfl), (hM.2.2 p (by omega)).2, show ((45 : Int32).toNatClampNeg) = 45 from rfl, hF.1 45 (by omega), p196_sc, (sc_N (by have := hP.2.1 p (by omega); omega) (hw.1 45 (by omega))).1]
        have eg : ps p * w 45 / 1000 = uh pn ps w (p + 1) := by unfold uh; rw [Nat.add_sub_cancel, if_pos (by omega)]
        rw [eg]
        refine ⟨(o_in (by omega)).mpr (by omega), (o_in (n := 45) (by omega)).mpr (by omega), oi, fun M50 s50 e50 => ⟨oi, ?_⟩⟩
        have w50 : jV M50 156 (un k p + 1) = Int64.ofNat (uh pn ps w (p + 1)) := by rw [e50, jV_wJ, if_pos ⟨rfl, rfl⟩]
        have gg := gen M50 s50 (by rw [e50]; exact f28.wJ ⟨by omega, by omega, rfl⟩) (by rw [e50, iV_wJ]; exact v0) (by rw [e50, iV_wJ]; exact v1) (by rw [e50, jV_wJ, if_neg (by omega)]; exact v2) (by rw [e50, jV_wJ, if_neg (by omega), if_neg c0]; exact v3) (by rw [e50, jV_wJ, if_neg (by omega), if_neg c0]; exact v4) (by rw [e50, jV_wJ, if_neg (by omega), if_neg c0]; exact v5) (by rw [w50, if_neg c0, if_pos c1])
        rw [us_s, if_neg c, if_neg c0, if_pos c1] at gg
        rw [w50, j_add]
        exact gg
      · have gg := gen M28 s28 f28 v0 v1 v2 (by rw [if_neg c0]; exact v3) (by rw [if_neg c0]; exact v4) (by rw [if_neg c0]; exact v5) (by rw [if_neg c0, if_neg c1]; exact v6)
        rw [us_s, if_neg c, if_neg c0, if_neg c1, Nat.add_zero] at gg
        exact gg
    · have c : k (p + 1) = 4 := Classical.not_not.mp c
      rw [un_s, us_s, ux_s, if_pos c, if_pos c, if_pos c] at ih
      rw [o_s]
      exact ih M hS hM hH hF (by
        refine ⟨hR.1, fun b hb => ?_, fun b b1 hb => ?_⟩
        · simp only [uD_4 c]; exact hR.2.1 b hb
        · simp only [uD_4 c]; exact hR.2.2 b b1 hb) hX hA
theorem s205 {M : sm_M} (hS : SH M) (hP : wP pb ps pn pw) (hw : wF w kf jf) (h6 : un (uk H pb pn) pn ≤ 600) (hM : mP M pb ps pn pw) (hH : mH M H pn) (hF : mF M w kf jf) (h0 : jV M 152 0 = 0 ∧ jV M 153 0 = 0 ∧ jV M 154 0 = 0 ∧ jV M 155 0 = 0) : sm_cV 205 [.ref 116] M (fun M2 => mRw M2 (un (uk H pb pn) pn) (uD (uk H pb pn) (uW pn pb ps w kf jf) (ug pn ps w) (uh pn ps w) pn) ∧ jV M2 116 67 = Int64.ofNat (ux (uk H pb pn) (uW pn pb ps w kf jf) (uh pn ps w) pn) ∧ Fr pmk M M2) := by
  refine g205_0 hS fun M1 s1 e1 M3 s3 e3 => ?_
  have f3 : Fr pmk M M3 := by rw [e3, e1]; exact ((Fr.rf _ _).wI (Or.inl ⟨rfl, Or.inl rfl⟩)).wJ (Or.inl ⟨rfl, Or.inr rfl⟩)
  have i3 : ∀ a i, ¬ (a = 116 ∧ i = 63) → iV M3 a i = iV M a i := fun a i z => by rw [e3, iV_wJ, e1, iV_wI, if_neg z]
  have j3 : ∀ a i, ¬ (a = 116 ∧ i = 67) → jV M3 a i = jV M a i := fun a i z => by rw [e3, jV_wJ, if_neg z, e1, jV_wI]
  refine s205_1 (pw := pw) rfl hP hw h6 pn 0 (by omega) (by omega) M3 s3 ⟨by rw [i3 _ _ (by omega)]; exact hM.1, by rw [i3 _ _ (by omega)]; exact hM.2.1, fun i hi => by rw [i3 _ _ (by omega), i3 _ _ (by omega)]; exact hM.2.2 i hi⟩ (fun i hi => by rw [i3 _ _ (by omega)]; exact hH i hi) (hF.eq (i3 _ _ (by omega)) (i3 _ _ (by omega)) fun a i z => i3 _ _ (by omega)) ⟨by rw [e3, iV_wJ, e1, iV_wI, if_pos ⟨rfl, rfl⟩]; rfl, fun b hb => ?_, fun b b1 hb => ?_⟩ (by rw [e3, jV_wJ, if_pos ⟨rfl, rfl⟩]; rfl) f3
  · have hb : b ≤ 0 := hb
    have eb : b = 0 := by omega
    subst eb
    rw [j3 _ _ (by omega), j3 _ _ (by omega), j3 _ _ (by omega), j3 _ _ (by omega)]
    exact h0
  · have hb : b ≤ 0 := hb
    omega
end MBR2
