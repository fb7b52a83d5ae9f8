/-! LINES: measure, oneLine. -/
theorem cK.fr {M M2 : sm_M} {o : Nat} {D : Nat → Nat → Nat} {p : Nat → Nat → Prop} (h : cK M o D) (f : Fr p M M2) (hp : ∀ a k, o ≤ a → a ≤ o + 13 → ¬ p a k) : cK M2 o D := by
  obtain ⟨h1, h2, h3, h4, h5, h6⟩ := h
  have ei : ∀ a k, o ≤ a → a ≤ o + 13 → iV M2 a k = iV M a k := fun a k z1 z2 => f.2.1 a k (hp a k z1 z2)
  have ej : ∀ a k, o ≤ a → a ≤ o + 13 → jV M2 a k = jV M a k := fun a k z1 z2 => f.2.2 a k (hp a k z1 z2)
  refine ⟨by rw [ei _ _ (by omega) (by omega)]; exact h1, fun b hb => ?_, fun b h0 hb => by rw [ei _ _ (by omega) (by omega)]; exact h3 b h0 hb, by rw [ei _ _ (by omega) (by omega)]; exact h4, by rw [ei _ _ (by omega) (by omega)]; exact h5, by rw [ei _ _ (by omega) (by omega)]; exact h6⟩
  rw [ei _ _ (by omega) (by omega), ei _ _ (by omega) (by omega), ei _ _ (by omega) (by omega), ej _ _ (by omega) (by omega), ej _ _ (by omega) (by omega), ej _ _ (by omega) (by omega), ej _ _ (by omega) (by omega)]
  exact h2 b hb
theorem P113 {M : sm_M} {o i : Nat} {D : Nat → Nat → Nat} (hw : wK D) (hK : cK M o D) (hi : i ≤ 600) : p113_0 M o (Int32.ofNat i) = Int64.ofNat (eL D i) := by
  obtain ⟨-, -, -, -, -, w1, w2, w3, w4⟩ := hw
  unfold p113_0 eL
  rw [hK.2.2.2.1, hK.2.2.2.2.1]
  by_cases c : i = 0
  · rw [if_pos ((o_eq0 (by omega)).mpr c), if_pos c]
    have e : (Int32.ofNat (D 12 2) - Int32.ofNat (D 12 3)).toInt = (D 12 2 : Int) - D 12 3 := by
      rw [z_sub, o_ti (by omega), o_ti (by omega)]
      · rw [o_ti (by omega), o_ti (by omega)]; omega
      · rw [o_ti (by omega), o_ti (by omega)]; omega
    have k : Int32.ofNat (D 12 2) - Int32.ofNat (D 12 3) < (1000 : Int32) ↔ D 12 2 - D 12 3 < 1000 := by
      rw [z_lt, e, show (1000 : Int32).toInt = 1000 from rfl]; omega
    by_cases c1 : D 12 2 - D 12 3 < 1000
    · rw [if_pos (k.mpr c1), if_pos c1]; rfl
    · rw [if_neg (mt k.mp c1), if_neg c1, y_eq, Int32.toInt_toInt64, e, j_ti (by omega)]; omega
  · rw [if_neg (mt (o_eq0 (by omega)).mp c), if_neg c]
    exact j_i64 (by omega)
def pl (l : Nat) : Nat → Nat → Prop := fun a _ => a = l
theorem s112 {M : sm_M} {o l i j : Nat} {D : Nat → Nat → Nat} (hS : SH M) (ho : fS o) (hl : fL l) (hw : wK D) (hK : cK M o D) (hij : i < j) (hj : j ≤ D 12 0) : sm_cV 112 [.ref o, .ref l, .int (Int32.ofNat i), .int (Int32.ofNat j)] M (fun M2 => cLine M2 l D i j ∧ Fr (pl l) M M2) := by
  have hn := hw.1
  have hb := lb hw hij hj
  have hm := eM_le hw hij hj
  have hd : ∀ a k, o ≤ a → a ≤ o + 13 → ¬ pl l a k := fun a k z1 z2 => by unfold pl; unfold fS at ho; unfold fL at hl; omega
  have mo := hw.2.1
  have m1 := mo i j (by omega) hj
  have m2 := mo i (j - 1) (by omega) (by omega)
  refine g112_0 hS ho hl fun M1 s1 e1 M3 s3 e3 M5 s5 e5 => ?_
  have f3 : Fr (pl l) M M3 := by rw [e3, e1]; exact ((Fr.rf (pl l) _).wI rfl).wI rfl
  have K3 := hK.fr f3 hd
  rw [P113 hw K3 (by omega)] at e5
  have f5 : Fr (pl l) M M5 := by rw [e5]; exact f3.wJ rfl
  have K5 := hK.fr f5 hd
  obtain ⟨a1, a2, a3, a4, a5, a6, a7⟩ := K5.2.1 j hj
  obtain ⟨b1, b2, b3, b4, b5, b6, b7⟩ := K5.2.1 i (by omega)
  obtain ⟨c1, c2, c3, c4, c5, c6, c7⟩ := K5.2.1 (j - 1) (by omega)
  have in1 : vp_in (Int32.ofNat j) 601 := (o_in (by omega)).mpr (by omega)
  have in2 : vp_in (Int32.ofNat i) 601 := (o_in (by omega)).mpr (by omega)
  have in3 : vp_in (Int32.ofNat j - 1) 601 := by rw [o_p (by omega)]; exact (o_in (by omega)).mpr (by omega)
  refine ⟨⟨in1, in2, in3, in2⟩, in1, fun M9 s9 e9 => ?_⟩
  have ep : p114_0 M5 o (Int32.ofNat i) (Int32.ofNat j) + (iV M5 (o + 1 + 5) (Int32.ofNat j).toNatClampNeg).toInt64 = Int64.ofNat (eN D i j) := by
    unfold p114_0 eN
    rw [o_p (by omega), o_cl (n := j) (by omega), o_cl (n := i) (by omega), o_cl (n := j - 1) (by omega), a4, b4, c5, b5, K5.2.2.1 j (by omega) hj, j_i64 (by have := hw.2.2.1 j hj; omega), j_sub m1.1, j_add, j_sub (by omega), j_add]
    congr 1
    omega
  rw [ep] at e9
  have f9 : Fr (pl l) M M9 := by rw [e9]; exact f5.wJ rfl
  have K9 := hK.fr f9 hd
  have w0 : iV M9 l 0 = Int32.ofNat i := by rw [e9, iV_wJ, e5, iV_wJ, e3, iV_wI, if_neg (by omega), e1, iV_wI, if_pos ⟨rfl, rfl⟩]
  have w1 : iV M9 l 1 = Int32.ofNat j := by rw [e9, iV_wJ, e5, iV_wJ, e3, iV_wI, if_pos ⟨rfl, rfl⟩]
  have w2 : jV M9 l 2 = Int64.ofNat (eN D i j) := by rw [e9, jV_wJ, if_pos ⟨rfl, rfl⟩]
  have w5 : jV M9 l 5 = Int64.ofNat (eL D i) := by rw [e9, jV_wJ, if_neg (by omega), e5, jV_wJ, if_pos ⟨rfl, rfl⟩]
  -- the end, from the stretch and the shrink
  have fin : ∀ (Mp Mq : sm_M), SH Mq → Mp = sm_wJ M9 l 3 (Int64.ofNat (eA D i j)) → Mq = sm_wJ Mp l 4 (Int64.ofNat (eZ D i j)) → ((Int32.ofNat j = (iV Mq (o + 1) 3) → ∀ M19, SH M19 → M19 = sm_wI Mq l 6 (1 : Int32) → sm_cV 115 [.ref l] M19 (fun M21 => SH M21 → cLine M21 l D i j ∧ Fr (pl l) M M21)) ∧ (¬ Int32.ofNat j = (iV Mq (o + 1) 3) → ∀ M24, SH M24 → M24 = sm_wI Mq l 6 (0 : Int32) → sm_cV 115 [.ref l] M24 (fun M26 => SH M26 → cLine M26 l D i j ∧ Fr (pl l) M M26))) := fun Mp Mq sq ep eq => by
    have fq : Fr (pl l) M Mq := by rw [eq, ep]; exact (f9.wJ rfl).wJ rfl
    have Kq := hK.fr fq hd
    have last : ∀ (c : Int32) (Mr : sm_M), SH Mr → Mr = sm_wI Mq l 6 c → (c = 0 ↔ ¬ j = D 12 0) → sm_cV 115 [.ref l] Mr (fun M21 => SH M21 → cLine M21 l D i j ∧ Fr (pl l) M M21) := fun c Mr sr er hc => by
      have v0 : iV Mr l 0 = Int32.ofNat i := by rw [er, iV_wI, if_neg (by omega), eq, iV_wJ, ep, iV_wJ]; exact w0
      have v1 : iV Mr l 1 = Int32.ofNat j := by rw [er, iV_wI, if_neg (by omega), eq, iV_wJ, ep, iV_wJ]; exact w1
      have v2 : jV Mr l 2 = Int64.ofNat (eN D i j) := by rw [er, jV_wI, eq, jV_wJ, if_neg (by omega), ep, jV_wJ, if_neg (by omega)]; exact w2
      have v3 : jV Mr l 3 = Int64.ofNat (eA D i j) := by rw [er, jV_wI, eq, jV_wJ, if_neg (by omega), ep, jV_wJ, if_pos ⟨rfl, rfl⟩]
      have v4 : jV Mr l 4 = Int64.ofNat (eZ D i j) := by rw [er, jV_wI, eq, jV_wJ, if_pos ⟨rfl, rfl⟩]
      have v5 : jV Mr l 5 = Int64.ofNat (eL D i) := by rw [er, jV_wI, eq, jV_wJ, if_neg (by omega), ep, jV_wJ, if_neg (by omega)]; exact w5
      have v6 : iV Mr l 6 = 0 ↔ ¬ j = D 12 0 := by
        rw [er, iV_wI, if_pos ⟨rfl, rfl⟩]; exact hc
      have fr : Fr (pl l) M Mr := by rw [er]; exact fq.wI rfl
      refine (s115 sr hl hb hm v2 v3 v4 v5 v6).mono fun M2 k2 s2 => ?_
      obtain ⟨k1, k3, k4, k5, k6⟩ := k2
      refine ⟨⟨?_, ?_, ?_, ?_, ?_, ?_, ?_, k1, k3, k4, k5⟩, fr.tr (k6.mono fun a k z => z.1)⟩
      · rw [k6.2.1 l 0 (by unfold pl7; omega)]; exact v0
      · rw [k6.2.1 l 1 (by unfold pl7; omega)]; exact v1
      · rw [k6.2.2 l 2 (by unfold pl7; omega)]; exact v2
      · rw [k6.2.2 l 3 (by unfold pl7; omega)]; exact v3
      · rw [k6.2.2 l 4 (by unfold pl7; omega)]; exact v4
      · rw [k6.2.2 l 5 (by unfold pl7; omega)]; exact v5
      · rw [k6.2.1 l 6 (by unfold pl7; omega)]; exact v6
    rw [Kq.1, o_eq (by omega) (by omega)]
    exact ⟨fun c M19 s19 e19 => last 1 M19 s19 e19 ⟨fun w => absurd w (by decide), fun w => absurd c w⟩, fun c M24 s24 e24 => last 0 M24 s24 e24 ⟨fun _ => c, fun _ => rfl⟩⟩
  have e4 := K9.2.2.2.2.2
  have hal := hw.2.2.2.2.2
  rw [e4, o_eq0 (by omega), o_p (by omega), o_cl (n := j - 1) (by omega), o_cl (n := i) (by omega)]
  obtain ⟨-, -, -, -, -, d6, -⟩ := K9.2.1 (j - 1) (by omega)
  obtain ⟨-, -, -, -, -, d7, -⟩ := K9.2.1 i (by omega)
  have in4 : vp_in (Int32.ofNat (j - 1)) 601 := (o_in (by omega)).mpr (by omega)
  refine ⟨fun c => ⟨in4, in2, fun M13 s13 e13 => ⟨in4, in2, fun M17 s17 e17 => ?_⟩⟩, fun c M29 s29 e29 M31 s31 e31 => ?_⟩
  · rw [d6, d7, j_sub m2.2.2.1] at e13
    have f13 : Fr (pl l) M M13 := by rw [e13]; exact f9.wJ rfl
    have K13 := hK.fr f13 hd
    obtain ⟨-, -, -, -, -, -, d8⟩ := K13.2.1 (j - 1) (by omega)
    obtain ⟨-, -, -, -, -, -, d9⟩ := K13.2.1 i (by omega)
    rw [d8, d9, j_sub m2.2.2.2] at e17
    have hA : eA D i j = D 4 (j - 1) - D 4 i := by unfold eA; rw [if_pos c]
    have hZ : eZ D i j = D 5 (j - 1) - D 5 i := by unfold eZ; rw [if_pos c]
    rw [← hA] at e13
    rw [← hZ] at e17
    exact fin M13 M17 s17 e13 e17
  · have v5 := w5
    have hA : eA D i j = eL D i := by unfold eA; rw [if_neg c]
    have hZ : eZ D i j = 0 := by unfold eZ; rw [if_neg c]
    rw [v5, ← hA] at e29
    rw [show (0 : Int64) = Int64.ofNat 0 from rfl, ← hZ] at e31
    exact fin M29 M31 s31 e29 e31
