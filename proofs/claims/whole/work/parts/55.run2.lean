/-! RUN: the kind and the reference. -/
def rOk (x : Int32) : Prop := ¬ x < 1000 ∧ x ≤ 100000
def rF (tb : Nat → Nat) (tn : Nat) : Nat := fs (fun i => wq (tb i)) tn 0
def rU (x : Int32) (tb : Nat → Nat) (tn : Nat) (pb ps : Nat → Nat) (pn pw : Nat) : (Nat → Nat) × (Nat → Nat) × Nat × Nat := pru x.toNatClampNeg tb (pb, ps, pn, pw) tn
/-- which end: 0 done, 1 .. 3 refused -/
noncomputable def rC (x : Int32) (tb : Nat → Nat) (tn : Nat) (pb ps : Nat → Nat) (pn pw : Nat) : Nat := if x < 1000 then 1 else if x ≤ 100000 then (if rF tb tn < tn then 2 else if 4000 < (rU x tb tn pb ps pn pw).2.2.1 then 3 else 0) else 1
noncomputable def rP (x : Int32) (tb : Nat → Nat) (tn : Nat) (pb ps : Nat → Nat) (pn pw : Nat) : Int32 := if rC x tb tn pb ps pn pw = 2 then Int32.ofNat (rF tb tn) else -1
noncomputable def rS (x : Int32) (tb : Nat → Nat) (tn : Nat) (pb ps : Nat → Nat) (pn pw : Nat) : (Nat → Nat) × (Nat → Nat) × Nat × Nat := if rC x tb tn pb ps pn pw = 0 then rU x tb tn pb ps pn pw else (pb, ps, pn, pw)
/-- the kind of what is thrown -/
def exk (c : Nat) : Nat := if c = 1 then 48 else if c = 2 then 50 else 51
def pR : Nat → Nat → Prop := fun a k => a = 30 ∨ a = 31 ∨ a = 32 ∨ a = 24 ∧ k = 1 ∨ a = 23 ∧ k = 16
theorem z_size {x : Int32} (h1 : ¬ x < 1000) (h2 : x ≤ 100000) : 1000 ≤ x.toNatClampNeg ∧ x.toNatClampNeg ≤ 100000 ∧ x = Int32.ofNat x.toNatClampNeg := by
  rw [z_lt, show (1000 : Int32).toInt = 1000 from rfl] at h1
  rw [z_le, show (100000 : Int32).toInt = 100000 from rfl] at h2
  obtain ⟨n, hn, e⟩ := z_of (x := x) (by omega)
  subst e
  rw [o_ti hn] at h1 h2
  rw [o_cl hn]
  exact ⟨by omega, by omega, rfl⟩
def cR (M1 : sm_M) (M : sm_M) (x : Int32) (tb : Nat → Nat) (tn : Nat) (pb ps : Nat → Nat) (pn pw : Nat) : Prop := cP M1 (rS x tb tn pb ps pn pw).1 (rS x tb tn pb ps pn pw).2.1 (rS x tb tn pb ps pn pw).2.2.1 (rS x tb tn pb ps pn pw).2.2.2 ∧ iV M1 24 1 = 0 ∧ iV M1 23 16 = rP x tb tn pb ps pn pw ∧ Fr pR M M1
theorem s77 {M : sm_M} {x : Int32} {tb : Nat → Nat} {tn : Nat} {pb ps : Nat → Nat} {pn pw : Nat} (hS : SH M) (hT : cY M 24 tb tn) (hP : cP M pb ps pn pw) (hw : wP pb ps pn pw) : sm_xI 77 [.ref 23, .int (x)] M (fun r M2 => ∃ M1, 0 < rC x tb tn pb ps pn pw ∧ SH M1 ∧ r = M1.1 ∧ M2 = sm_new M1 (exk (rC x tb tn pb ps pn pw)) 6 ∧ cR M1 M x tb tn pb ps pn pw) (fun v M2 => rC x tb tn pb ps pn pw = 0 ∧ v = Int32.ofNat (rS x tb tn pb ps pn pw).2.2.1 ∧ cR M2 M x tb tn pb ps pn pw) := by
  obtain ⟨t1, t2, t3⟩ := hT
  have t1 : tn ≤ 8192 := t1
  refine g77_0 hS ?_
  intro M1 s1 e1 M3 s3 e3
  rw [t2]
  have f3 : Fr pR M M3 := by
    rw [e3, e1]
    exact ((Fr.rf _ M).wI (Or.inr (Or.inr (Or.inr (Or.inl ⟨rfl, rfl⟩))))).wI (Or.inr (Or.inr (Or.inr (Or.inr ⟨rfl, rfl⟩))))
  have a3 : iV M3 24 1 = 0 := by rw [e3, iV_wI, if_neg (by omega), e1, iV_wI, if_pos ⟨rfl, rfl⟩]
  have b3 : iV M3 23 16 = -1 := by rw [e3, iV_wI, if_pos ⟨rfl, rfl⟩]
  have c3 : cP M3 pb ps pn pw := by
    obtain ⟨q1, q2, q3⟩ := hP
    refine ⟨?_, ?_, fun i hi => ?_⟩
    · rw [e3, iV_wI, if_neg (by omega), e1, iV_wI, if_neg (by omega)]; exact q1
    · rw [e3, iV_wI, if_neg (by omega), e1, iV_wI, if_neg (by omega)]; exact q2
    · have := q3 i hi
      grind [iV_wI]
  have t3' : ∀ i, i < tn → tb i < 256 ∧ iV M3 25 i = sb (tb i) := fun i hi => ⟨(t3 i hi).1, by rw [e3, iV_wI, if_neg (by omega), e1, iV_wI, if_neg (by omega)]; exact (t3 i hi).2⟩
  have bad : rC x tb tn pb ps pn pw = 1 → cR M3 M x tb tn pb ps pn pw := fun h => by
    unfold cR rS rP
    rw [h, if_neg (by decide), if_neg (by decide)]
    exact ⟨c3, a3, b3, f3⟩
  refine ⟨fun c => ?_, fun c => ⟨fun c2 => ?_, fun c2 => ?_⟩⟩
  · have h1 : rC x tb tn pb ps pn pw = 1 := by unfold rC; rw [if_pos c]
    refine ⟨M3, by omega, s3, rfl, by rw [h1]; rfl, bad h1⟩
  · obtain ⟨z1, z2, z3⟩ := z_size c c2
    refine (s80 s3 t1 t3').mono fun v8 M8 k8 s8 M11 s11 e11 => ?_
    obtain ⟨k81, k82⟩ := k8
    subst k82
    have ef : fs (fun i => wq (tb i)) tn 0 = rF tb tn := rfl
    rw [ef] at k81
    have v11 : iV M11 23 16 = v8 := by rw [e11, iV_wI, if_pos ⟨rfl, rfl⟩]
    have f11 : Fr pR M M11 := by
      rw [e11]
      exact f3.wI (Or.inr (Or.inr (Or.inr (Or.inr ⟨rfl, rfl⟩))))
    have a11 : iV M11 24 1 = 0 := by rw [e11, iV_wI, if_neg (by omega)]; exact a3
    have c11 : cP M11 pb ps pn pw := by
      obtain ⟨q1, q2, q3⟩ := c3
      refine ⟨?_, ?_, fun i hi => ?_⟩
      · rw [e11, iV_wI, if_neg (by omega)]; exact q1
      · rw [e11, iV_wI, if_neg (by omega)]; exact q2
      · have := q3 i hi
        grind [iV_wI]
    have t11 : ∀ i, i < tn → tb i < 256 ∧ iV M11 25 i = sb (tb i) := fun i hi => ⟨(t3' i hi).1, by rw [e11, iV_wI, if_neg (by omega)]; exact (t3' i hi).2⟩
    rw [v11, k81]
    have hfl : rF tb tn ≤ tn := fs_le (Nat.zero_le _)
    by_cases hf : rF tb tn < tn
    · have h2 : rC x tb tn pb ps pn pw = 2 := by unfold rC; rw [if_neg c, if_pos c2, if_pos hf]
      rw [if_pos hf]
      refine ⟨fun c5 => absurd c5 (o_nn (by omega)), fun _ => ⟨M11, by omega, s11, rfl, by rw [h2]; rfl, ?_⟩⟩
      unfold cR rS rP
      rw [h2, if_neg (by decide), if_pos rfl]
      exact ⟨c11, a11, by rw [v11, k81, if_pos hf], f11⟩
    · rw [if_neg hf]
      have b11 : iV M11 23 16 = -1 := by rw [v11, k81, if_neg hf]
      have hok : ∀ i, i < tn → bk (tb i) = true ∨ 33 ≤ tb i ∧ tb i ≤ 126 := fun i hi => by
        have h5 := fs_no (p := fun i => wq (tb i)) (n := tn) (i := 0) (k := i) (Nat.zero_le _) (Nat.zero_le _) (by rw [ef]; omega)
        unfold wq at h5
        by_cases hb : bk (tb i) = true
        · exact Or.inl hb
        · refine Or.inr ?_
          simp [hb] at h5
          omega
      refine ⟨fun _ => ?_, fun c5 => absurd (by decide) c5⟩
      refine (s81 (z := x.toNatClampNeg) s11 t1 t11 (by omega) c11 hw).mono fun v14 M13 k13 s13 => ?_
      obtain ⟨k131, k132⟩ := k13
      subst k132
      have e14 : v14 = Int32.ofNat (rU x tb tn pb ps pn pw).2.2.1 := k131
      have h9 : (rU x tb tn pb ps pn pw).2.2.1 ≤ pn + 2 * tn := pru_2 x.toNatClampNeg tb (pb, ps, pn, pw) tn
      have hpn := hw.1
      rw [e14, show (4000 : Int32) = Int32.ofNat 4000 from rfl, o_le (by omega) (by omega)]
      refine ⟨fun c6 => ?_, fun c6 => ?_⟩
      · have h0 : rC x tb tn pb ps pn pw = 0 := by unfold rC; rw [if_neg c, if_pos c2, if_neg hf, if_neg (by omega)]
        have hs : rS x tb tn pb ps pn pw = rU x tb tn pb ps pn pw := by unfold rS; rw [if_pos h0]
        have h82 := s82_1 (s := (pb, ps, pn, pw)) (z := x.toNatClampNeg) t1 hok ⟨z1, z2⟩ c6 hw tn 0 (by omega) (by omega) M13 s13 t11 c11
        rw [← z3] at h82
        refine sm_cV.mono (K := fun M2 => cP M2 (rU x tb tn pb ps pn pw).1 (rU x tb tn pb ps pn pw).2.1 (rU x tb tn pb ps pn pw).2.2.1 (rU x tb tn pb ps pn pw).2.2.2 ∧ Fr pcP M13 M2) (g82_0 s13 a_25 h82) fun M16 k16 s16 => ?_
        unfold cR
        rw [hs]
        refine ⟨h0, k16.1.1, k16.1, ?_, ?_, f11.tr (k16.2.mono fun a k z => by unfold pcP at z; unfold pR; omega)⟩
        · rw [k16.2.2.1 24 1 (by unfold pcP; omega)]; exact a11
        · rw [k16.2.2.1 23 16 (by unfold pcP; omega), b11]
          unfold rP
          rw [h0, if_neg (by decide)]
      · have h3 : rC x tb tn pb ps pn pw = 3 := by unfold rC; rw [if_neg c, if_pos c2, if_neg hf, if_pos (by omega)]
        refine ⟨M13, by omega, s13, rfl, by rw [h3]; rfl, ?_⟩
        unfold cR rS rP
        rw [h3, if_neg (by decide), if_neg (by decide)]
        exact ⟨c11, a11, b11, f11⟩
  · have h1 : rC x tb tn pb ps pn pw = 1 := by unfold rC; rw [if_neg c, if_neg c2]
    refine ⟨M3, by omega, s3, rfl, by rw [h1]; rfl, bad h1⟩
