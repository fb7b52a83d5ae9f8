/-! RUN: the reference, its end. -/
def mC (M1 : sm_M) (M : sm_M) (x : Int32) (tb : Nat → Nat) (tn : Nat) (pb ps : Nat → Nat) (pn pw : Nat) (v : Int32) : Prop := iV M1 116 0 = Int32.ofNat (rC x tb tn pb ps pn pw) ∧ (rC x tb tn pb ps pn pw = 0 → v = Int32.ofNat (rS x tb tn pb ps pn pw).2.2.1) ∧ mP M1 (rS x tb tn pb ps pn pw).1 (rS x tb tn pb ps pn pw).2.1 (rS x tb tn pb ps pn pw).2.2.1 (rS x tb tn pb ps pn pw).2.2.2 ∧ iV M1 116 3 = 0 ∧ iV M1 116 7 = rP x tb tn pb ps pn pw ∧ Fr pMR M M1
section RUN
variable {x : Int32} {tb : Nat → Nat} {tn : Nat} {pb ps : Nat → Nat} {pn pw : Nat}
theorem s190_2 (hx1 : ¬ x < 1000) (hx2 : x ≤ 100000) (hn : tn ≤ 8192) (hB : ∀ i, i < tn → tb i < 256) (hf : ¬ rF tb tn < tn) (hw : wP pb ps pn pw) {A M : sm_M} (hS : SH M) (hT : mR M tb tn) (hP : mP M pb ps pn pw) (h3 : iV M 116 3 = 0) (h7 : iV M 116 7 = -1) (hA : Fr pMR A M) : ∀ (d i : Nat), tn - i = d → i ≤ tn → sm_w 190 (106, [some (.ref 116), some (.int (x)), none, some (.int (Int32.ofNat (pru x.toNatClampNeg tb (pb, ps, pn, pw) i).2.2.1)), some (.int (Int32.ofNat (pru x.toNatClampNeg tb (pb, ps, pn, pw) i).2.2.2)), some (.int (Int32.ofNat i))], []) M (rI (fun v M2 => mC M2 A x tb tn pb ps pn pw v)) := by
  obtain ⟨z1, z2, z3⟩ := z_size hx1 hx2
  have hpn := hw.1
  have hpw := hw.2.2.1
  have hok : ∀ i, i < tn → bk (tb i) = true ∨ 33 ≤ tb i ∧ tb i ≤ 126 := fun i hi => by
    have h5 := fs_no (p := fun i => wq (tb i)) (n := tn) (i := 0) (k := i) (Nat.zero_le _) (Nat.zero_le _) (by have : fs (fun i => wq (tb i)) tn 0 = rF tb tn := rfl; omega)
    unfold wq at h5
    by_cases hb : bk (tb i) = true
    · exact Or.inl hb
    · refine Or.inr ?_
      simp [hb] at h5
      omega
  have bad : 4000 < (rU x tb tn pb ps pn pw).2.2.1 → ∀ M6, SH M6 → M6 = sm_wI M 116 0 (3 : Int32) → mC M6 A x tb tn pb ps pn pw (0 : Int32) := fun hl M6 s6 e6 => by
    have h3' : rC x tb tn pb ps pn pw = 3 := by unfold rC; rw [if_neg hx1, if_pos hx2, if_neg hf, if_pos hl]
    have f6 : Fr pMR M M6 := by rw [e6]; exact (Fr.rf _ M).wI (Or.inl ⟨rfl, Or.inl rfl⟩)
    unfold mC rS rP
    rw [h3', if_neg (by decide), if_neg (by decide)]
    refine ⟨by rw [e6, iV_wI, if_pos ⟨rfl, rfl⟩]; rfl, fun z => absurd z (by decide), ⟨by rw [e6, iV_wI, if_neg (by omega)]; exact hP.1, by rw [e6, iV_wI, if_neg (by omega)]; exact hP.2.1, fun j hj => by
      have := hP.2.2 j hj
      grind [iV_wI]⟩, by rw [e6, iV_wI, if_neg (by omega)]; exact h3, by rw [e6, iV_wI, if_neg (by omega)]; exact h7, hA.tr f6⟩
  have good : ¬ 4000 < (rU x tb tn pb ps pn pw).2.2.1 → ∀ M1, SH M1 → M1 = sm_wI M 116 0 (0 : Int32) → sm_w 190 (193, [some (.ref 116), some (.int (x)), none, none, none, some (.int ((0 : Int32)))], []) M1 (rI (fun v M2 => mC M2 A x tb tn pb ps pn pw v)) := fun hl M1 s1 e1 => by
    have h0 : rC x tb tn pb ps pn pw = 0 := by unfold rC; rw [if_neg hx1, if_pos hx2, if_neg hf, if_neg hl]
    have hs : rS x tb tn pb ps pn pw = rU x tb tn pb ps pn pw := by unfold rS; rw [if_pos h0]
    have f1 : Fr pMR M M1 := by rw [e1]; exact (Fr.rf _ M).wI (Or.inl ⟨rfl, Or.inl rfl⟩)
    have c1 : mP M1 pb ps pn pw := ⟨by rw [e1, iV_wI, if_neg (by omega)]; exact hP.1, by rw [e1, iV_wI, if_neg (by omega)]; exact hP.2.1, fun j hj => by
      have := hP.2.2 j hj
      grind [iV_wI]⟩
    have t1 : mR M1 tb tn := ⟨by rw [e1, iV_wI, if_neg (by omega)]; exact hT.1, fun j hj => by rw [e1, iV_wI, if_neg (by omega)]; exact hT.2 j hj⟩
    have h := s190_3 (z := x.toNatClampNeg) (s := (pb, ps, pn, pw)) hn hok hB ⟨z1, z2⟩ (Nat.le_of_not_lt hl) hw tn 0 (by omega) (by omega) M1 s1 t1 c1
    rw [← z3] at h
    refine h.mono fun o M2 q => ?_
    obtain ⟨v, q1, q2, q3, q4⟩ := q
    refine ⟨v, q1, ?_⟩
    unfold mC
    rw [hs, h0]
    refine ⟨?_, fun _ => q2, q3, ?_, ?_, hA.tr (f1.tr (q4.mono fun a k z => by unfold pmP at z; unfold pMR; omega))⟩
    · rw [q4.2.1 116 0 (by unfold pmP; omega), e1, iV_wI, if_pos ⟨rfl, rfl⟩]; rfl
    · rw [q4.2.1 116 3 (by unfold pmP; omega), e1, iV_wI, if_neg (by omega)]; exact h3
    · rw [q4.2.1 116 7 (by unfold pmP; omega), e1, iV_wI, if_neg (by omega), h7]
      unfold rP
      rw [h0, if_neg (by decide)]
  have hmon : ∀ i, i ≤ tn → (pru x.toNatClampNeg tb (pb, ps, pn, pw) i).2.2.1 ≤ (rU x tb tn pb ps pn pw).2.2.1 := fun i hi => by
    have := pru_le x.toNatClampNeg tb (pb, ps, pn, pw) i (tn - i)
    rw [show i + (tn - i) = tn from by omega] at this
    exact this
  have e4 : (4000 : Int32) = Int32.ofNat 4000 := rfl
  intro d
  induction d with
  | zero =>
    intro i hd hi
    have e : i = tn := by omega
    subst e
    have h2 : (pru x.toNatClampNeg tb (pb, ps, pn, pw) i).2.2.1 ≤ pn + 2 * i := pru_2 x.toNatClampNeg tb (pb, ps, pn, pw) i
    have eU : (pru x.toNatClampNeg tb (pb, ps, pn, pw) i).2.2.1 = (rU x tb i pb ps pn pw).2.2.1 := rfl
    refine g190_2 hS ?_
    rw [hT.1, e4, o_le (n := (pru x.toNatClampNeg tb (pb, ps, pn, pw) i).2.2.1) (by omega) (by omega)]
    refine ⟨fun _ => ⟨fun c M1 s1 e1 => good (by omega) M1 s1 e1, fun c M6 s6 e6 => bad (by omega) M6 s6 e6⟩, fun c => absurd ((o_le (by omega) (by omega)).mpr (Nat.le_refl i)) c⟩
  | succ d ih =>
    intro i hd hi
    have hbi := hB i (by omega)
    have hv := hT.2 i (by omega)
    have ih := ih (i + 1) (by omega) (by omega)
    have h2 : (pru x.toNatClampNeg tb (pb, ps, pn, pw) i).2.2.1 ≤ pn + 2 * i := pru_2 x.toNatClampNeg tb (pb, ps, pn, pw) i
    have hk : pwk (pru x.toNatClampNeg tb (pb, ps, pn, pw) i) := pru_k (by omega) ⟨fun h => by have h : 0 < pw := h; show 0 < pn; omega, by show pw ≤ 100000; omega⟩ i
    have hm := hmon i (by omega)
    refine g190_2 hS ?_
    rw [hT.1, e4, o_le (n := (pru x.toNatClampNeg tb (pb, ps, pn, pw) i).2.2.1) (by omega) (by omega), o_lt (m := (pru x.toNatClampNeg tb (pb, ps, pn, pw) i).2.2.1) (by omega) (by omega)]
    refine ⟨fun c => absurd ((o_le (by omega) (by omega)).mp c) (by omega), fun _ => ⟨fun c => ⟨fun c2 => by omega, fun c2 M6 s6 e6 => bad (by omega) M6 s6 e6⟩, fun c => ⟨(o_in (by omega)).mpr (by omega), ?_⟩⟩⟩
    rw [o_cl (by omega), hv, p172_of M hbi, o_s i]
    have es : pru x.toNatClampNeg tb (pb, ps, pn, pw) (i + 1) = pst x.toNatClampNeg (tb i) (pru x.toNatClampNeg tb (pb, ps, pn, pw) i) := rfl
    rw [es] at ih
    revert ih h2 hk c hm
    generalize pru x.toNatClampNeg tb (pb, ps, pn, pw) i = t
    obtain ⟨qb, qs, qn, qw⟩ := t
    intro ih h2 hk hm c
    have hk : (0 < qw → 0 < qn) ∧ qw ≤ 100000 := hk
    have h2 : qn ≤ pn + 2 * i := h2
    by_cases hkb : bk (tb i) = true
    · rw [if_pos hkb]
      refine ⟨fun c => absurd c (by decide), fun _ => ?_⟩
      show (Int32.ofNat qn ≤ 0 → _) ∧ (¬ Int32.ofNat qn ≤ 0 → (Int32.ofNat qw = 0 → _) ∧ (¬ Int32.ofNat qw = 0 → _))
      rw [o_le0 (by omega), o_eq0 (by omega)]
      by_cases hc : 0 < qn ∧ qw = 0
      · rw [pst1 hkb hc] at ih
        refine ⟨fun c => by omega, fun _ => ⟨fun _ => ?_, fun c => absurd hc.2 c⟩⟩
        have ih2 : sm_w 190 (106, [some (.ref 116), some (.int (x)), none, some (.int (Int32.ofNat qn)), some (.int (Int32.ofNat x.toNatClampNeg)), some (.int (Int32.ofNat (i + 1)))], []) M (rI (fun v M2 => mC M2 A x tb tn pb ps pn pw v)) := ih
        rw [← z3] at ih2
        exact ih2
      · rw [pst2 hkb hc] at ih
        exact ⟨fun _ => ih, fun _ => ⟨fun _ => by omega, fun _ => ih⟩⟩
    · rw [if_neg hkb]
      refine ⟨fun _ => ?_, fun c => absurd rfl c⟩
      show (Int32.ofNat qw ≤ 0 → _) ∧ (¬ Int32.ofNat qw ≤ 0 → _)
      rw [o_le0 (by omega)]
      by_cases hc : qw = 0
      · rw [pst3 hkb hc] at ih
        refine ⟨fun _ => ?_, fun c => absurd hc c⟩
        rw [o_s]
        exact ih
      · rw [pst4 hkb hc] at ih
        refine ⟨fun c => absurd c hc, fun _ => ?_⟩
        rw [show Int32.ofNat qn + 2 = Int32.ofNat (qn + 2) from (Int32.ofNat_add qn 2).symm]
        exact ih
theorem s190_1 (hx1 : ¬ x < 1000) (hx2 : x ≤ 100000) (hn : tn ≤ 8192) (hB : ∀ i, i < tn → tb i < 256) (hw : wP pb ps pn pw) {A M : sm_M} (hS : SH M) (hT : mR M tb tn) (hP : mP M pb ps pn pw) (h3 : iV M 116 3 = 0) (h7 : iV M 116 7 = -1) (hA : Fr pMR A M) : ∀ (d i : Nat), tn - i = d → i ≤ tn → rF tb tn = fs (fun i => wq (tb i)) tn i → sm_w 190 (33, [some (.ref 116), some (.int (x)), none, some (.int (Int32.ofNat i)), none, none], []) M (rI (fun v M2 => mC M2 A x tb tn pb ps pn pw v)) := by
  intro d
  induction d with
  | zero =>
    intro i hd hi hf
    have e : i = tn := by omega
    subst e
    rw [fs_e (Nat.le_refl _)] at hf
    refine g190_1 hS ?_
    rw [hT.1, hP.1, hP.2.1]
    refine ⟨fun _ => ?_, fun c => absurd ((o_le (by omega) (by omega)).mpr (Nat.le_refl i)) c⟩
    exact s190_2 hx1 hx2 hn hB (by omega) hw hS hT hP h3 h7 hA i 0 (by omega) (by omega)
  | succ d ih =>
    intro i hd hi hf
    have hbi := hB i (by omega)
    have hv := hT.2 i (by omega)
    refine g190_1 hS ?_
    rw [hT.1]
    refine ⟨fun c => absurd ((o_le (by omega) (by omega)).mp c) (by omega), fun _ => ⟨(o_in (by omega)).mpr (by omega), ?_⟩⟩
    rw [o_cl (by omega), hv, p172_of M hbi, o_s i, show (33 : Int64) = (33 : Int32).toInt64 from rfl, show (126 : Int64) = (126 : Int32).toInt64 from rfl, p166_i]
    by_cases hkb : bk (tb i) = true
    · rw [if_pos hkb]
      refine ⟨fun c => absurd c (by decide), fun _ => ?_⟩
      exact ih (i + 1) (by omega) (by omega) (by rw [hf]; exact fs_f (by omega) (by unfold wq; rw [hkb]; simp))
    · rw [if_neg hkb]
      refine ⟨fun _ => ⟨(o_in (by omega)).mpr (by omega), fun c => ?_, fun c => ?_⟩, fun c => absurd rfl c⟩
      · intro M3 s3 e3 M8 s8 e8
        have hwq : wq (tb i) = true := by
          rw [show (33 : Int32) = Int32.ofNat 33 from rfl, show (126 : Int32) = Int32.ofNat 126 from rfl, o_lt (by omega) (by omega), o_le (by omega) (by omega)] at c
          unfold wq
          simp [hkb]
          omega
        rw [fs_t (p := fun i => wq (tb i)) (by omega) hwq] at hf
        have h2 : rC x tb tn pb ps pn pw = 2 := by unfold rC; rw [if_neg hx1, if_pos hx2, if_pos (by omega)]
        have f8 : Fr pMR M M8 := by
          rw [e8, e3]
          exact ((Fr.rf _ M).wI (Or.inl ⟨rfl, Or.inr (Or.inr (Or.inr (Or.inl rfl)))⟩)).wI (Or.inl ⟨rfl, Or.inl rfl⟩)
        unfold mC rS rP
        rw [h2, if_neg (by decide), if_pos rfl, hf]
        refine ⟨by grind [iV_wI], fun z => absurd z (by decide), ⟨?_, ?_, fun j hj => ?_⟩, ?_, ?_, hA.tr f8⟩
        · have := hP.1
          grind [iV_wI]
        · have := hP.2.1
          grind [iV_wI]
        · have := hP.2.2 j hj
          grind [iV_wI]
        · grind [iV_wI]
        · grind [iV_wI]
      · have hwq : ¬ wq (tb i) = true := by
          have c := Classical.not_not.mp c
          rw [show (33 : Int32) = Int32.ofNat 33 from rfl, show (126 : Int32) = Int32.ofNat 126 from rfl, o_lt (by omega) (by omega), o_le (by omega) (by omega)] at c
          unfold wq
          simp [hkb]
          omega
        exact ih (i + 1) (by omega) (by omega) (by rw [hf]; exact fs_f (p := fun i => wq (tb i)) (by omega) hwq)
theorem s190 {M : sm_M} (hS : SH M) (hn : tn ≤ 8192) (hB : ∀ i, i < tn → tb i < 256) (hT : mT M tb tn) (hP : mP M pb ps pn pw) (hw : wP pb ps pn pw) : sm_cI 190 [.ref 116, .int (x)] M (fun v M2 => mC M2 M x tb tn pb ps pn pw v) := by
  refine g190_0 hS ?_
  refine (s169 hS hn hT).mono fun M1 k1 s1 M4 s4 e4 => ?_
  obtain ⟨k11, k12, k13, f1⟩ := k1
  have f4 : Fr pMR M M4 := by
    rw [e4]
    exact (f1.mono fun a k z => by unfold pTk at z; unfold pMR; omega).wI (Or.inl ⟨rfl, Or.inr (Or.inr (Or.inr (Or.inl rfl)))⟩)
  have fA : Fr (fun a k => pTk a k ∨ a = 116 ∧ k = 7) M M4 := by
    rw [e4]
    exact (f1.mono fun a k z => Or.inl z).wI (Or.inr ⟨rfl, rfl⟩)
  have c4 : mP M4 pb ps pn pw := hP.fr fA (by unfold pTk; exact ⟨by omega, by omega, fun k => by omega, fun k => by omega⟩)
  have t4' : mR M4 tb tn := ⟨by rw [e4, iV_wI, if_neg (by omega)]; exact k11.1, fun j hj => by rw [e4, iV_wI, if_neg (by omega)]; exact k11.2 j hj⟩
  have h3 : iV M4 116 3 = 0 := by rw [e4, iV_wI, if_neg (by omega)]; exact k12
  have h7 : iV M4 116 7 = -1 := by rw [e4, iV_wI, if_pos ⟨rfl, rfl⟩]
  rw [show (1000 : Int64) = (1000 : Int32).toInt64 from rfl, show (100000 : Int64) = (100000 : Int32).toInt64 from rfl, p166_i]
  refine ⟨fun c => ?_, fun c => ?_⟩
  · intro M9 s9 e9
    have h1 : rC x tb tn pb ps pn pw = 1 := by
      unfold rC
      by_cases c1 : x < 1000
      · rw [if_pos c1]
      · rw [if_neg c1, if_neg (fun c2 => c ⟨c1, c2⟩)]
    unfold mC rS rP
    rw [h1, if_neg (by decide), if_neg (by decide)]
    refine ⟨by grind [iV_wI], fun z => absurd z (by decide), ⟨?_, ?_, fun j hj => ?_⟩, ?_, ?_, ?_⟩
    · have := c4.1
      grind [iV_wI]
    · have := c4.2.1
      grind [iV_wI]
    · have := c4.2.2 j hj
      grind [iV_wI]
    · grind [iV_wI]
    · grind [iV_wI]
    · rw [e9]; exact f4.wI (Or.inl ⟨rfl, Or.inl rfl⟩)
  · have c := Classical.not_not.mp c
    exact s190_1 c.1 c.2 hn hB hw s4 t4' c4 h3 h7 f4 tn 0 (by omega) (by omega) rfl
end RUN
