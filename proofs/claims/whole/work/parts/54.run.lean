/-! RUN. -/
theorem pst_2 (z b : Nat) (s : (Nat → Nat) × (Nat → Nat) × Nat × Nat) : (pst z b s).2.2.1 ≤ s.2.2.1 + 2 := by
  obtain ⟨pb, ps, pn, pw⟩ := s
  by_cases hk : bk b = true
  · by_cases hc : 0 < pn ∧ pw = 0
    · rw [pst1 hk hc]; exact Nat.le_add_right _ _
    · rw [pst2 hk hc]; exact Nat.le_add_right _ _
  · by_cases hc : pw = 0
    · rw [pst3 hk hc]; exact Nat.le_succ _
    · rw [pst4 hk hc]; exact Nat.le_refl _
theorem pru_2 (z : Nat) (tb : Nat → Nat) (s : (Nat → Nat) × (Nat → Nat) × Nat × Nat) : ∀ i, (pru z tb s i).2.2.1 ≤ s.2.2.1 + 2 * i
  | 0 => Nat.le_refl _
  | i + 1 => by
    have h := pru_2 z tb s i
    have h2 := pst_2 z (tb i) (pru z tb s i)
    show (pst z (tb i) (pru z tb s i)).2.2.1 ≤ _
    omega
/-- a blank waits only behind a byte; sizes are sizes -/
def pwk (s : (Nat → Nat) × (Nat → Nat) × Nat × Nat) : Prop := (0 < s.2.2.2 → 0 < s.2.2.1) ∧ s.2.2.2 ≤ 100000
theorem pru_k {z : Nat} {tb : Nat → Nat} {s : (Nat → Nat) × (Nat → Nat) × Nat × Nat} (hz : z ≤ 100000) (h0 : pwk s) : ∀ i, pwk (pru z tb s i)
  | 0 => h0
  | i + 1 => by
    have h := pru_k (tb := tb) hz h0 i
    show pwk (pst z (tb i) (pru z tb s i))
    revert h
    generalize pru z tb s i = t
    generalize tb i = b
    obtain ⟨pb, ps, pn, pw⟩ := t
    intro h
    have h1 : (0 < pw → 0 < pn) ∧ pw ≤ 100000 := h
    by_cases hk : bk b = true
    · by_cases hc : 0 < pn ∧ pw = 0
      · rw [pst1 hk hc]; exact ⟨fun _ => hc.1, hz⟩
      · rw [pst2 hk hc]; exact h1
    · by_cases hc : pw = 0
      · rw [pst3 hk hc]; exact ⟨fun _ => Nat.succ_pos _, Nat.zero_le _⟩
      · rw [pst4 hk hc]; exact ⟨fun _ => Nat.succ_pos _, Nat.zero_le _⟩
theorem s81_1 {M : sm_M} {tb : Nat → Nat} {tn z : Nat} {s : (Nat → Nat) × (Nat → Nat) × Nat × Nat} (hS : SH M) (hn : tn ≤ 8192) (hT : ∀ i, i < tn → tb i < 256 ∧ iV M 25 i = sb (tb i)) (hz : 0 < z ∧ z ≤ 100000) (hk : pwk s) (hl : s.2.2.1 ≤ 4000) : ∀ (d i : Nat), tn - i = d → i ≤ tn → sm_w 81 (22, [none, some (.ref 25), some (.int (Int32.ofNat tn)), some (.int (Int32.ofNat (pru z tb s i).2.2.1)), some (.int (if (pru z tb s i).2.2.2 = 0 then (0 : Int32) else 1)), some (.int (Int32.ofNat i))], []) M (rI (fun v M2 => v = Int32.ofNat (pru z tb s tn).2.2.1 ∧ M2 = M)) := by
  intro d
  induction d with
  | zero =>
    intro i hd hi
    have e : i = tn := by omega
    subst e
    exact g81_1 hS a_25 ⟨fun _ => ⟨rfl, rfl⟩, fun c => absurd ((o_le (by omega) (by omega)).mpr (Nat.le_refl i)) c⟩
  | succ d ih =>
    intro i hd hi
    obtain ⟨hb, hv⟩ := hT i (by omega)
    have ih := ih (i + 1) (by omega) (by omega)
    have hp := pru_k (tb := tb) hz.2 hk i
    have h2 := pru_2 z tb s i
    refine g81_1 hS a_25 ⟨fun c => absurd ((o_le (by omega) (by omega)).mp c) (by omega), fun _ => ⟨fun c => absurd ((o_le (by omega) (by omega)).mp c) (by omega), fun _ => ⟨(o_in (by omega)).mpr (by omega), ?_⟩⟩⟩
    rw [o_cl (by omega), hv, p31_sb M hb, o_s i]
    have es : pru z tb s (i + 1) = pst z (tb i) (pru z tb s i) := rfl
    rw [es] at ih
    revert ih hp h2
    generalize pru z tb s i = t
    obtain ⟨pb, ps, pn, pw⟩ := t
    intro ih hp h2
    have hp : (0 < pw → 0 < pn) ∧ pw ≤ 100000 := hp
    have h2 : pn ≤ s.2.2.1 + 2 * i := h2
    by_cases hkb : bk (tb i) = true
    · rw [if_pos hkb]
      refine ⟨fun c => absurd c (by decide), fun _ => ?_⟩
      show (Int32.ofNat pn ≤ 0 → _) ∧ (¬ Int32.ofNat pn ≤ 0 → _)
      rw [o_le0 (by omega)]
      by_cases hc : 0 < pn ∧ pw = 0
      · rw [pst1 hkb hc] at ih
        refine ⟨fun c => by omega, fun _ => ?_⟩
        rw [show (if (pb, ps, pn, z).2.2.2 = 0 then (0 : Int32) else 1) = 1 from if_neg (by show ¬ z = 0; omega)] at ih
        exact ih
      · rw [pst2 hkb hc] at ih
        refine ⟨fun c => ?_, fun c => ?_⟩
        · rw [show (if (pb, ps, pn, pw).2.2.2 = 0 then (0 : Int32) else 1) = 0 from if_pos (by show pw = 0; omega)] at ih
          exact ih
        · rw [show (if (pb, ps, pn, pw).2.2.2 = 0 then (0 : Int32) else 1) = 1 from if_neg (by show ¬ pw = 0; omega)] at ih
          exact ih
    · rw [if_neg hkb]
      refine ⟨fun _ => ?_, fun c => absurd rfl c⟩
      by_cases hc : pw = 0
      · rw [pst3 hkb hc] at ih
        refine ⟨fun _ => ?_, fun c => absurd (if_pos hc) c⟩
        rw [o_s]
        exact ih
      · rw [pst4 hkb hc] at ih
        refine ⟨fun c => absurd ((if_neg hc).symm.trans c) (by decide), fun _ => ?_⟩
        rw [show Int32.ofNat pn + 2 = Int32.ofNat (pn + 2) from (Int32.ofNat_add pn 2).symm]
        exact ih
theorem s81 {M : sm_M} {tb pb ps : Nat → Nat} {tn z pn pw : Nat} (hS : SH M) (hn : tn ≤ 8192) (hT : ∀ i, i < tn → tb i < 256 ∧ iV M 25 i = sb (tb i)) (hz : 0 < z ∧ z ≤ 100000) (hP : cP M pb ps pn pw) (hw : wP pb ps pn pw) : sm_cI 81 [.ref 30, .ref 25, .int (Int32.ofNat tn)] M (fun v M2 => v = Int32.ofNat (pru z tb (pb, ps, pn, pw) tn).2.2.1 ∧ M2 = M) := by
  have h1 := s81_1 (s := (pb, ps, pn, pw)) hS hn hT hz ⟨fun h => by have := hw.2.2.1; have h : 0 < pw := h; show 0 < pn; omega, by have := hw.2.2.1; show pw ≤ 100000; omega⟩ hw.1 tn 0 (by omega) (by omega)
  have hpw := hw.2.2.1
  refine g81_0 hS a_25 ?_
  rw [hP.1, hP.2.1, o_le0 (by omega)]
  refine ⟨fun c => ?_, fun c => ?_⟩
  · rw [show (if (pru z tb (pb, ps, pn, pw) 0).2.2.2 = 0 then (0 : Int32) else 1) = 0 from if_pos c] at h1
    exact h1
  · rw [show (if (pru z tb (pb, ps, pn, pw) 0).2.2.2 = 0 then (0 : Int32) else 1) = 1 from if_neg c] at h1
    exact h1
theorem s82_1 {tb : Nat → Nat} {tn z : Nat} {s : (Nat → Nat) × (Nat → Nat) × Nat × Nat} (hn : tn ≤ 8192) (hb : ∀ i, i < tn → bk (tb i) = true ∨ 33 ≤ tb i ∧ tb i ≤ 126) (hz : 1000 ≤ z ∧ z ≤ 100000) (hl : (pru z tb s tn).2.2.1 ≤ 4000) (hw : wP s.1 s.2.1 s.2.2.1 s.2.2.2) : ∀ (d i : Nat), tn - i = d → i ≤ tn → ∀ M, SH M → (∀ j, j < tn → tb j < 256 ∧ iV M 25 j = sb (tb j)) → cP M (pru z tb s i).1 (pru z tb s i).2.1 (pru z tb s i).2.2.1 (pru z tb s i).2.2.2 → sm_w 82 (3, [some (.ref 30), some (.ref 25), some (.int (Int32.ofNat tn)), some (.int (Int32.ofNat z)), some (.int (Int32.ofNat i))], []) M (rV (fun M2 => cP M2 (pru z tb s tn).1 (pru z tb s tn).2.1 (pru z tb s tn).2.2.1 (pru z tb s tn).2.2.2 ∧ Fr pcP M M2)) := by
  intro d
  induction d with
  | zero =>
    intro i hd hi M hS hT hP
    have e : i = tn := by omega
    subst e
    exact g82_1 hS a_25 ⟨fun _ => ⟨hP, Fr.rf _ _⟩, fun c => absurd ((o_le (by omega) (by omega)).mpr (Nat.le_refl i)) c⟩
  | succ d ih =>
    intro i hd hi M hS hT hP
    obtain ⟨hbi, hv⟩ := hT i (by omega)
    have hbk := hb i (by omega)
    have hwi := pru_wP hz hw tn hb hl i (by omega)
    have hwj := pru_wP hz hw tn hb hl (i + 1) (by omega)
    have keep : ∀ M2, Fr pcP M M2 → ∀ j, j < tn → tb j < 256 ∧ iV M2 25 j = sb (tb j) := fun M2 f j hj => ⟨(hT j hj).1, by rw [f.2.1 25 j (by unfold pcP; omega)]; exact (hT j hj).2⟩
    have ih := ih (i + 1) (by omega) (by omega)
    refine g82_1 hS a_25 ⟨fun c => absurd ((o_le (by omega) (by omega)).mp c) (by omega), fun _ => ⟨fun c => absurd ((o_le (by omega) (by omega)).mp c) (by omega), fun _ => ⟨(o_in (by omega)).mpr (by omega), ?_⟩⟩⟩
    rw [o_cl (by omega), hv, p31_sb M hbi, o_s i]
    have es : pru z tb s (i + 1) = pst z (tb i) (pru z tb s i) := rfl
    rw [es] at ih hwj
    revert ih hwi hwj hP
    generalize pru z tb s i = t
    obtain ⟨pb, ps, pn, pw⟩ := t
    intro hP hwi hwj ih
    have hP : cP M pb ps pn pw := hP
    have hwi : wP pb ps pn pw := hwi
    obtain ⟨w1, w2, w3, w4⟩ := hwi
    by_cases hkb : bk (tb i) = true
    · rw [if_pos hkb]
      refine ⟨fun c => absurd c (by decide), fun _ => ?_⟩
      rw [hP.1, hP.2.1, o_le0 (by omega), o_eq0 (by omega)]
      by_cases hc : 0 < pn ∧ pw = 0
      · rw [pst1 hkb hc] at ih
        refine ⟨fun c => by omega, fun _ => ⟨fun _ M9 s9 e9 => ?_, fun c => absurd hc.2 c⟩⟩
        have f9 : Fr pcP M M9 := by rw [e9]; exact (Fr.rf _ _).wI (Or.inl rfl)
        have c9 : cP M9 pb ps pn z := ⟨by rw [e9, iV_wI, if_neg (by omega)]; exact hP.1, by rw [e9, iV_wI, if_pos ⟨rfl, rfl⟩], fun j hj => by
          have := hP.2.2 j hj
          grind [iV_wI]⟩
        refine (ih M9 s9 (keep M9 f9) c9).mono fun o M2 q => ⟨q.1, q.2.1, f9.tr q.2.2⟩
      · rw [pst2 hkb hc] at ih
        exact ⟨fun _ => ih M hS hT hP, fun _ => ⟨fun c => by omega, fun _ => ih M hS hT hP⟩⟩
    · rw [if_neg hkb]
      refine ⟨fun _ => ?_, fun c => absurd rfl c⟩
      have hb2 : 33 ≤ tb i ∧ tb i ≤ 126 := by
        rcases hbk with z | z
        · exact absurd z hkb
        · exact z
      by_cases hc : pw = 0
      · rw [pst3 hkb hc] at ih hwj
        have hl3 : pn + 1 ≤ 4000 := hwj.1
        refine (s83 hS hP (by omega) (by omega)).mono fun M2 k2 s2 => ⟨(o_in (by omega)).mpr (by omega), ?_⟩
        obtain ⟨k3, f2⟩ := k2
        have e2 : M2 = M := by
          rcases k3 with z | z
          · exact z.2
          · omega
        subst e2
        subst hc
        rw [hv, sb_lo (by omega)]
        refine (s84 s2 hP (by omega) (by omega)).mono fun M6 k6 s6 => ?_
        exact (ih M6 s6 (keep M6 k6.2) k6.1).mono fun o M2 q => ⟨q.1, q.2.1, k6.2.tr q.2.2⟩
      · rw [pst4 hkb hc] at ih hwj
        have hl3 : pn + 2 ≤ 4000 := hwj.1
        refine (s83 hS hP (by omega) (by omega)).mono fun M2 k2 s2 => ⟨(o_in (by omega)).mpr (by omega), ?_⟩
        obtain ⟨k3, f2⟩ := k2
        have e2 : cP M2 (tp pb pn 32) (tp ps pn pw) (pn + 1) 0 := by
          rcases k3 with z | z
          · exact absurd z.1 hc
          · exact z.2
        rw [(keep M2 f2 i (by omega)).2, sb_lo (by omega)]
        refine (s84 s2 e2 (by omega) (by omega)).mono fun M6 k6 s6 => ?_
        exact (ih M6 s6 (keep M6 (f2.tr k6.2)) k6.1).mono fun o M2 q => ⟨q.1, q.2.1, (f2.tr k6.2).tr q.2.2⟩
