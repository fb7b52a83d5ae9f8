/-! SET: the kind fills its breaks, place by place. -/
theorem i_o64 {p : Int32} {n : Nat} (h : p.toInt64 = Int64.ofNat n) (hn : n < 2147483648) : p = Int32.ofNat n := by
  rw [z_eq, o_ti hn]
  rw [y_eq, Int32.toInt_toInt64, j_ti (by omega)] at h
  exact h
theorem p98_N {M : sm_M} {o : Nat} {w : Nat → Nat} (hw : ∀ b, b < 128 → iV M (o + 1) b = Int32.ofNat (w b)) {b z : Nat} (hb : b < 128) (h5 : w b ≤ 5000) (hz : z ≤ 100000) : p98_0 M o (Int32.ofNat b) (Int32.ofNat z) = Int32.ofNat (z * w b / 1000) ∧ q98_0 M o (Int32.ofNat b) (Int32.ofNat z) := by
  have h := p98_w hw hb h5 hz
  have h2 := sc_N hz h5
  rw [h2.1] at h
  exact ⟨i_o64 h.1 (by omega), h.2⟩
theorem o_dv {a b : Nat} (ha : a < 2147483648) (hb : 0 < b) (hb2 : b < 2147483648) : Int32.ofNat a / Int32.ofNat b = Int32.ofNat (a / b) := by
  rw [z_eq, Int32.toInt_div_of_ne_right, o_ti ha, o_ti hb2, o_ti (Nat.lt_of_le_of_lt (Nat.div_le_self _ _) ha), Int.tdiv_eq_ediv_of_nonneg (by omega)]
  · exact (Int.natCast_ediv a b).symm
  · intro e
    rw [z_eq, o_ti hb2] at e
    have : (-1 : Int32).toInt = -1 := rfl
    omega
def pfi (x0 : Nat) : Nat → Nat → Prop := fun a i => a = x0 ∧ (i = 3 ∨ i = 12) ∨ x0 + 3 ≤ a ∧ a ≤ x0 + 10
theorem uR_2 (D : Nat → Nat → Nat) (n kd a w g h : Nat) : uR D n kd a w g h 0 = kd ∧ uR D n kd a w g h 1 = a ∧ uR D n kd a w g h 2 = D 2 n + w ∧ uR D n kd a w g h 3 = D 3 n + (if kd = 0 then g else 0) ∧ uR D n kd a w g h 4 = D 4 n + (if kd = 0 then g / 2 else 0) ∧ uR D n kd a w g h 5 = D 5 n + (if kd = 0 then g / 3 else 0) ∧ uR D n kd a w g h 6 = (if kd = 1 then h else 0) ∧ uR D n kd a w g h 7 = D 7 n + (if kd = 0 then 1 else 0) ∧ uR D n kd a w g h 9 = (if kd = 0 then g else if kd = 1 then h else 0) := ⟨rfl, rfl, rfl, rfl, rfl, rfl, rfl, rfl, rfl⟩
section FILL
variable {k g h : Nat → Nat} {W : Nat → Nat → Nat} {x0 : Nat}
/-- the next break's rows -/
theorem cRw_s {M M2 : sm_M} {p : Nat} (e : ¬ k (p + 1) = 4) (hR : cRw M x0 (un k p) (uD k W g h p)) (h3 : iV M2 x0 3 = Int32.ofNat (un k p + 1)) (hF : ∀ a i, x0 + 3 ≤ a → a ≤ x0 + 10 → i ≤ un k p → iV M2 a i = iV M a i ∧ jV M2 a i = jV M a i) (hn : iV M2 (x0 + 3) (un k p + 1) = Int32.ofNat (k (p + 1)) ∧ iV M2 (x0 + 4) (un k p + 1) = Int32.ofNat (p + 1) ∧ iV M2 (x0 + 6) (un k p + 1) = Int32.ofNat (uD k W g h p 7 (un k p) + (if k (p + 1) = 0 then 1 else 0)) ∧ jV M2 (x0 + 7) (un k p + 1) = Int64.ofNat (uD k W g h p 2 (un k p) + W (us k p) (p + 1)) ∧ jV M2 (x0 + 8) (un k p + 1) = Int64.ofNat (uD k W g h p 3 (un k p) + (if k (p + 1) = 0 then g (p + 1) else 0)) ∧ jV M2 (x0 + 9) (un k p + 1) = Int64.ofNat (uD k W g h p 4 (un k p) + (if k (p + 1) = 0 then g (p + 1) / 2 else 0)) ∧ jV M2 (x0 + 10) (un k p + 1) = Int64.ofNat (uD k W g h p 5 (un k p) + (if k (p + 1) = 0 then g (p + 1) / 3 else 0)) ∧ iV M2 (x0 + 5) (un k p + 1) = Int32.ofNat (if k (p + 1) = 1 then h (p + 1) else 0)) : cRw M2 x0 (un k (p + 1)) (uD k W g h (p + 1)) := by
  obtain ⟨r1, r2, r3⟩ := hR
  rw [un_s, if_neg e]
  obtain ⟨n1, n2, n3, n4, n5, n6, n7, n8⟩ := hn
  refine ⟨h3, fun b hb => ?_, fun b b1 hb => ?_⟩
  · rcases Nat.lt_or_ge b (un k p + 1) with z | z
    · rw [uD_o (by omega), uD_o (by omega), uD_o (by omega), uD_o (by omega), uD_o (by omega), uD_o (by omega), uD_o (by omega), (hF (x0 + 3) b (by omega) (by omega) (by omega)).1, (hF (x0 + 4) b (by omega) (by omega) (by omega)).1, (hF (x0 + 6) b (by omega) (by omega) (by omega)).1, (hF (x0 + 7) b (by omega) (by omega) (by omega)).2, (hF (x0 + 8) b (by omega) (by omega) (by omega)).2, (hF (x0 + 9) b (by omega) (by omega) (by omega)).2, (hF (x0 + 10) b (by omega) (by omega) (by omega)).2]
      exact r2 b (by omega)
    · have eb : b = un k p + 1 := by omega
      subst eb
      rw [uD_n e, uD_n e, uD_n e, uD_n e, uD_n e, uD_n e, uD_n e]
      exact ⟨n1, n2, n3, n4, n5, n6, n7⟩
  · rcases Nat.lt_or_ge b (un k p + 1) with z | z
    · rw [uD_o (by omega), (hF (x0 + 5) b (by omega) (by omega) (by omega)).1]
      exact r3 b b1 (by omega)
    · have eb : b = un k p + 1 := by omega
      subst eb
      rw [uD_n e]
      exact n8
end FILL
theorem fK_t {x0 : Nat} (h : fK x0) : sA (x0 + 1) 1 4000 ∧ sA (x0 + 2) 0 4001 ∧ (x0 = 89 ∨ x0 = 103) := by
  rcases h with h | h
  · subst h; exact ⟨⟨rfl, rfl⟩, ⟨rfl, rfl⟩, Or.inl rfl⟩
  · subst h; exact ⟨⟨rfl, rfl⟩, ⟨rfl, rfl⟩, Or.inr rfl⟩
section FILL2
variable {pb ps w k : Nat → Nat} {kf jf : Nat → Nat → Int32} {pn pw x0 fn : Nat}
theorem s97_1 {A : sm_M} (hx : fK x0) (hfn : fF fn) (hP : wP pb ps pn pw) (hw : wF w kf jf) (hk : ∀ q, q ≤ pn → (k q = 3 ↔ q = pn) ∧ k q ≤ 4) (h6 : un k pn ≤ 600) : ∀ (d p : Nat), pn - p = d → p ≤ pn → ∀ M, SH M → cMk M x0 k pn → (∀ i, i < pn → iV M (x0 + 1) i = Int32.ofNat (pb i) ∧ iV M 32 i = Int32.ofNat (ps i)) → cF M fn w kf jf → cRw M x0 (un k p) (uD k (uW pn pb ps w kf jf) (ug pn ps w) (uh pn ps w) p) → jV M x0 12 = Int64.ofNat (ux k (uW pn pb ps w kf jf) (uh pn ps w) p) → Fr (pfi x0) A M → sm_w 97 (15, [some (.ref x0), some (.ref 32), some (.ref fn), some (.int (Int32.ofNat (us k p))), some (.int (Int32.ofNat (p + 1))), none], []) M (rV (fun M2 => cRw M2 x0 (un k pn) (uD k (uW pn pb ps w kf jf) (ug pn ps w) (uh pn ps w) pn) ∧ jV M2 x0 12 = Int64.ofNat (ux k (uW pn pb ps w kf jf) (uh pn ps w) pn) ∧ Fr (pfi x0) A M2)) := by
  obtain ⟨xt, xm, x89⟩ := fK_t hx
  have hn := hP.1
  have hf2 : fn = 42 ∨ fn = 55 := hfn
  intro d
  induction d with
  | zero =>
    intro p hd hp M hS hM hT hF hR hX hA
    have e : p = pn := by omega
    subst e
    refine g97_1 hS hx a_32 hfn ?_
    rw [hM.1]
    exact ⟨fun _ => ⟨hR, hX, hA⟩, fun c => absurd ((o_lt (by omega) (by omega)).mpr (by omega)) c⟩
  | succ d ih =>
    intro p hd hp M hS hM hT hF hR hX hA
    have ih := ih (p + 1) (by omega) (by omega)
    have hun := un_mono k (p + 1) (pn - (p + 1))
    rw [show p + 1 + (pn - (p + 1)) = pn from by omega] at hun
    have hus := us_le k p
    have hkp := (hk (p + 1) (by omega)).2
    refine g97_1 hS hx a_32 hfn ?_
    rw [hM.1]
    refine ⟨fun c => absurd ((o_lt (by omega) (by omega)).mp c) (by omega), fun _ => ⟨fun c => absurd ((o_lt (by omega) (by omega)).mp c) (by omega), fun _ => ⟨(o_in (by omega)).mpr (by omega), ?_⟩⟩⟩
    rw [o_cl (by omega), hM.2 (p + 1) (by omega), ki_m hkp]
    refine ⟨fun c => ?_, fun c => ?_⟩
    · rw [un_s, us_s, ux_s, if_pos c, if_pos c, if_pos c] at ih
      rw [o_s]
      exact ih M hS hM hT hF (by
        refine ⟨hR.1, fun b hb => ?_, fun b b1 hb => ?_⟩
        · simp only [uD_4 c]; exact hR.2.1 b hb
        · simp only [uD_4 c]; exact hR.2.2 b b1 hb) hX hA
    · have e600 : un k p < 600 := by
        rw [un_s, if_neg c] at hun
        omega
      rw [ki_1 c, o_p (by omega), Nat.add_sub_cancel, o_cl (by omega), (hT p (by omega)).2]
      obtain ⟨y1, y2⟩ := p98_N hF.1 (b := 45) (z := ps p) (by omega) (hw.1 45 (by omega)) (by have := hP.2.1 p (by omega); omega)
      have y1 : p98_0 M fn (45 : Int32) (Int32.ofNat (ps p)) = Int32.ofNat (uh pn ps w (p + 1)) := by
        rw [show (45 : Int32) = Int32.ofNat 45 from rfl, y1]
        unfold uh
        rw [Nat.add_sub_cancel, if_pos (by omega)]
      have wd := s100 (a := us k p) (b := p + 1) (x := pb) (z := ps) hS hfn xt a_32 hF hw (by omega) hus (by omega) (by omega) (by omega) (by omega) (fun i h1 _ => ⟨by have := hP.2.1 i (by omega); omega, (hT i (by omega)).1⟩) (fun i h1 _ => ⟨by have := hP.2.1 i (by omega); omega, (hT i (by omega)).2⟩)
      rw [pwd_uW hP hw hus (by omega)] at wd
      have hWb := uW_b (pw := pw) hP hw (us k p) (p + 1) hus
      have hhb := uh_b (pw := pw) (kf := kf) (jf := jf) hP hw (p + 1)
      have hgb := ug_b (pw := pw) (kf := kf) (jf := jf) hP hw (p + 1)
      have hXb := ux_le (k := k) (W := uW pn pb ps w kf jf) (h := uh pn ps w) (uW_b (pw := pw) hP hw) (uh_b (pw := pw) (kf := kf) (jf := jf) hP hw) p
      have tail : ∀ M9, SH M9 → iV M9 x0 3 = Int32.ofNat (un k p + 1) ∧ iV M9 (x0 + 3) (un k p + 1) = Int32.ofNat (k (p + 1)) ∧ iV M9 (x0 + 4) (un k p + 1) = Int32.ofNat (p + 1) ∧ iV M9 (x0 + 5) (un k p + 1) = Int32.ofNat (if k (p + 1) = 1 then uh pn ps w (p + 1) else 0) ∧ iV M9 (x0 + 6) (un k p + 1) = iV M (x0 + 6) (un k p) ∧ jV M9 (x0 + 7) (un k p + 1) = jV M (x0 + 7) (un k p) + Int64.ofNat (uW pn pb ps w kf jf (us k p) (p + 1)) ∧ jV M9 (x0 + 8) (un k p + 1) = jV M (x0 + 8) (un k p) ∧ jV M9 (x0 + 9) (un k p + 1) = jV M (x0 + 9) (un k p) ∧ jV M9 (x0 + 10) (un k p + 1) = jV M (x0 + 10) (un k p) ∧ jV M9 x0 12 = (if (Int64.ofNat (uW pn pb ps w kf jf (us k p) (p + 1)) + (Int32.ofNat (if k (p + 1) = 1 then uh pn ps w (p + 1) else 0)).toInt64) < (jV M x0 12) then (jV M x0 12) else (Int64.ofNat (uW pn pb ps w kf jf (us k p) (p + 1)) + (Int32.ofNat (if k (p + 1) = 1 then uh pn ps w (p + 1) else 0)).toInt64)) ∧ Fr (pAB x0 (un k p + 1)) M M9 → (vp_in (Int32.ofNat (p + 1)) 4001) ∧ (((iV M9 (x0 + 2) (p + 1)) = 0 → (((Int32.ofNat 4000) ≤ (Int32.ofNat (p + 1)) → sm_w 97 (15, [some (.ref x0), some (.ref 32), some (.ref fn), some (.int ((Int32.ofNat (p + 1)))), some (.int ((Int32.ofNat (p + 1)) + (1 : Int32))), none], []) M9 (rV (fun M2 => cRw M2 x0 (un k pn) (uD k (uW pn pb ps w kf jf) (ug pn ps w) (uh pn ps w) pn) ∧ jV M2 x0 12 = Int64.ofNat (ux k (uW pn pb ps w kf jf) (uh pn ps w) pn) ∧ Fr (pfi x0) A M2))) ∧ (¬ (Int32.ofNat 4000) ≤ (Int32.ofNat (p + 1)) → (vp_in (Int32.ofNat (p + 1)) 4000) ∧ (q98_0 M9 fn (32 : Int32) (iV M9 32 (p + 1))) ∧ (vp_in (iV M9 x0 3) 601) ∧ ∀ M44, SH M44 → M44 = sm_wI M9 (x0 + 6) (iV M9 x0 3).toNatClampNeg ((iV M9 (x0 + 6) (iV M9 x0 3).toNatClampNeg) + (1 : Int32)) → (vp_in (iV M44 x0 3) 601) ∧ ∀ M47, SH M47 → M47 = sm_wJ M44 (x0 + 8) (iV M44 x0 3).toNatClampNeg ((jV M44 (x0 + 8) (iV M44 x0 3).toNatClampNeg) + ((p98_0 M9 fn (32 : Int32) (iV M9 32 (p + 1))).toInt64)) → (vp_in (iV M47 x0 3) 601) ∧ ∀ M50, SH M50 → M50 = sm_wJ M47 (x0 + 9) (iV M47 x0 3).toNatClampNeg ((jV M47 (x0 + 9) (iV M47 x0 3).toNatClampNeg) + (((p98_0 M9 fn (32 : Int32) (iV M9 32 (p + 1))) / (2 : Int32)).toInt64)) → (vp_in (iV M50 x0 3) 601) ∧ ∀ M53, SH M53 → M53 = sm_wJ M50 (x0 + 10) (iV M50 x0 3).toNatClampNeg ((jV M50 (x0 + 10) (iV M50 x0 3).toNatClampNeg) + (((p98_0 M9 fn (32 : Int32) (iV M9 32 (p + 1))) / (3 : Int32)).toInt64)) → sm_w 97 (15, [some (.ref x0), some (.ref 32), some (.ref fn), some (.int ((Int32.ofNat (p + 1)) + (1 : Int32))), some (.int ((Int32.ofNat (p + 1)) + (1 : Int32))), none], []) M53 (rV (fun M2 => cRw M2 x0 (un k pn) (uD k (uW pn pb ps w kf jf) (ug pn ps w) (uh pn ps w) pn) ∧ jV M2 x0 12 = Int64.ofNat (ux k (uW pn pb ps w kf jf) (uh pn ps w) pn) ∧ Fr (pfi x0) A M2))))) ∧ (¬ (iV M9 (x0 + 2) (p + 1)) = 0 → sm_w 97 (15, [some (.ref x0), some (.ref 32), some (.ref fn), some (.int ((Int32.ofNat (p + 1)))), some (.int ((Int32.ofNat (p + 1)) + (1 : Int32))), none], []) M9 (rV (fun M2 => cRw M2 x0 (un k pn) (uD k (uW pn pb ps w kf jf) (ug pn ps w) (uh pn ps w) pn) ∧ jV M2 x0 12 = Int64.ofNat (ux k (uW pn pb ps w kf jf) (uh pn ps w) pn) ∧ Fr (pfi x0) A M2)))) := by
        intro M9 s9 k9
        obtain ⟨n0, n1, n2, n3, n4, n5, n6, n7, n8, n9, f9⟩ := k9
        obtain ⟨r1, r2, r3⟩ := hR
        obtain ⟨q1, q2, q3, q4, q5, q6, q7⟩ := r2 (un k p) (Nat.le_refl _)
        rw [q3] at n4
        rw [q4, j_add] at n5
        rw [q5] at n6
        rw [q6] at n7
        rw [q7] at n8
        have fA : Fr (pfi x0) A M9 := hA.tr (f9.mono fun a i z => by unfold pAB at z; unfold pfi; omega)
        have ux2 : ∀ M5, jV M5 x0 12 = jV M9 x0 12 → jV M5 x0 12 = Int64.ofNat (ux k (uW pn pb ps w kf jf) (uh pn ps w) (p + 1)) := by
          intro M5 e5
          rw [e5, n9, hX, j_i64 (by split <;> omega), j_add, ux_s, if_neg c]
          by_cases cc : uW pn pb ps w kf jf (us k p) (p + 1) + (if k (p + 1) = 1 then uh pn ps w (p + 1) else 0) < ux k (uW pn pb ps w kf jf) (uh pn ps w) p
          · rw [if_pos ((j_lt (by split <;> omega) (by omega)).mpr cc)]
            congr 1
            omega
          · rw [if_neg (fun z => cc ((j_lt (by split <;> omega) (by omega)).mp z))]
            congr 1
            omega
        have oc : (Int32.ofNat (un k p + 1)).toNatClampNeg = un k p + 1 := o_cl (by omega)
        have oi : vp_in (Int32.ofNat (un k p + 1)) 601 := (o_in (by omega)).mpr (by omega)
        have c9 : ∀ a i, (a = 32 ∨ a = x0 + 1 ∨ a = x0 + 2 ∨ a = x0 ∧ i = 1) → iV M9 a i = iV M a i := fun a i z => f9.2.1 a i (by unfold pAB; omega)
        have gen : ∀ M5, SH M5 → Fr (fun a i => (a = x0 + 6 ∨ a = x0 + 8 ∨ a = x0 + 9 ∨ a = x0 + 10) ∧ i = un k p + 1) M9 M5 → iV M5 (x0 + 6) (un k p + 1) = Int32.ofNat (uD k (uW pn pb ps w kf jf) (ug pn ps w) (uh pn ps w) p 7 (un k p) + (if k (p + 1) = 0 then 1 else 0)) → jV M5 (x0 + 8) (un k p + 1) = Int64.ofNat (uD k (uW pn pb ps w kf jf) (ug pn ps w) (uh pn ps w) p 3 (un k p) + (if k (p + 1) = 0 then ug pn ps w (p + 1) else 0)) → jV M5 (x0 + 9) (un k p + 1) = Int64.ofNat (uD k (uW pn pb ps w kf jf) (ug pn ps w) (uh pn ps w) p 4 (un k p) + (if k (p + 1) = 0 then ug pn ps w (p + 1) / 2 else 0)) → jV M5 (x0 + 10) (un k p + 1) = Int64.ofNat (uD k (uW pn pb ps w kf jf) (ug pn ps w) (uh pn ps w) p 5 (un k p) + (if k (p + 1) = 0 then ug pn ps w (p + 1) / 3 else 0)) → sm_w 97 (15, [some (.ref x0), some (.ref 32), some (.ref fn), some (.int (Int32.ofNat (us k (p + 1)))), some (.int (Int32.ofNat (p + 1 + 1))), none], []) M5 (rV (fun M2 => cRw M2 x0 (un k pn) (uD k (uW pn pb ps w kf jf) (ug pn ps w) (uh pn ps w) pn) ∧ jV M2 x0 12 = Int64.ofNat (ux k (uW pn pb ps w kf jf) (uh pn ps w) pn) ∧ Fr (pfi x0) A M2)) := by
          intro M5 s5 f5 g6 g8 g9 g10
          have c5 : ∀ a i, (a = 32 ∨ a = x0 + 1 ∨ a = x0 + 2 ∨ a = x0 ∧ i = 1) → iV M5 a i = iV M a i := fun a i z => (f5.2.1 a i (by omega)).trans (c9 a i z)
          refine ih M5 s5 ⟨by rw [c5 _ _ (by omega)]; exact hM.1, fun q hq => by rw [c5 _ _ (by omega)]; exact hM.2 q hq⟩ (fun i hi => by rw [c5 _ _ (by omega), c5 _ _ (by omega)]; exact hT i hi) (hF.eq fun a i h1 h2 => (f5.2.1 a i (by omega)).trans (f9.2.1 a i (by unfold pAB; omega))) ?_ (ux2 M5 (f5.2.2 _ _ (by omega))) (fA.tr (f5.mono fun a i z => by unfold pfi; omega))
          refine cRw_s c ⟨r1, r2, r3⟩ (by rw [f5.2.1 _ _ (by omega)]; exact n0) (fun a i z1 z2 z3 => ⟨(f5.2.1 a i (by omega)).trans (f9.2.1 a i (by unfold pAB; omega)), (f5.2.2 a i (by omega)).trans (f9.2.2 a i (by unfold pAB; omega))⟩) ⟨by rw [f5.2.1 _ _ (by omega)]; exact n1, by rw [f5.2.1 _ _ (by omega)]; exact n2, g6, by rw [f5.2.2 _ _ (by omega)]; exact n5, g8, g9, g10, by rw [f5.2.1 _ _ (by omega)]; exact n3⟩
        rw [c9 (x0 + 2) (p + 1) (by omega), hM.2 (p + 1) (by omega), ki_1 c, o_eq0 (by omega)]
        refine ⟨(o_in (by omega)).mpr (by omega), fun c0 => ?_, fun c0 => ?_⟩
        · have hlt : p + 1 < pn := by
            have := hk (p + 1) (by omega)
            omega
          refine ⟨fun c4 => absurd ((o_le (by omega) (by omega)).mp c4) (by omega), fun _ => ⟨(o_in (by omega)).mpr (by omega), ?_⟩⟩
          have f1 : ∀ b, b < 128 → iV M9 (fn + 1) b = Int32.ofNat (w b) := fun b hb => by rw [f9.2.1 _ _ (by unfold pAB; omega)]; exact hF.1 b hb
          obtain ⟨t1, t2⟩ := p98_N f1 (b := 32) (z := ps (p + 1)) (by omega) (hw.1 32 (by omega)) (by have := hP.2.1 (p + 1) (by omega); omega)
          have t1 : p98_0 M9 fn (32 : Int32) (Int32.ofNat (ps (p + 1))) = Int32.ofNat (ug pn ps w (p + 1)) := by
            rw [show (32 : Int32) = Int32.ofNat 32 from rfl, t1]
            unfold ug
            rw [if_pos hlt]
          rw [c9 32 (p + 1) (by omega), (hT (p + 1) hlt).2, t1, n0, oc, n4, o_s, show (2 : Int32) = Int32.ofNat 2 from rfl, show (3 : Int32) = Int32.ofNat 3 from rfl, o_dv (by omega) (by omega) (by omega), o_dv (by omega) (by omega) (by omega), j_i64 (by omega), j_i64 (by omega), j_i64 (by omega)]
          refine ⟨t2, oi, fun M44 s44 e44 => ?_⟩
          have b44 : iV M44 x0 3 = Int32.ofNat (un k p + 1) := by rw [e44, iV_wI, if_neg (by omega)]; exact n0
          rw [b44, oc]
          refine ⟨oi, fun M47 s47 e47 => ?_⟩
          have b47 : iV M47 x0 3 = Int32.ofNat (un k p + 1) := by rw [e47, iV_wJ]; exact b44
          rw [b47, oc]
          refine ⟨oi, fun M50 s50 e50 => ?_⟩
          have b50 : iV M50 x0 3 = Int32.ofNat (un k p + 1) := by rw [e50, iV_wJ]; exact b47
          rw [b50, oc]
          refine ⟨oi, fun M53 s53 e53 => ?_⟩
          rw [o_s (p + 1)]
          have gg := gen M53 s53 (by
            rw [e53, e50, e47, e44]
            exact ((((Fr.rf _ _).wI ⟨Or.inl rfl, rfl⟩).wJ ⟨Or.inr (Or.inl rfl), rfl⟩).wJ ⟨Or.inr (Or.inr (Or.inl rfl)), rfl⟩).wJ ⟨Or.inr (Or.inr (Or.inr rfl)), rfl⟩) (by
            rw [e53, iV_wJ, e50, iV_wJ, e47, iV_wJ, e44, iV_wI, if_pos ⟨rfl, rfl⟩, if_pos c0]) (by
            rw [e53, jV_wJ, if_neg (by omega), e50, jV_wJ, if_neg (by omega), e47, jV_wJ, if_pos ⟨rfl, rfl⟩, e44, jV_wI, n6, j_add, if_pos c0]) (by
            rw [e53, jV_wJ, if_neg (by omega), e50, jV_wJ, if_pos ⟨rfl, rfl⟩, e47, jV_wJ, if_neg (by omega), e44, jV_wI, n7, j_add, if_pos c0]) (by
            rw [e53, jV_wJ, if_pos ⟨rfl, rfl⟩, e50, jV_wJ, if_neg (by omega), e47, jV_wJ, if_neg (by omega), e44, jV_wI, n8, j_add, if_pos c0])
          rw [us_s, if_neg c, if_pos c0] at gg
          exact gg
        · have gg := gen M9 s9 (Fr.rf _ _) (by rw [if_neg c0]; exact n4) (by rw [if_neg c0]; exact n6) (by rw [if_neg c0]; exact n7) (by rw [if_neg c0]; exact n8)
          rw [us_s, if_neg c, if_neg c0] at gg
          rw [o_s]
          exact gg
      refine ⟨(o_in (by omega)).mpr (by omega), fun c1 => ?_, fun c1 => ?_⟩
      · rw [show (1 : Int32) = Int32.ofNat 1 from rfl, o_eq (n := k (p + 1)) (m := 1) (by omega) (by omega)] at c1
        rw [y1]
        refine ⟨(o_in (by omega)).mpr (by omega), y2, (o_in (by omega)).mpr (by omega), wd.mono fun v M6 k6 s6 => ?_⟩
        obtain ⟨rfl, rfl⟩ := k6
        refine (s102 s6 hx e600 hR.1).mono fun M9 k9 s9 => ?_
        have tt := tail M9 s9
        rw [if_pos c1] at tt
        exact tt k9
      · rw [show (1 : Int32) = Int32.ofNat 1 from rfl, o_eq (n := k (p + 1)) (m := 1) (by omega) (by omega)] at c1
        refine ⟨(o_in (by omega)).mpr (by omega), wd.mono fun v M6 k6 s6 => ?_⟩
        obtain ⟨rfl, rfl⟩ := k6
        refine (s102 s6 hx e600 hR.1).mono fun M9 k9 s9 => ?_
        have tt := tail M9 s9
        rw [if_neg c1] at tt
        exact tt k9
end FILL2
