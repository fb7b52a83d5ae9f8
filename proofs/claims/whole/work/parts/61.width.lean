/-! WIDTHS. -/
def sc (z : Nat) (v : Int32) : Int64 := if 0 ≤ v then ((Int32.ofNat z).toInt64 * v.toInt64) / (1000 : Int64) else -(((Int32.ofNat z).toInt64 * (-v).toInt64) / (1000 : Int64))
theorem p196_sc (M : sm_M) (z : Nat) (v : Int32) : p196_0 M (Int32.ofNat z) v = sc z v := rfl
theorem zmul_b {z v : Int} (h1 : 0 ≤ z) (h2 : z ≤ 100000) (h3 : -5000 ≤ v) (h4 : v ≤ 5000) : -500000000 ≤ z * v ∧ z * v ≤ 500000000 := by
  constructor
  · have a : z * (-5000) ≤ z * v := Int.mul_le_mul_of_nonneg_left h3 h1
    omega
  · have a : z * v ≤ z * 5000 := Int.mul_le_mul_of_nonneg_left h4 h1
    omega
theorem tdiv_b {a : Int} (h1 : -500000000 ≤ a) (h2 : a ≤ 500000000) : -500000 ≤ a.tdiv 1000 ∧ a.tdiv 1000 ≤ 500000 := by
  rcases Int.lt_or_le a 0 with z | z
  · have e : a.tdiv 1000 = -((-a).tdiv 1000) := by rw [Int.neg_tdiv]; omega
    rw [e, Int.tdiv_eq_ediv_of_nonneg (by omega)]
    omega
  · rw [Int.tdiv_eq_ediv_of_nonneg z]
    omega
theorem sc_ti {z : Nat} {v : Int32} (hz : z ≤ 100000) (h3 : -5000 ≤ v.toInt) (h4 : v.toInt ≤ 5000) : (sc z v).toInt = ((z : Int) * v.toInt).tdiv 1000 := by
  have e0 : (0 : Int32).toInt = 0 := rfl
  have ez : (Int32.ofNat z).toInt64.toInt = (z : Int) := by rw [Int32.toInt_toInt64, o_ti (by omega)]
  have hb := zmul_b (z := z) (v := v.toInt) (by omega) (by omega) h3 h4
  have hb2 := zmul_b (z := z) (v := -v.toInt) (by omega) (by omega) (by omega) (by omega)
  unfold sc
  by_cases h : 0 ≤ v
  · rw [if_pos h, Int64.toInt_div_of_ne_right _ _ (by decide), y_mul, ez, Int32.toInt_toInt64]
    · rfl
    · rw [ez, Int32.toInt_toInt64]; omega
    · rw [ez, Int32.toInt_toInt64]; omega
  · rw [if_neg h]
    have e1 : (-v).toInt = -v.toInt := by rw [Int32.toInt_neg, z_bm (by omega) (by omega)]
    have e2 : (((Int32.ofNat z).toInt64 * (-v).toInt64) / (1000 : Int64)).toInt = ((z : Int) * -v.toInt).tdiv 1000 := by
      rw [Int64.toInt_div_of_ne_right _ _ (by decide), y_mul, ez, Int32.toInt_toInt64, e1]
      · rfl
      · rw [ez, Int32.toInt_toInt64, e1]; omega
      · rw [ez, Int32.toInt_toInt64, e1]; omega
    have hd := tdiv_b hb2.1 hb2.2
    rw [Int64.toInt_neg, e2, y_bm (by omega) (by omega), Int.mul_neg, Int.neg_tdiv, Int.neg_neg]
theorem p99_sc (M : sm_M) {z : Nat} {v : Int32} (hz : z ≤ 100000) (h3 : -5000 ≤ v.toInt) (h4 : v.toInt ≤ 5000) : (p99_0 M v (Int32.ofNat z)).toInt64 = sc z v := by
  have hb := zmul_b (z := z) (v := v.toInt) (by omega) (by omega) h3 h4
  rw [y_eq, sc_ti hz h3 h4, Int32.toInt_toInt64]
  unfold p99_0
  rw [Int32.toInt_div_of_ne_right _ _ (by decide), z_mul, o_ti (by omega)]
  · rfl
  · rw [o_ti (by omega)]; omega
  · rw [o_ti (by omega)]; omega
theorem o_p {k : Nat} (h : 1 ≤ k) : Int32.ofNat k - 1 = Int32.ofNat (k - 1) := (Int32.ofNat_sub k 1 h).symm
def kst (a : Nat) (x z : Nat → Nat) (kf : Nat → Nat → Int32) (k : Nat) (s : Int64) : Int64 := if a < k ∧ z (k - 1) = z k then s + sc (z k) (kf (x (k - 1)) (x k)) else s
def pwF (a b : Nat) (x z w : Nat → Nat) (kf jf : Nat → Nat → Int32) : Nat → Nat → Int64 → Int64
  | 0, _, s => s
  | f + 1, k, s => if k < b then (if k + 1 < b ∧ z (k + 1) = z k ∧ jf (x k) (x (k + 1)) ≠ -1 then pwF a b x z w kf jf f (k + 2) (kst a x z kf k s + sc (z k) (jf (x k) (x (k + 1)))) else pwF a b x z w kf jf f (k + 1) (kst a x z kf k s + sc (z k) (Int32.ofNat (w (x k))))) else s
/-- the width of the bytes a .. b - 1 -/
def pwd (a b : Nat) (x z w : Nat → Nat) (kf jf : Nat → Nat → Int32) : Int64 := if (0 : Int64) < pwF a b x z w kf jf (b - a) a 0 then pwF a b x z w kf jf (b - a) a 0 else 0
def wF (w : Nat → Nat) (kf jf : Nat → Nat → Int32) : Prop := (∀ b, b < 128 → w b ≤ 5000) ∧ (∀ a b, -500 ≤ (kf a b).toInt ∧ (kf a b).toInt ≤ 500) ∧ ∀ a b, -1 ≤ (jf a b).toInt ∧ (jf a b).toInt ≤ 5000
def cF (M : sm_M) (o : Nat) (w : Nat → Nat) (kf jf : Nat → Nat → Int32) : Prop := (∀ b, b < 128 → iV M (o + 1) b = Int32.ofNat (w b)) ∧ (∃ n A B V, cQt M (o + 3) n A B V ∧ dQ n A B ∧ ∀ a b, kf a b = lkQ n A B V 0 a b) ∧ ∃ n A B V, cQt M (o + 8) n A B V ∧ dQ n A B ∧ ∀ a b, jf a b = lkQ n A B V (-1) a b
def mF (M : sm_M) (w : Nat → Nat) (kf jf : Nat → Nat → Int32) : Prop := (∀ b, b < 128 → iV M 120 b = Int32.ofNat (w b)) ∧ (∃ n A B V, n ≤ 200 ∧ (∀ k, k < n → A k < 128 ∧ B k < 128) ∧ mQt M 28 122 123 124 n A B V ∧ ∀ a b, kf a b = lkQ n A B V 0 a b) ∧ ∃ n A B V, n ≤ 60 ∧ (∀ k, k < n → A k < 128 ∧ B k < 128 ∧ V k ≠ -1) ∧ mQt M 29 125 126 127 n A B V ∧ ∀ a b, jf a b = lkQ n A B V (-1) a b
theorem p98_w {M : sm_M} {o : Nat} {w : Nat → Nat} (hw : ∀ b, b < 128 → iV M (o + 1) b = Int32.ofNat (w b)) {b z : Nat} (hb : b < 128) (h5 : w b ≤ 5000) (hz : z ≤ 100000) : (p98_0 M o (Int32.ofNat b) (Int32.ofNat z)).toInt64 = sc z (Int32.ofNat (w b)) ∧ q98_0 M o (Int32.ofNat b) (Int32.ofNat z) := by
  have c1 : ¬ (128 : Int32) ≤ Int32.ofNat b := fun c => absurd ((o_le (n := 128) (by omega) (by omega)).mp c) (by omega)
  constructor
  · unfold p98_0
    rw [if_neg (o_nn (by omega)), if_neg c1, o_cl (by omega), hw b hb]
    exact p99_sc M hz (by rw [o_ti (by omega)]; omega) (by rw [o_ti (by omega)]; omega)
  · unfold q98_0
    exact ⟨fun _ => trivial, fun _ => ⟨fun _ => trivial, fun _ => (o_in (by omega)).mpr hb⟩⟩
section PW
variable {M : sm_M} {o xa za nx nz a b : Nat} {x z w : Nat → Nat} {kf jf : Nat → Nat → Int32}
theorem s100_1 (hS : SH M) (ho : fF o) (hxa : sA xa 1 nx) (hza : sA za 0 nz) (hF : cF M o w kf jf) (hw : wF w kf jf) (hb : b ≤ 8192) (hbx : b ≤ nx) (hbz : b ≤ nz) (hX : ∀ i, i < b → a ≤ i → x i < 128 ∧ iV M xa i = Int32.ofNat (x i)) (hZ : ∀ i, i < b → a ≤ i → z i ≤ 100000 ∧ iV M za i = Int32.ofNat (z i)) : ∀ (f k : Nat) (s : Int64), b - k ≤ f → a ≤ k → k ≤ b → sm_w 100 (24, [some (.ref o), some (.ref xa), some (.ref za), some (.int (Int32.ofNat a)), none, some (.long (s)), none, some (.int (Int32.ofNat b)), some (.int (Int32.ofNat k)), none, none], []) M (rJ (fun v M2 => v = (if (0 : Int64) < pwF a b x z w kf jf f k s then pwF a b x z w kf jf f k s else 0) ∧ M2 = M)) := by
  obtain ⟨w1, w2, w3⟩ := hw
  obtain ⟨f1, ⟨n1, A1, B1, V1, q1, d1, e1⟩, n2, A2, B2, V2, q2, d2, e2⟩ := hF
  intro f
  induction f with
  | zero =>
    intro k s hf ha hk
    have e : k = b := by omega
    subst e
    exact g100_1 hS ho hxa hza ⟨fun _ => ⟨rfl, rfl⟩, fun c => absurd ((o_le (by omega) (by omega)).mpr (Nat.le_refl _)) c⟩
  | succ f ih =>
    intro k s hf ha hk
    by_cases hkb : k < b
    · obtain ⟨x1, x2⟩ := hX k hkb ha
      obtain ⟨z1, z2⟩ := hZ k hkb ha
      have e8 : Int32.ofNat k + (1 : Int32) = Int32.ofNat (k + 1) := o_s k
      -- behind the kern
      have st : sm_w 100 (81, [some (.ref o), some (.ref xa), some (.ref za), some (.int (Int32.ofNat a)), none, some (.long (kst a x z kf k s)), none, some (.int (Int32.ofNat b)), some (.int (Int32.ofNat k)), none, none], []) M (rJ (fun v M2 => v = (if (0 : Int64) < pwF a b x z w kf jf (f + 1) k s then pwF a b x z w kf jf (f + 1) k s else 0) ∧ M2 = M)) := by
        have plain : ¬ (k + 1 < b ∧ z (k + 1) = z k ∧ jf (x k) (x (k + 1)) ≠ -1) → sm_w 100 (24, [some (.ref o), some (.ref xa), some (.ref za), some (.int (Int32.ofNat a)), none, some (.long (kst a x z kf k s + sc (z k) (Int32.ofNat (w (x k))))), none, some (.int (Int32.ofNat b)), some (.int (Int32.ofNat (k + 1))), none, none], []) M (rJ (fun v M2 => v = (if (0 : Int64) < pwF a b x z w kf jf (f + 1) k s then pwF a b x z w kf jf (f + 1) k s else 0) ∧ M2 = M)) := fun hn => by
          have h := ih (k + 1) (kst a x z kf k s + sc (z k) (Int32.ofNat (w (x k)))) (by omega) (by omega) (by omega)
          have ep : pwF a b x z w kf jf (f + 1) k s = pwF a b x z w kf jf f (k + 1) (kst a x z kf k s + sc (z k) (Int32.ofNat (w (x k)))) := by
            conv => lhs; unfold pwF
            rw [if_pos hkb, if_neg hn]
          rw [ep]
          exact h
        have pl2 := p98_w f1 x1 (w1 _ x1) z1
        have seven : ¬ (k + 1 < b ∧ z (k + 1) = z k ∧ jf (x k) (x (k + 1)) ≠ -1) → sm_w 100 (107, [some (.ref o), some (.ref xa), some (.ref za), some (.int (Int32.ofNat a)), none, some (.long (kst a x z kf k s)), none, some (.int (Int32.ofNat b)), some (.int (Int32.ofNat k)), none, none], []) M (rJ (fun v M2 => v = (if (0 : Int64) < pwF a b x z w kf jf (f + 1) k s then pwF a b x z w kf jf (f + 1) k s else 0) ∧ M2 = M)) := fun hn => by
          refine g100_3 hS ho hxa hza ?_
          rw [o_cl (by omega), x2, z2, e8, pl2.1]
          exact ⟨(o_in (by omega)).mpr (by omega), (o_in (by omega)).mpr (by omega), pl2.2, plain hn⟩
        refine g100_2 hS ho hxa hza ?_
        rw [e8, o_cl (n := k) (by omega), o_cl (n := k + 1) (by omega)]
        refine ⟨fun c => seven (fun w => absurd ((o_le (by omega) (by omega)).mp c) (by omega)), fun c => ?_⟩
        have c : k + 1 < b := by
          have := mt (o_le (n := b) (m := k + 1) (by omega) (by omega)).mpr c
          omega
        obtain ⟨x3, x4⟩ := hX (k + 1) c (by omega)
        obtain ⟨z3, z4⟩ := hZ (k + 1) c (by omega)
        refine ⟨(o_in (by omega)).mpr (by omega), (o_in (by omega)).mpr (by omega), ?_⟩
        rw [z4, z2, x2, x4, o_eq (by omega) (by omega)]
        refine ⟨fun c2 => ⟨(o_in (by omega)).mpr (by omega), (o_in (by omega)).mpr (by omega), ?_⟩, fun c2 => seven (fun w => c2 w.2.1)⟩
        refine (s101 hS (fF_8 ho) q2 d2 x1 x3).mono fun v M5 k5 s5 => ?_
        obtain ⟨k51, k52⟩ := k5
        subst k52
        rw [← e2] at k51
        rw [k51, x2, z2, pl2.1]
        refine ⟨fun c3 => ⟨(o_in (by omega)).mpr (by omega), (o_in (by omega)).mpr (by omega), pl2.2, plain (fun w => w.2.2 c3)⟩, fun c3 => ⟨(o_in (by omega)).mpr (by omega), ?_⟩⟩
        have h := ih (k + 2) (kst a x z kf k s + sc (z k) (jf (x k) (x (k + 1)))) (by omega) (by omega) (by omega)
        have ep : pwF a b x z w kf jf (f + 1) k s = pwF a b x z w kf jf f (k + 2) (kst a x z kf k s + sc (z k) (jf (x k) (x (k + 1)))) := by
          conv => lhs; unfold pwF
          rw [if_pos hkb, if_pos ⟨c, c2, c3⟩]
        have hj := w3 (x k) (x (k + 1))
        rw [ep, p99_sc _ z1 (by omega) (by omega), show Int32.ofNat k + 2 = Int32.ofNat (k + 2) from (Int32.ofNat_add k 2).symm]
        exact h
      refine g100_1 hS ho hxa hza ⟨fun c => absurd ((o_le (by omega) (by omega)).mp c) (by omega), fun _ => ⟨fun c => ?_, fun c => ?_⟩⟩
      · have c := (o_le (by omega) (by omega)).mp c
        have e : kst a x z kf k s = s := if_neg (fun w => by omega)
        rw [e] at st
        exact st
      · have c : a < k := by
          have := mt (o_le (n := k) (m := a) (by omega) (by omega)).mpr c
          omega
        obtain ⟨x3, x4⟩ := hX (k - 1) (by omega) (by omega)
        obtain ⟨z3, z4⟩ := hZ (k - 1) (by omega) (by omega)
        rw [o_p (by omega), o_cl (n := k) (by omega), o_cl (n := k - 1) (by omega), z4, z2, x4, x2, o_eq (by omega) (by omega)]
        refine ⟨(o_in (by omega)).mpr (by omega), (o_in (by omega)).mpr (by omega), fun c2 => ⟨(o_in (by omega)).mpr (by omega), (o_in (by omega)).mpr (by omega), ?_⟩, fun c2 => ?_⟩
        · refine (s101 hS (fF_3 ho) q1 d1 x3 x1).mono fun v M5 k5 s5 => ?_
          obtain ⟨k51, k52⟩ := k5
          subst k52
          rw [← e1] at k51
          have hj := w2 (x (k - 1)) (x k)
          have e : kst a x z kf k s = s + sc (z k) (kf (x (k - 1)) (x k)) := if_pos ⟨c, c2⟩
          rw [e] at st
          rw [k51, z2, p99_sc _ z1 (by omega) (by omega)]
          exact ⟨(o_in (by omega)).mpr (by omega), st⟩
        · have e : kst a x z kf k s = s := if_neg (fun w => c2 w.2)
          rw [e] at st
          exact st
    · have e : k = b := by omega
      subst e
      have ep : pwF a k x z w kf jf (f + 1) k s = s := by
        conv => lhs; unfold pwF
        rw [if_neg hkb]
      rw [ep]
      exact g100_1 hS ho hxa hza ⟨fun _ => ⟨rfl, rfl⟩, fun c => absurd ((o_le (by omega) (by omega)).mpr (Nat.le_refl _)) c⟩
theorem s100 (hS : SH M) (ho : fF o) (hxa : sA xa 1 nx) (hza : sA za 0 nz) (hF : cF M o w kf jf) (hw : wF w kf jf) (hb : b ≤ 8192) (hab : a ≤ b) (hnx : nx ≤ 8192) (hnz : nz ≤ 8192) (hbx : b ≤ nx) (hbz : b ≤ nz) (hX : ∀ i, i < b → a ≤ i → x i < 128 ∧ iV M xa i = Int32.ofNat (x i)) (hZ : ∀ i, i < b → a ≤ i → z i ≤ 100000 ∧ iV M za i = Int32.ofNat (z i)) : sm_cJ 100 [.ref o, .ref xa, .ref za, .int (Int32.ofNat a), .int (Int32.ofNat b)] M (fun v M2 => v = pwd a b x z w kf jf ∧ M2 = M) := by
  refine g100_0 hS ho hxa hza ?_
  have e1 : (if (if (Int32.ofNat nz) < (Int32.ofNat nx) then (Int32.ofNat nz) else (Int32.ofNat nx)) < Int32.ofNat b then (if (Int32.ofNat nz) < (Int32.ofNat nx) then (Int32.ofNat nz) else (Int32.ofNat nx)) else Int32.ofNat b) = Int32.ofNat b := by
    refine if_neg ?_
    split
    · rw [o_lt (by omega) (by omega)]; omega
    · rw [o_lt (by omega) (by omega)]; omega
  rw [e1, if_neg (o_nn (by omega))]
  exact s100_1 hS ho hxa hza hF hw hb hbx hbz hX hZ (b - a) a 0 (Nat.le_refl _) (Nat.le_refl _) hab
end PW
