/-! A FONT IS READ: what it is; the tables. -/
abbrev Pq := Nat × (Nat → Nat) × (Nat → Nat) × (Nat → Int32)
abbrev Fn := (Nat → Nat) × (Nat → Bool) × Nat × Pq × Pq
def ti (V : Nat → Int32) (n : Nat) (x : Int32) : Nat → Int32 := fun i => if i = n then x else V i
def iQ (Q : Pq) (a b : Nat) : Nat := ixQ Q.1 Q.2.1 Q.2.2.1 a b
def tQ (Q : Pq) (a b : Nat) (v : Int32) : Pq := if iQ Q a b < Q.1 then (Q.1, Q.2.1, Q.2.2.1, ti Q.2.2.2 (iQ Q a b) v) else (Q.1 + 1, tp Q.2.1 Q.1 a, tp Q.2.2.1 Q.1 b, ti Q.2.2.2 Q.1 v)
def tW (G : Fn) (b v : Nat) : Fn := (tp G.1 b v, fun i => if i = b then true else G.2.1 i, (if G.2.1 b = true then G.2.2.1 else G.2.2.1 + 1), G.2.2.2)
def G0 : Fn := (fun _ => 500, fun _ => false, 0, (0, fun _ => 0, fun _ => 0, fun _ => 0), (0, fun _ => 0, fun _ => 0, fun _ => 0))
def wQ (lim : Nat) (lo hi : Int) (Q : Pq) : Prop := Q.1 ≤ lim ∧ dQ Q.1 Q.2.1 Q.2.2.1 ∧ ∀ k, k < Q.1 → Q.2.1 k < 128 ∧ Q.2.2.1 k < 128 ∧ lo ≤ (Q.2.2.2 k).toInt ∧ (Q.2.2.2 k).toInt ≤ hi
def wG (G : Fn) : Prop := (∀ b, b < 128 → G.1 b ≤ 5000) ∧ wQ 200 (-500) 500 G.2.2.2.1 ∧ wQ 60 0 5000 G.2.2.2.2
def room (lim : Nat) (Q : Pq) (a b : Nat) : Prop := Q.1 < lim ∨ iQ Q a b < Q.1
def cPt (M : sm_M) (q : Nat) (Q : Pq) : Prop := cQt M q Q.1 Q.2.1 Q.2.2.1 Q.2.2.2
def cFn (M : sm_M) (x : Nat) (G : Fn) : Prop := (∀ b, b < 128 → iV M (x + 1) b = Int32.ofNat (G.1 b)) ∧ (∀ b, b < 128 → (iV M (x + 2) b = 0 ↔ ¬ G.2.1 b = true)) ∧ iV M x 2 = Int32.ofNat G.2.2.1 ∧ cPt M (x + 3) G.2.2.2.1 ∧ cPt M (x + 8) G.2.2.2.2
theorem wG0 : wG G0 := ⟨fun b _ => by show 500 ≤ 5000; omega, ⟨by show 0 ≤ 200; omega, fun i j h1 h2 => absurd h2 (Nat.not_lt_zero _), fun k hk => absurd hk (Nat.not_lt_zero _)⟩, ⟨by show 0 ≤ 60; omega, fun i j h1 h2 => absurd h2 (Nat.not_lt_zero _), fun k hk => absurd hk (Nat.not_lt_zero _)⟩⟩
theorem iQ_nn {Q : Pq} {a b : Nat} (hd : dQ Q.1 Q.2.1 Q.2.2.1) (h : ¬ iQ Q a b < Q.1) : ∀ k, k < Q.1 → ¬ (Q.2.1 k = a ∧ Q.2.2.1 k = b) := fun k hk z => by
  have := ixQ_eq hd hk z
  unfold iQ at h
  omega
theorem tQ_y {Q : Pq} {a b : Nat} {v : Int32} (h : iQ Q a b < Q.1) : tQ Q a b v = (Q.1, Q.2.1, Q.2.2.1, ti Q.2.2.2 (iQ Q a b) v) := if_pos h
theorem tQ_n {Q : Pq} {a b : Nat} {v : Int32} (h : ¬ iQ Q a b < Q.1) : tQ Q a b v = (Q.1 + 1, tp Q.2.1 Q.1 a, tp Q.2.2.1 Q.1 b, ti Q.2.2.2 Q.1 v) := if_neg h
theorem tp_e (f : Nat → Nat) (n b : Nat) : tp f n b n = b := if_pos rfl
theorem tp_o (f : Nat → Nat) (n b : Nat) {i : Nat} (h : ¬ i = n) : tp f n b i = f i := if_neg h
theorem ti_e (f : Nat → Int32) (n : Nat) (b : Int32) : ti f n b n = b := if_pos rfl
theorem ti_o (f : Nat → Int32) (n : Nat) (b : Int32) {i : Nat} (h : ¬ i = n) : ti f n b i = f i := if_neg h
theorem tQ_w {lim : Nat} {lo hi : Int} {Q : Pq} {a b : Nat} {v : Int32} (h : wQ lim lo hi Q) (ha : a < 128) (hb : b < 128) (hr : room lim Q a b) (h1 : lo ≤ v.toInt) (h2 : v.toInt ≤ hi) : wQ lim lo hi (tQ Q a b v) := by
  obtain ⟨n, A, B, V⟩ := Q
  obtain ⟨w1, w2, w3⟩ := h
  by_cases z : iQ (n, A, B, V) a b < n
  · rw [tQ_y z]
    refine ⟨w1, w2, fun k hk => ?_⟩
    obtain ⟨u1, u2, u3, u4⟩ := w3 k hk
    refine ⟨u1, u2, ?_⟩
    show lo ≤ (ti V _ v k).toInt ∧ (ti V _ v k).toInt ≤ hi
    by_cases e : k = iQ (n, A, B, V) a b
    · rw [e, ti_e]; exact ⟨h1, h2⟩
    · rw [ti_o _ _ _ e]; exact ⟨u3, u4⟩
  · rw [tQ_n z]
    have nn := iQ_nn w2 z
    refine ⟨?_, fun i j i1 j1 => ?_, fun k hk => ?_⟩
    · show n + 1 ≤ lim
      rcases hr with y | y
      · exact y
      · exact absurd y z
    · show ¬ (tp A n a i = tp A n a j ∧ tp B n b i = tp B n b j)
      have j2 : j < n + 1 := j1
      rw [tp_o A n a (show ¬ i = n by omega), tp_o B n b (show ¬ i = n by omega)]
      by_cases e : j = n
      · rw [e, tp_e, tp_e]; exact nn i (by show i < n; omega)
      · rw [tp_o A n a e, tp_o B n b e]
        exact w2 i j i1 (by show j < n; omega)
    · have k2 : k < n + 1 := hk
      show tp A n a k < 128 ∧ tp B n b k < 128 ∧ lo ≤ (ti V n v k).toInt ∧ (ti V n v k).toInt ≤ hi
      by_cases e : k = n
      · rw [e, tp_e, tp_e, ti_e]; exact ⟨ha, hb, h1, h2⟩
      · rw [tp_o A n a e, tp_o B n b e, ti_o V n v e]
        exact w3 k (by show k < n; omega)
theorem prd_tp (A : Nat → Nat) (n a c : Nat) : ∀ m, m ≤ n → prd (tp A n a) c m = prd A c m
  | 0, _ => rfl
  | m + 1, h => by
    show (if tp A n a m = c then Int32.ofNat m else prd (tp A n a) c m) = if A m = c then Int32.ofNat m else prd A c m
    rw [prd_tp A n a c m (by omega), tp_o A n a (show ¬ m = n by omega)]
def pQ (q : Nat) : Nat → Nat → Prop := fun a k => a = q ∧ k = 4 ∨ q + 1 ≤ a ∧ a ≤ q + 4
theorem fQ_s {q : Nat} (h : fQ q) : (q = 45 ∨ q = 50 ∨ q = 58 ∨ q = 63) ∧ sA (q + 1) 0 128 := by
  refine ⟨h, ?_⟩
  rcases h with e | e | e | e <;> subst e <;> exact ⟨rfl, rfl⟩
theorem s27 {M : sm_M} {q : Nat} (hS : SH M) (hq : fQ q) : sm_cV 27 [.ref q] M (fun M2 => cPt M2 q (0, fun _ => 0, fun _ => 0, fun _ => 0) ∧ Fr (pQ q) M M2) := by
  obtain ⟨q1, q2⟩ := fQ_s hq
  refine g27_0 hS hq fun M1 s1 e1 => ?_
  refine (s9 s1 q2 (by omega)).mono fun M3 k3 s3 => ?_
  obtain ⟨k31, f3⟩ := k3
  refine ⟨⟨Nat.zero_le _, ?_, fun k hk => absurd hk (Nat.not_lt_zero _), fun a ha => k31 a ha⟩, (show Fr (pQ q) M M1 by rw [e1]; exact (Fr.rf _ _).wI (Or.inl ⟨rfl, rfl⟩)).tr (f3.mono fun a k z => by unfold pl at z; unfold pQ; omega)⟩
  rw [f3.2.1 _ _ (by unfold pl; omega), e1, iV_wI, if_pos ⟨rfl, rfl⟩]
  rfl
theorem s51 {M : sm_M} {q a b : Nat} {Q : Pq} (hS : SH M) (hq : fQ q) (hT : cPt M q Q) (hd : dQ Q.1 Q.2.1 Q.2.2.1) (ha : a < 128) (hb : b < 128) : sm_cI 51 [.ref q, .int (Int32.ofNat a), .int (Int32.ofNat b)] M (fun v M2 => (v = 1 ∧ room (cQ q) Q a b ∨ v = 0 ∧ ¬ room (cQ q) Q a b) ∧ M2 = M) := by
  have hc := cQ_le q
  have hn := hT.1
  refine g51_0 hS hq ?_
  rw [hT.2.1]
  refine ⟨fun c => ⟨Or.inl ⟨rfl, Or.inl ((o_lt (by omega) (by omega)).mp c)⟩, rfl⟩, fun c => (s52 hS hq hT hd ha hb).mono fun v2 M1 k1 s1 => ?_⟩
  obtain ⟨k11, k12⟩ := k1
  subst k12
  have c1 : ¬ Q.1 < cQ q := fun z => c ((o_lt (by omega) (by omega)).mpr z)
  by_cases z : iQ Q a b < Q.1
  · have z2 : ixQ Q.1 Q.2.1 Q.2.2.1 a b < Q.1 := z
    rw [if_pos z2] at k11
    rw [k11]
    exact ⟨fun c => absurd c (o_nn (by omega)), fun _ => ⟨Or.inl ⟨rfl, Or.inr z⟩, rfl⟩⟩
  · have z2 : ¬ ixQ Q.1 Q.2.1 Q.2.2.1 a b < Q.1 := z
    rw [if_neg z2] at k11
    rw [k11]
    exact ⟨fun _ => ⟨Or.inr ⟨rfl, fun y => y.elim c1 z⟩, rfl⟩, fun c => absurd (by decide) c⟩
theorem s53 {M : sm_M} {q a b : Nat} {v : Int32} {Q : Pq} (hS : SH M) (hq : fQ q) (hT : cPt M q Q) (hd : dQ Q.1 Q.2.1 Q.2.2.1) (ha : a < 128) (hb : b < 128) (hr : room (cQ q) Q a b) : sm_cV 53 [.ref q, .int (Int32.ofNat a), .int (Int32.ofNat b), .int (v)] M (fun M2 => cPt M2 q (tQ Q a b v) ∧ Fr (pQ q) M M2) := by
  obtain ⟨n, A, B, V⟩ := Q
  have hc := cQ_le q
  have hcq := cQ_le q
  obtain ⟨t1, t2, t3, t4⟩ := hT
  have t1' : n ≤ cQ q := t1
  have t2' : iV M q 4 = Int32.ofNat n := t2
  have t4' : ∀ c, c < 128 → iV M (q + 1) c = prd A c n := t4
  have q12 : (q = 45 ∨ q = 50 ∨ q = 58 ∨ q = 63) := (fQ_s hq).1
  refine g53_0 hS hq ((s52 hS hq ⟨t1, t2, t3, t4⟩ hd ha hb).mono fun v2 M1 k1 s1 => ?_)
  obtain ⟨k11, k12⟩ := k1
  subst k12
  by_cases z : iQ (n, A, B, V) a b < n
  · have z2 : ixQ n A B a b < n := z
    have k11 : v2 = Int32.ofNat (ixQ n A B a b) := by rw [if_pos z2] at k11; exact k11
    rw [k11]
    refine ⟨fun _ => ⟨fun c => absurd c (o_nn (by omega)), fun _ => ⟨(o_in (by omega)).mpr (by omega), fun M5 s5 e5 => ?_⟩⟩, fun c => absurd (Int32.not_lt.mp (o_nn (by omega))) c⟩
    rw [o_cl (by omega)] at e5
    rw [tQ_y z]
    have i5 : ∀ x k, ¬ (x = q + 4 ∧ k = ixQ n A B a b) → iV M5 x k = iV M1 x k := fun x k y => by rw [e5, iV_wI, if_neg y]
    refine ⟨⟨t1, by rw [i5 _ _ (by omega)]; exact t2, fun k hk => ?_, fun c hc => by rw [i5 _ _ (by omega)]; exact t4 c hc⟩, by rw [e5]; exact (Fr.rf _ _).wI (Or.inr ⟨by omega, by omega⟩)⟩
    obtain ⟨u1, u2, u3, u4, u5⟩ := t3 k hk
    refine ⟨u1, u2, by rw [i5 _ _ (by omega)]; exact u3, ?_, by rw [i5 _ _ (by omega)]; exact u5⟩
    show iV M5 (q + 4) k = ti V (ixQ n A B a b) v k
    by_cases e : k = ixQ n A B a b
    · rw [e, ti_e, e5, iV_wI, if_pos ⟨rfl, rfl⟩]
    · rw [ti_o _ _ _ e, i5 _ _ (fun y => e y.2)]; exact u4
  · have z2 : ¬ ixQ n A B a b < n := z
    rw [if_neg z2] at k11
    have hn : n < cQ q := by
      rcases hr with y | y
      · exact y
      · exact absurd y z
    have a1 : ¬ (128 : Int32) ≤ Int32.ofNat a := fun y => absurd ((o_le (n := 128) (by omega) (by omega)).mp y) (by omega)
    rw [k11, t2']
    refine ⟨fun c => absurd c (by decide), fun _ => ⟨fun c => absurd ((o_le (by omega) (by omega)).mp c) (by omega), fun _ => ⟨fun c => absurd c (o_nn (by omega)), fun _ => ⟨fun c => absurd c a1, fun _ M16 s16 e16 => ?_⟩⟩⟩⟩
    rw [o_s] at e16
    refine ⟨(o_in (by omega)).mpr (by omega), fun M19 s19 e19 => ⟨(o_in (by omega)).mpr (by omega), (o_in (by omega)).mpr (by omega), fun M23 s23 e23 => ⟨(o_in (by omega)).mpr (by omega), fun M26 s26 e26 => ⟨fun c => absurd c (o_nn (by omega)), fun _ => ⟨(o_in (by omega)).mpr (by omega), fun M29 s29 e29 => ?_⟩⟩⟩⟩⟩
    rw [o_cl (by omega)] at e19 e23 e26 e29
    rw [o_cl (n := a) (by omega)] at e23
    have h19 : iV M19 (q + 1) a = prd A a n := by rw [e19, iV_wI, if_neg (by omega), e16, iV_wI, if_neg (by omega)]; exact t4' a ha
    rw [h19] at e23
    have i29 : ∀ x k, ¬ (x = q ∧ k = 4) → ¬ (x = q + 1 ∧ k = a) → ¬ ((x = q + 2 ∨ x = q + 3 ∨ x = q + 4) ∧ k = n) → iV M29 x k = iV M1 x k := fun x k y1 y2 y3 => by
      rw [e29, iV_wI, if_neg (by omega), e26, iV_wI, if_neg (by omega), e23, iV_wI, if_neg (by omega), e19, iV_wI, if_neg (by omega), e16, iV_wI, if_neg (by omega)]
    rw [tQ_n z]
    refine ⟨⟨hn, ?_, fun k hk => ?_, fun c hc => ?_⟩, ?_⟩
    · rw [e29, iV_wI, if_neg (by omega), e26, iV_wI, if_neg (by omega), e23, iV_wI, if_neg (by omega), e19, iV_wI, if_neg (by omega), e16, iV_wI, if_pos ⟨rfl, rfl⟩]
    · have hk2 : k < n + 1 := hk
      show tp A n a k < 128 ∧ tp B n b k < 128 ∧ iV M29 (q + 3) k = Int32.ofNat (tp B n b k) ∧ iV M29 (q + 4) k = ti V n v k ∧ iV M29 (q + 2) k = prd (tp A n a) (tp A n a k) k
      rw [prd_tp A n a _ k (by omega)]
      by_cases e : k = n
      · rw [e, tp_e, tp_e, ti_e]
        refine ⟨ha, hb, ?_, ?_, ?_⟩
        · rw [e29, iV_wI, if_neg (by omega), e26, iV_wI, if_neg (by omega), e23, iV_wI, if_neg (by omega), e19, iV_wI, if_pos ⟨rfl, rfl⟩]
        · rw [e29, iV_wI, if_pos ⟨rfl, rfl⟩]
        · rw [e29, iV_wI, if_neg (by omega), e26, iV_wI, if_neg (by omega), e23, iV_wI, if_pos ⟨rfl, rfl⟩]
      · obtain ⟨u1, u2, u3, u4, u5⟩ := t3 k (by show k < n; omega)
        rw [tp_o A n a e, tp_o B n b e, ti_o V n v e, i29 _ _ (by omega) (by omega) (by omega), i29 _ _ (by omega) (by omega) (by omega), i29 _ _ (by omega) (by omega) (by omega)]
        exact ⟨u1, u2, u3, u4, u5⟩
    · show iV M29 (q + 1) c = if tp A n a n = c then Int32.ofNat n else prd (tp A n a) c n
      rw [tp_e, prd_tp A n a c n (Nat.le_refl _)]
      by_cases e : a = c
      · rw [if_pos e, e29, iV_wI, if_neg (by omega), e26, iV_wI, if_pos ⟨rfl, e.symm⟩]
      · rw [if_neg e, i29 _ _ (by omega) (by omega) (by omega)]
        exact t4' c hc
    · rw [e29, e26, e23, e19, e16]
      exact (((((Fr.rf _ _).wI (Or.inl ⟨rfl, rfl⟩)).wI (Or.inr ⟨by omega, by omega⟩)).wI (Or.inr ⟨by omega, by omega⟩)).wI (Or.inr ⟨by omega, by omega⟩)).wI (Or.inr ⟨by omega, by omega⟩)
theorem fF_s {x : Nat} (h : fF x) : (x = 42 ∨ x = 55) ∧ sA (x + 1) 0 128 ∧ sA (x + 2) 0 128 ∧ fQ (x + 3) ∧ fQ (x + 8) ∧ cQ (x + 3) = 200 ∧ cQ (x + 8) = 60 := by
  refine ⟨h, ?_⟩
  rcases h with e | e <;> subst e
  · exact ⟨⟨rfl, rfl⟩, ⟨rfl, rfl⟩, Or.inl rfl, Or.inr (Or.inl rfl), rfl, rfl⟩
  · exact ⟨⟨rfl, rfl⟩, ⟨rfl, rfl⟩, Or.inr (Or.inr (Or.inl rfl)), Or.inr (Or.inr (Or.inr rfl)), rfl, rfl⟩
def pfn (x : Nat) : Nat → Nat → Prop := fun a _ => x ≤ a ∧ a ≤ x + 12
theorem cPt.eq {M M2 : sm_M} {q : Nat} {Q : Pq} (h : cPt M q Q) (e : ∀ a k, q ≤ a → a ≤ q + 4 → iV M2 a k = iV M a k) : cPt M2 q Q := by
  obtain ⟨h1, h2, h3, h4⟩ := h
  exact ⟨h1, by rw [e _ _ (by omega) (by omega)]; exact h2, fun k hk => by rw [e _ _ (by omega) (by omega), e _ _ (by omega) (by omega), e _ _ (by omega) (by omega)]; exact h3 k hk, fun a ha => by rw [e _ _ (by omega) (by omega)]; exact h4 a ha⟩
theorem cFn.eq {M M2 : sm_M} {x : Nat} {G : Fn} (h : cFn M x G) (e : ∀ a k, x ≤ a → a ≤ x + 12 → iV M2 a k = iV M a k) : cFn M2 x G := by
  obtain ⟨h1, h2, h3, h4, h5⟩ := h
  exact ⟨fun b hb => by rw [e _ _ (by omega) (by omega)]; exact h1 b hb, fun b hb => by rw [e _ _ (by omega) (by omega)]; exact h2 b hb, by rw [e _ _ (by omega) (by omega)]; exact h3, h4.eq fun a k z1 z2 => e _ _ (by omega) (by omega), h5.eq fun a k z1 z2 => e _ _ (by omega) (by omega)⟩
theorem s26 {M : sm_M} {x : Nat} (hS : SH M) (hx : fF x) : sm_cV 26 [.ref x] M (fun M2 => cFn M2 x G0 ∧ Fr (pfn x) M M2) := by
  obtain ⟨x1, x2, x3, x4, x5, x6, x7⟩ := fF_s hx
  refine g26_0 hS hx ((s9 hS x2 (by omega)).mono fun M1 k1 s1 => (s9 s1 x3 (by omega)).mono fun M4 k4 s4 M7 s7 e7 => (s27 s7 x4).mono fun M9 k9 s9 => (s27 s9 x5).mono fun M12 k12 s12 => ?_)
  obtain ⟨a1, f1⟩ := k1
  obtain ⟨a4, f4⟩ := k4
  obtain ⟨a9, f9⟩ := k9
  obtain ⟨a12, f12⟩ := k12
  refine ⟨⟨fun b hb => ?_, fun b hb => ?_, ?_, ?_, a12⟩, ?_⟩
  · rw [f12.2.1 _ _ (by unfold pQ; omega), f9.2.1 _ _ (by unfold pQ; omega), e7, iV_wI, if_neg (by omega), f4.2.1 _ _ (by unfold pl; omega), a1 b hb]
    rfl
  · rw [f12.2.1 _ _ (by unfold pQ; omega), f9.2.1 _ _ (by unfold pQ; omega), e7, iV_wI, if_neg (by omega), a4 b hb]
    exact ⟨fun _ z => absurd (show false = true from z) (by decide), fun _ => rfl⟩
  · rw [f12.2.1 _ _ (by unfold pQ; omega), f9.2.1 _ _ (by unfold pQ; omega), e7, iV_wI, if_pos ⟨rfl, rfl⟩]
    rfl
  · exact a9.eq fun a k h1 h2 => f12.2.1 _ _ (by unfold pQ; omega)
  · have F7 : Fr (pfn x) M M7 := by
      rw [e7]
      exact ((f1.mono (q := pfn x) fun a k z => by unfold pl at z; unfold pfn; omega).tr (f4.mono fun a k z => by unfold pl at z; unfold pfn; omega)).wI ⟨by omega, by omega⟩
    exact (F7.tr (f9.mono fun a k z => by unfold pQ at z; unfold pfn; omega)).tr (f12.mono fun a k z => by unfold pQ at z; unfold pfn; omega)
theorem s49 {M : sm_M} {x b v : Nat} {G : Fn} (hS : SH M) (hx : fF x) (hG : cFn M x G) (hb : b < 128) : sm_cV 49 [.ref x, .int (Int32.ofNat b), .int (Int32.ofNat v)] M (fun M2 => cFn M2 x (tW G b v) ∧ Fr (pfn x) M M2) := by
  obtain ⟨x1, x2, x3, x4, x5, x6, x7⟩ := fF_s hx
  obtain ⟨h1, h2, h3, h4, h5⟩ := hG
  have vi : vp_in (Int32.ofNat b) 128 := (o_in (by omega)).mpr hb
  refine g49_0 hS hx ⟨fun c => absurd c (o_nn (by omega)), fun _ => ⟨fun _ => ⟨vi, ?_⟩, fun c => absurd ((o_lt (m := 128) (by omega) (by omega)).mpr hb) c⟩⟩
  rw [o_cl (by omega), h2 b hb]
  have fin : ∀ M8, SH M8 → (∀ a k, ¬ (a = x + 1 ∧ k = b) → ¬ (a = x + 2 ∧ k = b) → ¬ (a = x ∧ k = 2) → iV M8 a k = iV M a k) → iV M8 (x + 1) b = Int32.ofNat v → ¬ iV M8 (x + 2) b = 0 → iV M8 x 2 = Int32.ofNat (if G.2.1 b = true then G.2.2.1 else G.2.2.1 + 1) → Fr (pfn x) M M8 → cFn M8 x (tW G b v) ∧ Fr (pfn x) M M8 := fun M8 s8 e8 a1 a2 a3 f8 => by
    refine ⟨⟨fun c hc => ?_, fun c hc => ?_, a3, h4.eq fun a k z1 z2 => e8 a k (by omega) (by omega) (by omega), h5.eq fun a k z1 z2 => e8 a k (by omega) (by omega) (by omega)⟩, f8⟩
    · show iV M8 (x + 1) c = Int32.ofNat (tp G.1 b v c)
      by_cases e : c = b
      · rw [e, tp_e]; exact a1
      · rw [tp_o _ _ _ e, e8 _ _ (by omega) (by omega) (by omega)]; exact h1 c hc
    · show iV M8 (x + 2) c = 0 ↔ ¬ (if c = b then true else G.2.1 c) = true
      by_cases e : c = b
      · rw [if_pos e, e]; exact ⟨fun z => absurd z a2, fun z => absurd rfl z⟩
      · rw [if_neg e, e8 _ _ (by omega) (by omega) (by omega)]; exact h2 c hc
  refine ⟨fun c => ⟨vi, fun M3 s3 e3 M5 s5 e5 => ⟨vi, fun M8 s8 e8 => ?_⟩⟩, fun c => ⟨vi, fun M11 s11 e11 => ?_⟩⟩
  · have h32 : iV M3 x 2 = Int32.ofNat G.2.2.1 := by rw [e3, iV_wI, if_neg (by omega)]; exact h3
    rw [h32, o_s] at e5
    refine fin M8 s8 (fun a k y1 y2 y3 => by rw [e8, iV_wI, if_neg y1, e5, iV_wI, if_neg y3, e3, iV_wI, if_neg y2]) (by rw [e8, iV_wI, if_pos ⟨rfl, rfl⟩]) ?_ ?_ (by rw [e8, e5, e3]; exact (((Fr.rf _ _).wI ⟨by omega, by omega⟩).wI ⟨by omega, by omega⟩).wI ⟨by omega, by omega⟩)
    · rw [e8, iV_wI, if_neg (by omega), e5, iV_wI, if_neg (by omega), e3, iV_wI, if_pos ⟨rfl, rfl⟩]
      decide
    · rw [e8, iV_wI, if_neg (by omega), e5, iV_wI, if_pos ⟨rfl, rfl⟩, if_neg c]
  · refine fin M11 s11 (fun a k y1 y2 y3 => by rw [e11, iV_wI, if_neg y1]) (by rw [e11, iV_wI, if_pos ⟨rfl, rfl⟩]) ?_ ?_ (by rw [e11]; exact (Fr.rf _ _).wI ⟨by omega, by omega⟩)
    · rw [e11, iV_wI, if_neg (by omega), h2 b hb]
      exact c
    · rw [e11, iV_wI, if_neg (by omega), if_pos (Classical.not_not.mp c)]
      exact h3
