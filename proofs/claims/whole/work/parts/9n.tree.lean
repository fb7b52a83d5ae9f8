/-! HYPHENS ARE READ: the tree grows. -/
theorem prd_no {A : Nat → Nat} {a m : Nat} (h : ∀ k, k < m → ¬ A k = a) : prd A a m = -1 := by
  rcases prd_s A a m with ⟨h1, _⟩ | ⟨k, h1, h2, h3, h4⟩
  · exact h1
  · exact absurd h3 (h k h1)
theorem ixQ_y {N x c k : Nat} {A B B2 : Nat → Nat} (h : ixQ N A B x c < N) (hd : dQ (N + 1) (tp A N k) B2) (hB : ∀ i, i < N → B2 i = B i) : ixQ (N + 1) (tp A N k) B2 x c = ixQ N A B x c := by
  have z := ixQ_is h
  refine ixQ_eq hd (by omega) ⟨?_, ?_⟩
  · rw [tp_o _ _ _ (by omega)]; exact z.1
  · rw [hB _ h]; exact z.2
/-- a walk stays when the tree grows -/
theorem wk_x {N x c : Nat} {par sg s : Nat → Nat} (hd : dQ (N + 1) (tp par N x) (tp sg N c)) : ∀ (k y : Nat), wk N par sg s k = some y → wk (N + 1) (tp par N x) (tp sg N c) s k = some y
  | 0, y, h => h
  | k + 1, y, h => by
    obtain ⟨z, h1, h2, h3, h4⟩ := wk_e h
    have ih := wk_x hd k z h1
    rw [wk_s h1] at h
    rw [wk_s ih]
    by_cases c1 : ixQ N par sg z (s k) < N
    · rw [if_pos c1] at h
      have e := ixQ_y (B2 := tp sg N c) c1 hd fun i hi => tp_o _ _ _ (by omega)
      rw [e, if_pos (by omega)]
      exact h
    · rw [if_neg c1] at h
      cases h
section TRI
variable {x0 N : Nat} {par sg nd : Nat → Nat} {T : Nat → Nat → Nat → Nat}
def pnc (x0 : Nat) : Nat → Nat → Prop := fun a k => a = x0 ∧ k = 4 ∨ x0 + 1 ≤ a ∧ a ≤ x0 + 4
theorem s74 {M : sm_M} {x c : Nat} (hS : SH M) (hx : fH x0) (hC : cC M x0 N par sg) (hp0 : par 0 = 10000) (hxN : x < N) (hN : N < 4201) (hc : c < 128) (hno : ¬ ixQ N par sg x c < N) : sm_cI 74 [.ref x0, .int (Int32.ofNat x), .int (Int32.ofNat c)] M (fun v M2 => v = Int32.ofNat N ∧ cC M2 x0 (N + 1) (tp par N x) (tp sg N c) ∧ iV M2 (x0 + 4) N = -1 ∧ (∀ y, ¬ y = N → iV M2 (x0 + 4) y = iV M (x0 + 4) y) ∧ Fr (pnc x0) M M2) := by
  have hxx := fH_s hx
  obtain ⟨⟨c1, c2⟩, c3, c4, c5, c6, c7⟩ := hC
  have nn : ∀ k, k < N → ¬ (par k = x ∧ sg k = c) := fun k hk z => by
    have := ixQ_eq c7 hk z
    omega
  have par_lt : ∀ k, k < N → ¬ par k = N := fun k hk z => by
    rcases Nat.eq_zero_or_pos k with e | e
    · rw [e] at z; omega
    · have := (c5 k e hk).2.2.2; omega
  refine g74_0 hS hx ?_
  rw [c3]
  refine ⟨fun _ M1 s1 e1 => ⟨(o_in (by omega)).mpr hN, fun M4 s4 e4 => ⟨(o_in (by omega)).mpr (by omega), (o_in (by omega)).mpr hN, fun M8 s8 e8 => ⟨(o_in (by omega)).mpr hN, fun M11 s11 e11 => ⟨(o_in (by omega)).mpr hN, fun M14 s14 e14 => ⟨(o_in (by omega)).mpr (by omega), fun M17 s17 e17 => ?_⟩⟩⟩⟩⟩, fun c => absurd ((o_lt (m := 4201) (by omega) (by omega)).mpr hN) c⟩
  rw [o_s] at e1
  rw [o_cl (n := N) (by omega)] at e4 e8 e11 e14
  rw [o_cl (n := x) (by omega)] at e8 e17
  rw [sb_xx, bN_o hc, sb_lo hc] at e11
  have h4 : iV M4 (x0 + 1) x = prd par x N := by rw [e4, iV_wI, if_neg (by omega), e1, iV_wI, if_neg (by omega)]; exact c4 x hxN
  rw [h4] at e8
  have i17 : ∀ a k, ¬ (a = x0 ∧ k = 4) → ¬ (a = x0 + 1 ∧ (k = x ∨ k = N)) → ¬ ((a = x0 + 2 ∨ a = x0 + 3 ∨ a = x0 + 4) ∧ k = N) → iV M17 a k = iV M a k := fun a k y1 y2 y3 => by
    rw [e17, iV_wI, if_neg (by omega), e14, iV_wI, if_neg (by omega), e11, iV_wI, if_neg (by omega), e8, iV_wI, if_neg (by omega), e4, iV_wI, if_neg (by omega), e1, iV_wI, if_neg (by omega)]
  refine ⟨rfl, ⟨⟨by omega, by omega⟩, ?_, fun y hy => ?_, fun y y1 y2 => ?_, ?_, ?_⟩, ?_, fun y hy => i17 _ _ (by omega) (by omega) (by omega), ?_⟩
  · rw [e17, iV_wI, if_neg (by omega), e14, iV_wI, if_neg (by omega), e11, iV_wI, if_neg (by omega), e8, iV_wI, if_neg (by omega), e4, iV_wI, if_neg (by omega), e1, iV_wI, if_pos ⟨rfl, rfl⟩]
  · show iV M17 (x0 + 1) y = if tp par N x N = y then Int32.ofNat N else prd (tp par N x) y N
    rw [tp_e, prd_tp par N x y N (Nat.le_refl _)]
    by_cases ey : x = y
    · rw [if_pos ey, e17, iV_wI, if_pos ⟨rfl, ey.symm⟩]
    · rw [if_neg ey]
      by_cases eN : y = N
      · rw [eN, prd_no par_lt, e17, iV_wI, if_neg (by omega), e14, iV_wI, if_neg (by omega), e11, iV_wI, if_neg (by omega), e8, iV_wI, if_neg (by omega), e4, iV_wI, if_pos ⟨rfl, rfl⟩]
      · rw [i17 _ _ (by omega) (by omega) (by omega)]; exact c4 y (by omega)
  · rw [prd_tp par N x _ y (by omega)]
    by_cases ey : y = N
    · subst ey
      rw [tp_e, tp_e]
      refine ⟨?_, ?_, hc, hxN⟩
      · rw [e17, iV_wI, if_neg (by omega), e14, iV_wI, if_neg (by omega), e11, iV_wI, if_neg (by omega), e8, iV_wI, if_pos ⟨rfl, rfl⟩]
      · rw [e17, iV_wI, if_neg (by omega), e14, iV_wI, if_neg (by omega), e11, iV_wI, if_pos ⟨rfl, rfl⟩]
    · rw [tp_o par N x ey, tp_o sg N c ey, i17 _ _ (by omega) (by omega) (by omega), i17 _ _ (by omega) (by omega) (by omega)]
      exact c5 y y1 (by omega)
  · rw [tp_o par N x (by omega), hp0]; omega
  · intro i j i1 j1
    rw [tp_o par N x (show ¬ i = N by omega), tp_o sg N c (show ¬ i = N by omega)]
    by_cases e : j = N
    · rw [e, tp_e, tp_e]; exact nn i (by omega)
    · rw [tp_o par N x e, tp_o sg N c e]; exact c7 i j i1 (by omega)
  · rw [e17, iV_wI, if_neg (by omega), e14, iV_wI, if_pos ⟨rfl, rfl⟩]
  · rw [e17, e14, e11, e8, e4, e1]
    exact ((((((Fr.rf _ _).wI (Or.inl ⟨rfl, rfl⟩)).wI (Or.inr ⟨by omega, by omega⟩)).wI (Or.inr ⟨by omega, by omega⟩)).wI (Or.inr ⟨by omega, by omega⟩)).wI (Or.inr ⟨by omega, by omega⟩)).wI (Or.inr ⟨by omega, by omega⟩)
/-- the pattern with these signs -/
def pmq (T : Nat → Nat → Nat → Nat) (s : Nat → Nat) (n p : Nat) : Prop := T 3 p 0 = n ∧ ∀ i, i < n → T 1 p i = s i
noncomputable def pxq (T : Nat → Nat → Nat → Nat) (s : Nat → Nat) (n : Nat) : Nat := fs (fun p => @decide (pmq T s n p) (Classical.propDecidable _)) (T 0 0 0) 0
theorem pxq_le {s : Nat → Nat} {n : Nat} : pxq T s n ≤ T 0 0 0 := fs_le (Nat.zero_le _)
theorem pxq_is {s : Nat → Nat} {n : Nat} (h : pxq T s n < T 0 0 0) : pmq T s n (pxq T s n) := by
  have h2 := fs_is (p := fun p => @decide (pmq T s n p) (Classical.propDecidable _)) (Nat.zero_le _) h
  simp at h2
  exact h2
theorem pxq_u {s : Nat → Nat} {n p : Nat} (h : ∀ q, q < p → ¬ pmq T s n q) (hp : p ≤ T 0 0 0) (hm : p = T 0 0 0 ∨ pmq T s n p) : pxq T s n = p := fs_u (Nat.zero_le _) hp (fun k _ hk => by simpa using h k hk) (by
  rcases hm with y | y
  · exact Or.inl y
  · exact Or.inr (by simpa using y))
/-- the table with one more pattern, or one told anew -/
noncomputable def tPt (T : Nat → Nat → Nat → Nat) (s : Nat → Nat) (n : Nat) (g : Nat → Nat) : Nat → Nat → Nat → Nat := fun a b c => if a = 1 ∧ b = pxq T s n then s c else if a = 2 ∧ b = pxq T s n then g c else if a = 3 ∧ b = pxq T s n then n else if a = 0 ∧ b = 0 ∧ c = 0 then (if pxq T s n < T 0 0 0 then T 0 0 0 else T 0 0 0 + 1) else T a b c
theorem tPt_0 {s g : Nat → Nat} {n : Nat} : tPt T s n g 0 0 0 = (if pxq T s n < T 0 0 0 then T 0 0 0 else T 0 0 0 + 1) := by
  unfold tPt
  rw [if_neg (by omega), if_neg (by omega), if_neg (by omega), if_pos ⟨rfl, rfl, rfl⟩]
theorem tPt_x {s g : Nat → Nat} {n a b c : Nat} (h : ¬ ((a = 1 ∨ a = 2 ∨ a = 3) ∧ b = pxq T s n)) (h2 : ¬ (a = 0 ∧ b = 0 ∧ c = 0)) : tPt T s n g a b c = T a b c := by
  unfold tPt
  rw [if_neg (by omega), if_neg (by omega), if_neg (by omega), if_neg (by omega)]
theorem tPt_1 {s g : Nat → Nat} {n c : Nat} : tPt T s n g 1 (pxq T s n) c = s c := by
  unfold tPt
  rw [if_pos ⟨rfl, rfl⟩]
theorem tPt_2 {s g : Nat → Nat} {n c : Nat} : tPt T s n g 2 (pxq T s n) c = g c := by
  unfold tPt
  rw [if_neg (by omega), if_pos ⟨rfl, rfl⟩]
theorem tPt_3 {s g : Nat → Nat} {n c : Nat} : tPt T s n g 3 (pxq T s n) c = n := by
  unfold tPt
  rw [if_neg (by omega), if_neg (by omega), if_pos ⟨rfl, rfl⟩]
/-- cG, but for how many nodes there are -/
def cGg (M : sm_M) (x0 N : Nat) (par sg nd : Nat → Nat) (T : Nat → Nat → Nat → Nat) : Prop := (iV M x0 6 = Int32.ofNat (T 0 0 0) ∧ iV M x0 10 = Int32.ofNat (T 0 0 1) ∧ iV M x0 11 = Int32.ofNat (T 0 0 2) ∧ iV M x0 12 = Int32.ofNat (T 0 0 3)) ∧ (∀ p q, p < T 0 0 0 → q < T 0 0 0 → nd p = nd q → p = q) ∧ (∀ y, y < N → (iV M (x0 + 4) y = -1 ∧ ∀ p, p < T 0 0 0 → ¬ nd p = y) ∨ ∃ p, p < T 0 0 0 ∧ nd p = y ∧ iV M (x0 + 4) y = Int32.ofNat p) ∧ (∀ p, p < T 0 0 0 → nd p < N ∧ wk N par sg (T 1 p) (T 3 p 0) = some (nd p) ∧ ∀ k, k ≤ 12 → ((jV M (x0 + 5) p >>> (((4 : Int32) * Int32.ofNat k).toInt64 &&& 63)).toInt32 &&& (15 : Int32)) = Int32.ofNat (dk T p k)) ∧ ∀ e, e < T 0 0 1 → iV M (x0 + 7) e = Int32.ofNat (T 6 e 0) ∧ (∀ i, i < T 6 e 0 → iV M (x0 + 6) (30 * e + i) = Int32.ofNat (T 4 e i)) ∧ ∀ k, k < 30 → ((iV M (x0 + 8) e >>> (Int32.ofNat k &&& 31)) &&& (1 : Int32) = 1 ↔ T 5 e k = 1)
theorem cGg.G {M : sm_M} (h : cGg M x0 N par sg nd T) (hN : N ≤ 1 + 14 * T 0 0 0) : cG M x0 N par sg nd T := ⟨h.1, ⟨hN, h.2.1⟩, h.2.2.1, h.2.2.2.1, h.2.2.2.2⟩
theorem cG.g {M : sm_M} (h : cG M x0 N par sg nd T) : cGg M x0 N par sg nd T := ⟨h.1, h.2.1.2, h.2.2.1, h.2.2.2.1, h.2.2.2.2⟩
/-- the table while it is read -/
def cTr (M : sm_M) (x0 : Nat) (T : Nat → Nat → Nat → Nat) : Prop := ∃ N par sg nd, cC M x0 N par sg ∧ cG M x0 N par sg nd T ∧ par 0 = 10000
theorem cTr.Tb {M : sm_M} (h : cTr M x0 T) : cTb M x0 T := by
  obtain ⟨N, par, sg, nd, h1, h2, _⟩ := h
  exact ⟨N, par, sg, nd, h1, h2⟩
theorem cTr.eq {M M2 : sm_M} (h : cTr M x0 T) (e : ∀ a k, x0 ≤ a → a ≤ x0 + 8 → iV M2 a k = iV M a k) (ej : ∀ k, jV M2 (x0 + 5) k = jV M (x0 + 5) k) : cTr M2 x0 T := by
  obtain ⟨N, par, sg, nd, h1, h2, h3⟩ := h
  exact ⟨N, par, sg, nd, h1.eq e, h2.eq e ej, h3⟩
def p72 (x0 : Nat) : Nat → Nat → Prop := fun a k => a = x0 ∧ (k = 4 ∨ k = 6) ∨ x0 + 1 ≤ a ∧ a ≤ x0 + 5
def Q72 (A : sm_M) (x0 : Nat) (T : Nat → Nat → Nat → Nat) (s : Nat → Nat) (n : Nat) (g : Nat → Nat) (v : Int32) (M2 : sm_M) : Prop := ((v = 1 ∧ (pxq T s n < T 0 0 0 ∨ T 0 0 0 < 300) ∧ cTr M2 x0 (tPt T s n g)) ∨ (v = 0 ∧ ¬ (pxq T s n < T 0 0 0 ∨ T 0 0 0 < 300))) ∧ Fr (p72 x0) A M2
def dks (s : Nat → Nat) (n : Nat) (g : Nat → Nat) (k : Nat) : Nat := if k + (if s 0 = 46 then 1 else 0) ≤ n then g (k + (if s 0 = 46 then 1 else 0)) else 0
theorem s72_2 {A M : sm_M} {s g : Nat → Nat} {n y : Nat} {x3 : Int64} (hS : SH M) (hx : fH x0) (hT : wT T) (hn : n ≤ 14) (hC : cC M x0 N par sg) (hp0 : par 0 = 10000) (hw : wk N par sg s n = some y) (hG : cGg M x0 N par sg nd T) (hb : N ≤ 1 + 14 * T 0 0 0 ∨ ((∀ p, p < T 0 0 0 → ¬ nd p = y) ∧ N ≤ 1 + 14 * T 0 0 0 + n)) (hd : ∀ k, k ≤ 12 → ((x3 >>> (((4 : Int32) * Int32.ofNat k).toInt64 &&& 63)).toInt32 &&& (15 : Int32)) = Int32.ofNat (dks s n g k)) (hA : Fr (p72 x0) A M) : sm_w 72 (78, [some (.ref x0), none, none, some (.long (x3)), none, some (.int (Int32.ofNat y)), none, none], []) M (rI (Q72 A x0 T s n g)) := by
  have hxx := fH_s hx
  have hN := hC.1
  have hyN : y < N := wk_lt hN.1 hw
  have hP := hT.1.1
  obtain ⟨⟨h1, h2, h3, h4⟩, h5, h6, h7, h8⟩ := hG
  have vi : vp_in (Int32.ofNat y) 4201 := (o_in (by omega)).mpr (by omega)
  have same : ∀ p, p < T 0 0 0 → pmq T s n p → nd p = y := fun p hp hm => by
    have z := (h7 p hp).2.1
    rw [hm.1, wk_c n hm.2, hw] at z
    exact (Option.some.inj z).symm
  have conv : ∀ p, p < T 0 0 0 → nd p = y → pmq T s n p := fun p hp e => by
    have z := (h7 p hp).2.1
    rw [e] at z
    obtain ⟨q1, q2⟩ := wk_inj hC.2.2.2.2.1 hN.1 _ _ y z hw
    exact ⟨q1, fun i hi => q2 i (by omega)⟩
  refine g72_2 hS hx ⟨fun _ => ⟨vi, ?_⟩, fun c => absurd (Int32.not_lt.mp (o_nn (by omega))) c⟩
  rw [o_cl (by omega)]
  rcases h6 y hyN with ⟨r1, r2⟩ | ⟨p, p1, p2, p3⟩
  · rw [r1, h1]
    refine ⟨fun c => absurd c (by decide), fun _ => ?_⟩
    have epx : pxq T s n = T 0 0 0 := pxq_u (fun q hq hm => r2 q hq (same q hq hm)) (Nat.le_refl _) (Or.inl rfl)
    refine ⟨fun c => ⟨vi, fun M7 s7 e7 M9 s9 e9 => ?_⟩, fun c => ⟨Or.inr ⟨rfl, fun z => ?_⟩, hA⟩⟩
    · have cP := (o_lt (m := 300) (by omega) (by omega)).mp c
      rw [show iV M7 x0 6 = Int32.ofNat (T 0 0 0) from by rw [e7, iV_wI, if_neg (by omega)]; exact h1, o_s] at e9
      have z9 : iV M9 (x0 + 4) y = Int32.ofNat (T 0 0 0) := by rw [e9, iV_wI, if_neg (by omega), e7, iV_wI, if_pos ⟨rfl, rfl⟩]
      rw [z9, o_cl (by omega)]
      refine ⟨vi, (o_in (by omega)).mpr cP, fun M13 s13 e13 => ?_⟩
      have i13 : ∀ a k, ¬ (a = x0 + 4 ∧ k = y) → ¬ (a = x0 ∧ k = 6) → iV M13 a k = iV M a k := fun a k y1 y2 => by rw [e13, iV_wJ, e9, iV_wI, if_neg y2, e7, iV_wI, if_neg y1]
      have j13 : ∀ a k, ¬ (a = x0 + 5 ∧ k = T 0 0 0) → jV M13 a k = jV M a k := fun a k y1 => by rw [e13, jV_wJ, if_neg y1, e9, jV_wI, e7, jV_wI]
      have t0 : tPt T s n g 0 0 0 = T 0 0 0 + 1 := by rw [tPt_0, if_neg (by omega)]
      have tx : ∀ b c, ¬ c = 0 → tPt T s n g 0 b c = T 0 b c := fun b c hc => tPt_x (by omega) (by omega)
      have dkx : ∀ p, p < T 0 0 0 → ∀ k, dk (tPt T s n g) p k = dk T p k := fun p hp k => by
        unfold dk ld
        rw [tPt_x (by omega) (by omega), tPt_x (by omega) (by omega), tPt_x (by omega) (by omega)]
      refine ⟨Or.inl ⟨rfl, Or.inr cP, N, par, sg, tp nd (T 0 0 0) y, ⟨hC.1, by rw [i13 _ _ (by omega) (by omega)]; exact hC.2.1, fun z hz => by rw [i13 _ _ (by omega) (by omega)]; exact hC.2.2.1 z hz, fun z z1 z2 => by rw [i13 _ _ (by omega) (by omega), i13 _ _ (by omega) (by omega)]; exact hC.2.2.2.1 z z1 z2, hC.2.2.2.2⟩, cGg.G ⟨⟨?_, ?_, ?_, ?_⟩, fun p q hp hq e => ?_, fun z hz => ?_, fun p hp => ?_, fun e he => ?_⟩ ?_, hp0⟩, ?_⟩
      · rw [t0, e13, iV_wJ, e9, iV_wI, if_pos ⟨rfl, rfl⟩]
      · rw [tx _ _ (by omega), i13 _ _ (by omega) (by omega)]; exact h2
      · rw [tx _ _ (by omega), i13 _ _ (by omega) (by omega)]; exact h3
      · rw [tx _ _ (by omega), i13 _ _ (by omega) (by omega)]; exact h4
      · rw [t0] at hp hq
        by_cases ep : p = T 0 0 0
        · by_cases eq : q = T 0 0 0
          · omega
          · rw [ep, tp_e, tp_o _ _ _ eq] at e
            exact absurd e.symm (r2 q (by omega))
        · by_cases eq : q = T 0 0 0
          · rw [eq, tp_e, tp_o _ _ _ ep] at e
            exact absurd e (r2 p (by omega))
          · rw [tp_o _ _ _ ep, tp_o _ _ _ eq] at e
            exact h5 p q (by omega) (by omega) e
      · rw [t0]
        by_cases ez : z = y
        · right
          refine ⟨T 0 0 0, by omega, by rw [tp_e, ez], ?_⟩
          rw [ez, e13, iV_wJ]; exact z9
        · rw [i13 _ _ (by omega) (by omega)]
          rcases h6 z hz with ⟨u1, u2⟩ | ⟨p, u1, u2, u3⟩
          · left
            refine ⟨u1, fun p hp => ?_⟩
            by_cases ep : p = T 0 0 0
            · rw [ep, tp_e]; exact fun w => ez w.symm
            · rw [tp_o _ _ _ ep]; exact u2 p (by omega)
          · right
            exact ⟨p, by omega, by rw [tp_o _ _ _ (by omega)]; exact u2, u3⟩
      · rw [t0] at hp
        by_cases ep : p = T 0 0 0
        · subst ep
          rw [tp_e]
          have e1 : ∀ c, tPt T s n g 1 (T 0 0 0) c = s c := fun c => by have := tPt_1 (T := T) (s := s) (g := g) (n := n) (c := c); rw [epx] at this; exact this
          have e3 : tPt T s n g 3 (T 0 0 0) 0 = n := by have := tPt_3 (T := T) (s := s) (g := g) (n := n) (c := 0); rw [epx] at this; exact this
          have e2 : ∀ c, tPt T s n g 2 (T 0 0 0) c = g c := fun c => by have := tPt_2 (T := T) (s := s) (g := g) (n := n) (c := c); rw [epx] at this; exact this
          refine ⟨hyN, ?_, fun k hk => ?_⟩
          · rw [e3, wk_c n (fun i _ => e1 i)]; exact hw
          · rw [e13, jV_wJ, if_pos ⟨rfl, rfl⟩, hd k hk]
            unfold dk dks ld
            rw [e1, e3, e2]
        · rw [tp_o _ _ _ ep]
          obtain ⟨u1, u2, u3⟩ := h7 p (by omega)
          refine ⟨u1, ?_, fun k hk => ?_⟩
          · rw [tPt_x (by omega) (by omega), wk_c _ (fun i _ => tPt_x (by omega) (by omega))]; exact u2
          · rw [dkx p (by omega), j13 _ _ (by omega)]; exact u3 k hk
      · rw [tx _ _ (by omega)] at he
        obtain ⟨u1, u2, u3⟩ := h8 e he
        refine ⟨by rw [tPt_x (by omega) (by omega), i13 _ _ (by omega) (by omega)]; exact u1, fun i hi => ?_, fun k hk => ?_⟩
        · rw [tPt_x (by omega) (by omega)] at hi ⊢
          rw [i13 _ _ (by omega) (by omega)]; exact u2 i hi
        · rw [tPt_x (by omega) (by omega), i13 _ _ (by omega) (by omega)]; exact u3 k hk
      · rw [t0]
        rcases hb with z | z <;> omega
      · rw [e13, e9, e7]
        exact ((hA.wI (Or.inr ⟨by omega, by omega⟩)).wI (Or.inl ⟨rfl, Or.inr rfl⟩)).wJ (Or.inr ⟨by omega, by omega⟩)
    · rcases z with z | z
      · omega
      · exact absurd ((o_lt (m := 300) (by omega) (by omega)).mpr z) c
  · have hm := conv p p1 p2
    have epx : pxq T s n = p := pxq_u (fun q hq hm2 => by
      have z := same q (by omega) hm2
      have := h5 q p (by omega) p1 (by rw [z, p2])
      omega) (by omega) (Or.inr hm)
    rw [p3, o_cl (by omega)]
    refine ⟨fun _ => ⟨vi, (o_in (by omega)).mpr (by omega), fun M4 s4 e4 => ?_⟩, fun c => absurd (Int32.not_lt.mp (o_nn (by omega))) c⟩
    have i4 : ∀ a k, iV M4 a k = iV M a k := fun a k => by rw [e4, iV_wJ]
    have t0 : tPt T s n g 0 0 0 = T 0 0 0 := by rw [tPt_0, if_pos (by omega)]
    have tx : ∀ b c, ¬ c = 0 → tPt T s n g 0 b c = T 0 b c := fun b c hc => tPt_x (by omega) (by omega)
    have hNb : N ≤ 1 + 14 * T 0 0 0 := by
      rcases hb with z | z
      · exact z
      · exact absurd p2 (z.1 p p1)
    refine ⟨Or.inl ⟨rfl, Or.inl (by omega), N, par, sg, nd, hC.eq fun a k _ _ => i4 a k, cGg.G ⟨⟨?_, ?_, ?_, ?_⟩, fun p q hp hq e => ?_, fun z hz => ?_, fun q hq => ?_, fun e he => ?_⟩ (by rw [t0]; exact hNb), hp0⟩, ?_⟩
    · rw [t0, i4]; exact h1
    · rw [tx _ _ (by omega), i4]; exact h2
    · rw [tx _ _ (by omega), i4]; exact h3
    · rw [tx _ _ (by omega), i4]; exact h4
    · rw [t0] at hp hq; exact h5 p q hp hq e
    · rw [t0, i4]; exact h6 z hz
    · rw [t0] at hq
      obtain ⟨u1, u2, u3⟩ := h7 q hq
      by_cases eq : q = p
      · subst eq
        have e1 : ∀ c, tPt T s n g 1 q c = s c := fun c => by have := tPt_1 (T := T) (s := s) (g := g) (n := n) (c := c); rw [epx] at this; exact this
        have e3 : tPt T s n g 3 q 0 = n := by have := tPt_3 (T := T) (s := s) (g := g) (n := n) (c := 0); rw [epx] at this; exact this
        have e2 : ∀ c, tPt T s n g 2 q c = g c := fun c => by have := tPt_2 (T := T) (s := s) (g := g) (n := n) (c := c); rw [epx] at this; exact this
        refine ⟨u1, ?_, fun k hk => ?_⟩
        · rw [e3, wk_c n (fun i _ => e1 i), p2]; exact hw
        · rw [e4, jV_wJ, if_pos ⟨rfl, rfl⟩, hd k hk]
          unfold dk dks ld
          rw [e1, e3, e2]
      · refine ⟨u1, ?_, fun k hk => ?_⟩
        · rw [tPt_x (by omega) (by omega), wk_c _ (fun i _ => tPt_x (by omega) (by omega))]; exact u2
        · have dkx : dk (tPt T s n g) q k = dk T q k := by
            unfold dk ld
            rw [tPt_x (by omega) (by omega), tPt_x (by omega) (by omega), tPt_x (by omega) (by omega)]
          rw [dkx, e4, jV_wJ, if_neg (by omega)]; exact u3 k hk
    · rw [tx _ _ (by omega)] at he
      obtain ⟨u1, u2, u3⟩ := h8 e he
      refine ⟨by rw [tPt_x (by omega) (by omega), i4]; exact u1, fun i hi => ?_, fun k hk => ?_⟩
      · rw [tPt_x (by omega) (by omega)] at hi ⊢
        rw [i4]; exact u2 i hi
      · rw [tPt_x (by omega) (by omega), i4]; exact u3 k hk
    · rw [e4]
      exact hA.wJ (Or.inr ⟨by omega, by omega⟩)
theorem s72_1 {A : sm_M} {s g : Nat → Nat} {n x1 nx1 : Nat} {x3 : Int64} (hx : fH x0) (hx1 : sA x1 1 nx1) (hn1 : n ≤ nx1) (hnx : nx1 ≤ 8192) (h1 : x1 < 68) (hT : wT T) (hn : n ≤ 14) (hs : ∀ i, i < n → s i < 128) (hd : ∀ k, k ≤ 12 → ((x3 >>> (((4 : Int32) * Int32.ofNat k).toInt64 &&& 63)).toInt32 &&& (15 : Int32)) = Int32.ofNat (dks s n g k)) : ∀ (d i N : Nat) (par sg : Nat → Nat) (y : Nat), n - i = d → i ≤ n → ∀ M, SH M → (∀ j, j < n → iV M x1 j = Int32.ofNat (s j)) → cC M x0 N par sg → par 0 = 10000 → wk N par sg s i = some y → cGg M x0 N par sg nd T → (N ≤ 1 + 14 * T 0 0 0 ∨ ((∀ p, p < T 0 0 0 → ¬ nd p = y) ∧ N ≤ 1 + 14 * T 0 0 0 + i ∧ N = y + 1 ∧ T 0 0 0 < 300)) → Fr (p72 x0) A M → sm_w 72 (6, [some (.ref x0), some (.ref x1), some (.int (Int32.ofNat n)), some (.long (x3)), none, some (.int (Int32.ofNat y)), some (.int (Int32.ofNat i)), none], []) M (rI (Q72 A x0 T s n g)) := by
  have hxx := fH_s hx
  have hP := hT.1.1
  intro d
  induction d with
  | zero =>
    intro i N par sg y hd2 hi M hS hL hC hp0 hw hG hb hA
    have e : i = n := by omega
    subst e
    refine g72_1 hS hx hx1 ⟨fun _ => s72_2 hS hx hT hn hC hp0 hw hG ?_ hd hA, fun c => absurd ((o_le (by omega) (by omega)).mpr (Nat.le_refl _)) c⟩
    rcases hb with z | z
    · exact Or.inl z
    · exact Or.inr ⟨z.1, z.2.1⟩
  | succ d ih =>
    intro i N par sg y hd2 hi M hS hL hC hp0 hw hG hb hA
    have hN := hC.1
    have hyN : y < N := wk_lt hN.1 hw
    refine g72_1 hS hx hx1 ?_
    rw [o_cl (n := i) (by omega), hL i (by omega), o_s]
    refine ⟨fun c => absurd ((o_le (by omega) (by omega)).mp c) (by omega), fun _ => ⟨fun c => absurd ((o_le (by omega) (by omega)).mp c) (by omega), fun _ => ⟨fun c => absurd c (o_nn (by omega)), fun _ => ⟨(o_in (by omega)).mpr (by omega), ?_⟩⟩⟩⟩
    refine (s73 hS hx hC hyN (hs i (by omega))).mono fun v3 M2 k2 s2 => ?_
    obtain ⟨k21, k22⟩ := k2
    subst k22
    by_cases cx : ixQ N par sg y (s i) < N
    · rw [if_pos cx] at k21
      rw [k21]
      refine ⟨fun c => absurd c (o_nn (by omega)), fun _ => ?_⟩
      refine ih (i + 1) N par sg _ (by omega) (by omega) M2 s2 hL hC hp0 (by rw [wk_s hw, if_pos cx]) hG ?_ hA
      rcases hb with z | ⟨z1, z2, z3, z4⟩
      · exact Or.inl z
      · exfalso
        have is := ixQ_is cx
        rcases Nat.eq_zero_or_pos (ixQ N par sg y (s i)) with e | e
        · rw [e] at is; omega
        · have := (hC.2.2.2.1 _ e cx).2.2.2; omega
    · rw [if_neg cx] at k21
      rw [k21, hG.1.1]
      refine ⟨fun _ => ⟨fun c => ?_, fun c => ⟨(o_in (by omega)).mpr (by omega), ?_⟩⟩, fun c => absurd (by decide) c⟩
      · have cP := (o_le (n := 300) (by omega) (by omega)).mp c
        have nn : wk N par sg s (i + 1) = none := by rw [wk_s hw, if_neg cx]
        have nn2 := wk_nn nn (n - (i + 1))
        rw [show i + 1 + (n - (i + 1)) = n from by omega] at nn2
        have hno : ¬ (pxq T s n < T 0 0 0 ∨ T 0 0 0 < 300) := fun z => by
          rcases z with z | z
          · have hm := pxq_is z
            have w := (hG.2.2.2.1 _ z).2.1
            rw [hm.1, wk_c n hm.2, nn2] at w
            cases w
          · omega
        have fin : sm_w 72 (78, [some (.ref x0), none, none, some (.long (x3)), none, some (.int (-1 : Int32)), none, none], []) M2 (rI (Q72 A x0 T s n g)) := g72_2 s2 hx ⟨fun c => absurd c (by decide), fun _ => ⟨Or.inr ⟨rfl, hno⟩, hA⟩⟩
        exact g72_1 s2 hx hx1 ⟨fun _ => fin, fun _ => ⟨fun _ => fin, fun _ => ⟨fun _ => fin, fun c => absurd (by decide) c⟩⟩⟩
      · have cP : T 0 0 0 < 300 := by
          rcases Nat.lt_or_ge (T 0 0 0) 300 with z | z
          · exact z
          · exact absurd ((o_le (n := 300) (by omega) (by omega)).mpr z) c
        have hNl : N < 4201 := by
          rcases hb with z | z
          · omega
          · have := z.2.1; omega
        rw [hL i (by omega)]
        refine (s74 s2 hx hC hp0 hyN hNl (hs i (by omega)) cx).mono fun v7 M6 k6 s6 => ?_
        obtain ⟨q1, q2, q3, q4, f6⟩ := k6
        rw [q1]
        have hd6 := q2.2.2.2.2.2
        have i6 : ∀ a k, ¬ (a = x0 ∧ k = 4) → ¬ (x0 + 1 ≤ a ∧ a ≤ x0 + 4) → iV M6 a k = iV M2 a k := fun a k y1 y2 => f6.2.1 a k (by unfold pnc; omega)
        obtain ⟨⟨g1, g2, g3, g4⟩, g5, g6, g7, g8⟩ := hG
        refine ih (i + 1) (N + 1) (tp par N y) (tp sg N (s i)) N (by omega) (by omega) M6 s6 (fun j hj => by rw [i6 _ _ (by omega) (by omega)]; exact hL j hj) q2 (by rw [tp_o _ _ _ (by omega)]; exact hp0) ?_ ⟨⟨by rw [i6 _ _ (by omega) (by omega)]; exact g1, by rw [i6 _ _ (by omega) (by omega)]; exact g2, by rw [i6 _ _ (by omega) (by omega)]; exact g3, by rw [i6 _ _ (by omega) (by omega)]; exact g4⟩, g5, fun z hz => ?_, fun p hp => ?_, fun e he => ?_⟩ (Or.inr ⟨fun p hp e => ?_, ?_, rfl, cP⟩) (hA.tr (f6.mono fun a k z => by unfold pnc at z; unfold p72; omega))
        · rw [wk_s (wk_x hd6 i y hw)]
          have e : ixQ (N + 1) (tp par N y) (tp sg N (s i)) y (s i) = N := ixQ_eq hd6 (by omega) ⟨tp_e _ _ _, tp_e _ _ _⟩
          rw [e, if_pos (by omega)]
        · by_cases ez : z = N
          · left
            exact ⟨by rw [ez]; exact q3, fun p hp e => by have := (g7 p hp).1; omega⟩
          · rw [q4 z ez]; exact g6 z (by omega)
        · obtain ⟨u1, u2, u3⟩ := g7 p hp
          exact ⟨by omega, wk_x hd6 _ _ u2, fun k hk => by rw [f6.2.2 _ _ (by unfold pnc; omega)]; exact u3 k hk⟩
        · obtain ⟨u1, u2, u3⟩ := g8 e he
          exact ⟨by rw [i6 _ _ (by omega) (by omega)]; exact u1, fun j hj => by rw [i6 _ _ (by omega) (by omega)]; exact u2 j hj, fun k hk => by rw [i6 _ _ (by omega) (by omega)]; exact u3 k hk⟩
        · have := (g7 p hp).1; omega
        · rcases hb with z | z
          · omega
          · have := z.2.1; omega
theorem s72 {M : sm_M} {s g : Nat → Nat} {n : Nat} {x3 : Int64} (hS : SH M) (hx : fH x0) (hT : wT T) (hn : n ≤ 14) (hs : ∀ i, i < n → s i < 128) (hL : ∀ j, j < n → iV M 35 j = Int32.ofNat (s j)) (hTr : cTr M x0 T) (hd : ∀ k, k ≤ 12 → ((x3 >>> (((4 : Int32) * Int32.ofNat k).toInt64 &&& 63)).toInt32 &&& (15 : Int32)) = Int32.ofNat (dks s n g k)) : sm_cI 72 [.ref x0, .ref 35, .int (Int32.ofNat n), .long (x3)] M (Q72 M x0 T s n g) := by
  obtain ⟨N, par, sg, nd, hC, hG, hp0⟩ := hTr
  exact g72_0 hS hx (nx1 := 30) ⟨rfl, rfl⟩ (s72_1 hx (nx1 := 30) ⟨rfl, rfl⟩ (by omega) (by omega) (by omega) hT hn hs hd _ 0 N par sg 0 rfl (Nat.zero_le _) M hS hL hC hp0 rfl hG.g (Or.inl hG.2.1.1) (Fr.rf _ _))
end TRI
