/-! THE HYPHENS' TABLE. T: 0 0: numbers of patterns, exceptions, least ahead, least behind; 1 p, 2 p: signs and digits of pattern p, 3 p 0 its length; 4 e, 5 e: letters and places of exception e, 6 e 0 its length. -/
/-- a pattern begins with a dot -/
def ld (T : Nat → Nat → Nat → Nat) (p : Nat) : Nat := if T 1 p 0 = 46 then 1 else 0
/-- the digit behind k letters -/
def dk (T : Nat → Nat → Nat → Nat) (p k : Nat) : Nat := if k + ld T p ≤ T 3 p 0 then T 2 p (k + ld T p) else 0
def wT (T : Nat → Nat → Nat → Nat) : Prop := (T 0 0 0 ≤ 300 ∧ T 0 0 1 ≤ 60 ∧ 1 ≤ T 0 0 2 ∧ T 0 0 2 ≤ 9 ∧ 1 ≤ T 0 0 3 ∧ T 0 0 3 ≤ 9) ∧ (∀ p, p < T 0 0 0 → (1 + ld T p ≤ T 3 p 0 ∧ T 3 p 0 ≤ 14) ∧ (∀ i, i < T 3 p 0 → T 1 p i < 128) ∧ (∀ i, i ≤ T 3 p 0 → T 2 p i ≤ 9) ∧ (ld T p = 1 → T 2 p 0 = 0) ∧ ∀ i, 12 + ld T p < i → i ≤ T 3 p 0 → T 2 p i = 0) ∧ ∀ e, e < T 0 0 1 → T 6 e 0 ≤ 30 ∧ (∀ i, i < T 6 e 0 → T 4 e i < 128) ∧ ∀ i, T 5 e i ≤ 1
/-- the walk along signs -/
def wk (N : Nat) (par sg s : Nat → Nat) : Nat → Option Nat
  | 0 => some 0
  | k + 1 => match wk N par sg s k with
    | none => none
    | some x => if ixQ N par sg x (s k) < N then some (ixQ N par sg x (s k)) else none
theorem wk_n {N k : Nat} {par sg s : Nat → Nat} (h : wk N par sg s k = none) : wk N par sg s (k + 1) = none := by
  unfold wk
  rw [h]
theorem wk_s {N k x : Nat} {par sg s : Nat → Nat} (h : wk N par sg s k = some x) : wk N par sg s (k + 1) = if ixQ N par sg x (s k) < N then some (ixQ N par sg x (s k)) else none := by
  conv => lhs; unfold wk
  rw [h]
theorem wk_c {N : Nat} {par sg s t : Nat → Nat} : ∀ k, (∀ i, i < k → s i = t i) → wk N par sg s k = wk N par sg t k
  | 0, _ => rfl
  | k + 1, h => by
    have ih := wk_c (N := N) (par := par) (sg := sg) k fun i hi => h i (by omega)
    unfold wk
    rw [ih, h k (by omega)]
theorem wk_nn {N : Nat} {par sg s : Nat → Nat} {k : Nat} (h : wk N par sg s k = none) : ∀ d, wk N par sg s (k + d) = none
  | 0 => h
  | d + 1 => wk_n (wk_nn h d)
theorem wk_e {N k y : Nat} {par sg s : Nat → Nat} (h : wk N par sg s (k + 1) = some y) : ∃ x, wk N par sg s k = some x ∧ y < N ∧ par y = x ∧ sg y = s k := by
  cases e : wk N par sg s k with
  | none => rw [wk_n e] at h; cases h
  | some x =>
    rw [wk_s e] at h
    by_cases c : ixQ N par sg x (s k) < N
    · rw [if_pos c] at h
      cases h
      have := ixQ_is c
      exact ⟨x, rfl, c, this.1, this.2⟩
    · rw [if_neg c] at h
      cases h
/-- one node, one path -/
theorem wk_inj {N : Nat} {par sg s t : Nat → Nat} (h0 : N ≤ par 0) (hN : 1 ≤ N) : ∀ k l y, wk N par sg s k = some y → wk N par sg t l = some y → k = l ∧ ∀ i, i < k → s i = t i
  | 0, 0, y, _, _ => ⟨rfl, fun i h => by omega⟩
  | 0, l + 1, y, h1, h2 => by
    obtain ⟨x, e1, e2, e3, e4⟩ := wk_e h2
    have : (0 : Nat) = y := Option.some.inj h1
    have hx : x < N := by
      cases l with
      | zero => have : (0 : Nat) = x := Option.some.inj e1; omega
      | succ l => obtain ⟨_, _, q, _⟩ := wk_e e1; exact q
    subst this
    omega
  | k + 1, 0, y, h1, h2 => by
    obtain ⟨x, e1, e2, e3, e4⟩ := wk_e h1
    have : (0 : Nat) = y := Option.some.inj h2
    have hx : x < N := by
      cases k with
      | zero => have : (0 : Nat) = x := Option.some.inj e1; omega
      | succ l => obtain ⟨_, _, q, _⟩ := wk_e e1; exact q
    subst this
    omega
  | k + 1, l + 1, y, h1, h2 => by
    obtain ⟨x, e1, e2, e3, e4⟩ := wk_e h1
    obtain ⟨x', e1', e2', e3', e4'⟩ := wk_e h2
    have ex : x = x' := by omega
    subst ex
    obtain ⟨i1, i2⟩ := wk_inj h0 hN k l x e1 e1'
    subst i1
    refine ⟨rfl, fun i hi => ?_⟩
    by_cases c : i = k
    · rw [c, ← e4, ← e4']
    · exact i2 i (by omega)
theorem wk_lt {N k y : Nat} {par sg s : Nat → Nat} (hN : 1 ≤ N) (h : wk N par sg s k = some y) : y < N := by
  cases k with
  | zero => have : (0 : Nat) = y := Option.some.inj h; omega
  | succ k => obtain ⟨_, _, q, _⟩ := wk_e h; exact q
/-- the kind's chains -/
def cC (M : sm_M) (x0 N : Nat) (par sg : Nat → Nat) : Prop := (1 ≤ N ∧ N ≤ 4201) ∧ iV M x0 4 = Int32.ofNat N ∧ (∀ y, y < N → iV M (x0 + 1) y = prd par y N) ∧ (∀ y, 1 ≤ y → y < N → iV M (x0 + 2) y = prd par (par y) y ∧ iV M (x0 + 3) y = Int32.ofNat (sg y) ∧ sg y < 128 ∧ par y < y) ∧ N ≤ par 0 ∧ dQ N par sg
/-- the patterns at the nodes, and the exceptions -/
def cG (M : sm_M) (x0 N : Nat) (par sg nd : Nat → Nat) (T : Nat → Nat → Nat → Nat) : Prop := (iV M x0 6 = Int32.ofNat (T 0 0 0) ∧ iV M x0 10 = Int32.ofNat (T 0 0 1) ∧ iV M x0 11 = Int32.ofNat (T 0 0 2) ∧ iV M x0 12 = Int32.ofNat (T 0 0 3)) ∧ (N ≤ 1 + 14 * T 0 0 0 ∧ ∀ p q, p < T 0 0 0 → q < T 0 0 0 → nd p = nd q → p = q) ∧ (∀ y, y < N → (iV M (x0 + 4) y = -1 ∧ ∀ p, p < T 0 0 0 → ¬ nd p = y) ∨ ∃ p, p < T 0 0 0 ∧ nd p = y ∧ iV M (x0 + 4) y = Int32.ofNat p) ∧ (∀ p, p < T 0 0 0 → nd p < N ∧ wk N par sg (T 1 p) (T 3 p 0) = some (nd p) ∧ ∀ k, k ≤ 12 → ((jV M (x0 + 5) p >>> (((4 : Int32) * Int32.ofNat k).toInt64 &&& 63)).toInt32 &&& (15 : Int32)) = Int32.ofNat (dk T p k)) ∧ ∀ e, e < T 0 0 1 → iV M (x0 + 7) e = Int32.ofNat (T 6 e 0) ∧ (∀ i, i < T 6 e 0 → iV M (x0 + 6) (30 * e + i) = Int32.ofNat (T 4 e i)) ∧ ∀ k, k < 30 → ((iV M (x0 + 8) e >>> (Int32.ofNat k &&& 31)) &&& (1 : Int32) = 1 ↔ T 5 e k = 1)
def cTb (M : sm_M) (x0 : Nat) (T : Nat → Nat → Nat → Nat) : Prop := ∃ N par sg nd, cC M x0 N par sg ∧ cG M x0 N par sg nd T
theorem fH_s {x0 : Nat} (h : fH x0) : x0 = 68 ∨ x0 = 78 := h
theorem s73_1 {M : sm_M} {x0 N x c : Nat} {par sg : Nat → Nat} (hS : SH M) (hx : fH x0) (hC : cC M x0 N par sg) (hxN : x < N) (hc : c < 128) : ∀ (m st : Nat), st + m ≤ N → (∀ k, m ≤ k → k < N → ¬ (par k = x ∧ sg k = c)) → sm_w 73 (10, [some (.ref x0), none, some (.int (Int32.ofNat c)), some (.int (prd par x m)), some (.int (Int32.ofNat st))], []) M (rI (fun v M2 => v = (if ixQ N par sg x c < N then Int32.ofNat (ixQ N par sg x c) else -1) ∧ M2 = M)) := by
  obtain ⟨⟨n1, n2⟩, h2, h3, h4, h5, h6⟩ := hC
  intro m
  induction m using Nat.strongRecOn with
  | _ m ih =>
    intro st hst hno
    refine g73_1 hS hx ?_
    rw [h2]
    rcases prd_s par x m with ⟨p1, p2⟩ | ⟨k, p1, p2, p3, p4⟩
    · have e : ixQ N par sg x c = N := ixQ_no fun k hk => by
        rcases Nat.lt_or_ge k m with z | z
        · exact fun w => p2 k z w.1
        · exact hno k z hk
      rw [p1, e, if_neg (by omega)]
      exact ⟨fun _ => ⟨rfl, rfl⟩, fun _ => ⟨fun _ => ⟨rfl, rfl⟩, fun c => absurd (by decide) c⟩⟩
    · rw [p2, o_cl (by omega)]
      have k1 : 1 ≤ k := by
        rcases Nat.eq_zero_or_pos k with z | z
        · subst z; omega
        · exact z
      refine ⟨fun c => absurd ((o_le (by omega) (by omega)).mp c) (by omega), fun _ => ⟨fun c => absurd c (o_nn (by omega)), fun _ => ⟨(o_in (by omega)).mpr (by omega), ?_⟩⟩⟩
      obtain ⟨b1, b2, b3, b4⟩ := h4 k k1 (by omega)
      rw [b2, o_eq (by omega) (by omega), b1, p3, o_s]
      refine ⟨fun c => ?_, fun c => ⟨(o_in (by omega)).mpr (by omega), ?_⟩⟩
      · have e := ixQ_eq h6 (show k < N by omega) ⟨p3, c⟩
        rw [e, if_pos (by omega)]
        exact ⟨rfl, rfl⟩
      · refine ih k p1 (st + 1) (by omega) fun j j1 j2 => ?_
        rcases Nat.lt_or_ge j m with z | z
        · rcases Nat.lt_or_ge k j with y | y
          · exact fun w => p4 j y z w.1
          · rw [show j = k from by omega]; exact fun w => c w.2
        · exact hno j z j2
theorem s73 {M : sm_M} {x0 N x c : Nat} {par sg : Nat → Nat} (hS : SH M) (hx : fH x0) (hC : cC M x0 N par sg) (hxN : x < N) (hc : c < 128) : sm_cI 73 [.ref x0, .int (Int32.ofNat x), .int (Int32.ofNat c)] M (fun v M2 => v = (if ixQ N par sg x c < N then Int32.ofNat (ixQ N par sg x c) else -1) ∧ M2 = M) := by
  have hn := hC.1
  refine g73_0 hS hx ⟨(o_in (by omega)).mpr (by omega), ?_⟩
  rw [o_cl (by omega), hC.2.2.1 x hxN]
  exact s73_1 hS hx hC hxN hc N 0 (by omega) fun k k1 k2 => by omega
/-- a level: the greatest of the digits of the patterns that S names, at place j of the row with its dots -/
def isL (T : Nat → Nat → Nat → Nat) (S : Nat → Nat → Prop) (j v : Nat) : Prop := (∀ p a i, p < T 0 0 0 → S p a → i ≤ T 3 p 0 → a + i = j → T 2 p i ≤ v) ∧ (v = 0 ∨ ∃ p a i, p < T 0 0 0 ∧ S p a ∧ i ≤ T 3 p 0 ∧ a + i = j ∧ v = T 2 p i)
theorem isL_u {T : Nat → Nat → Nat → Nat} {S : Nat → Nat → Prop} {j v u : Nat} (h : isL T S j v) (k : isL T S j u) : v = u := by
  obtain ⟨h1, h2⟩ := h
  obtain ⟨k1, k2⟩ := k
  have a : v ≤ u := by
    rcases h2 with z | ⟨p, a, i, z1, z2, z3, z4, z5⟩
    · omega
    · rw [z5]; exact k1 p a i z1 z2 z3 z4
  have b : u ≤ v := by
    rcases k2 with z | ⟨p, a, i, z1, z2, z3, z4, z5⟩
    · omega
    · rw [z5]; exact h1 p a i z1 z2 z3 z4
  omega
theorem isL_c {T : Nat → Nat → Nat → Nat} {S S' : Nat → Nat → Prop} {j v : Nat} (h : isL T S j v) (e : ∀ p a, p < T 0 0 0 → (S p a ↔ S' p a)) : isL T S' j v := by
  obtain ⟨h1, h2⟩ := h
  refine ⟨fun p a i z1 z2 z3 z4 => h1 p a i z1 ((e p a z1).mpr z2) z3 z4, ?_⟩
  rcases h2 with z | ⟨p, a, i, z1, z2, z3, z4, z5⟩
  · exact Or.inl z
  · exact Or.inr ⟨p, a, i, z1, (e p a z1).mp z2, z3, z4, z5⟩
theorem isL_0 {T : Nat → Nat → Nat → Nat} {S : Nat → Nat → Prop} {j : Nat} (e : ∀ p a, p < T 0 0 0 → ¬ S p a) : isL T S j 0 := ⟨fun p a i z1 z2 => absurd z2 (e p a z1), Or.inl rfl⟩
/-- one pattern more, at one place more -/
theorem isL_s {T : Nat → Nat → Nat → Nat} {S : Nat → Nat → Prop} {j v q b : Nat} (h : isL T S j v) (hq : q < T 0 0 0) : isL T (fun p a => S p a ∨ p = q ∧ a = b) j (if b ≤ j ∧ j ≤ b + T 3 q 0 ∧ v < T 2 q (j - b) then T 2 q (j - b) else v) := by
  obtain ⟨h1, h2⟩ := h
  constructor
  · intro p a i z1 z2 z3 z4
    rcases z2 with z2 | ⟨z5, z6⟩
    · have := h1 p a i z1 z2 z3 z4
      split <;> omega
    · subst z5 z6
      rw [show j - a = i from by omega]
      split <;> omega
  · split
    · rename_i c
      exact Or.inr ⟨q, b, j - b, hq, Or.inr ⟨rfl, rfl⟩, by omega, by omega, rfl⟩
    · rcases h2 with z | ⟨p, a, i, z1, z2, z3, z4, z5⟩
      · exact Or.inl z
      · exact Or.inr ⟨p, a, i, z1, Or.inl z2, z3, z4, z5⟩
