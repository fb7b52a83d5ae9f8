/-! SET: the breaks of a paragraph, in numbers. k: the kind of the break at a place (4: none); W a b: the width of a part; g, h: the widths of glue and hyphen at a place. -/
def un (k : Nat → Nat) : Nat → Nat
  | 0 => 0
  | p + 1 => if k (p + 1) = 4 then un k p else un k p + 1
def us (k : Nat → Nat) : Nat → Nat
  | 0 => 0
  | p + 1 => if k (p + 1) = 4 then us k p else if k (p + 1) = 0 then p + 2 else p + 1
def ux (k : Nat → Nat) (W : Nat → Nat → Nat) (h : Nat → Nat) : Nat → Nat
  | 0 => 0
  | p + 1 => if k (p + 1) = 4 then ux k W h p else max (ux k W h p) (W (us k p) (p + 1) + (if k (p + 1) = 1 then h (p + 1) else 0))
def uR (D : Nat → Nat → Nat) (n kd a w g h r : Nat) : Nat := if r = 0 then kd else if r = 1 then a else if r = 2 then D 2 n + w else if r = 3 then D 3 n + (if kd = 0 then g else 0) else if r = 4 then D 4 n + (if kd = 0 then g / 2 else 0) else if r = 5 then D 5 n + (if kd = 0 then g / 3 else 0) else if r = 6 then (if kd = 1 then h else 0) else if r = 7 then D 7 n + (if kd = 0 then 1 else 0) else if r = 9 then (if kd = 0 then g else if kd = 1 then h else 0) else 0
def uD (k : Nat → Nat) (W : Nat → Nat → Nat) (g h : Nat → Nat) : Nat → Nat → Nat → Nat
  | 0, _, _ => 0
  | p + 1, r, i => if k (p + 1) = 4 ∨ i ≠ un k p + 1 then uD k W g h p r i else uR (uD k W g h p) (un k p) (k (p + 1)) (p + 1) (W (us k p) (p + 1)) (g (p + 1)) (h (p + 1)) r
theorem un_le (k : Nat → Nat) : ∀ p, un k p ≤ p
  | 0 => Nat.le_refl _
  | p + 1 => by
    have := un_le k p
    unfold un
    split <;> omega
theorem un_mono (k : Nat → Nat) (p : Nat) : ∀ d, un k p ≤ un k (p + d)
  | 0 => Nat.le_refl _
  | d + 1 => by
    have := un_mono k p d
    show un k p ≤ if k (p + d + 1) = 4 then un k (p + d) else un k (p + d) + 1
    split <;> omega
theorem us_le (k : Nat → Nat) : ∀ p, us k p ≤ p + 1
  | 0 => Nat.zero_le _
  | p + 1 => by
    have := us_le k p
    unfold us
    split
    · omega
    · split <;> omega
section UD
variable {k g h : Nat → Nat} {W : Nat → Nat → Nat}
theorem un_s (p : Nat) : un k (p + 1) = if k (p + 1) = 4 then un k p else un k p + 1 := rfl
theorem us_s (p : Nat) : us k (p + 1) = if k (p + 1) = 4 then us k p else if k (p + 1) = 0 then p + 2 else p + 1 := rfl
theorem ux_s (p : Nat) : ux k W h (p + 1) = if k (p + 1) = 4 then ux k W h p else max (ux k W h p) (W (us k p) (p + 1) + (if k (p + 1) = 1 then h (p + 1) else 0)) := rfl
theorem uD_s (p r i : Nat) : uD k W g h (p + 1) r i = if k (p + 1) = 4 ∨ i ≠ un k p + 1 then uD k W g h p r i else uR (uD k W g h p) (un k p) (k (p + 1)) (p + 1) (W (us k p) (p + 1)) (g (p + 1)) (h (p + 1)) r := rfl
theorem uD_4 {p : Nat} (e : k (p + 1) = 4) (r i : Nat) : uD k W g h (p + 1) r i = uD k W g h p r i := by rw [uD_s, if_pos (Or.inl e)]
theorem uD_o {p : Nat} {r i : Nat} (e : i ≤ un k p) : uD k W g h (p + 1) r i = uD k W g h p r i := by rw [uD_s, if_pos (Or.inr (by omega))]
theorem uD_n {p : Nat} (e : ¬ k (p + 1) = 4) (r : Nat) : uD k W g h (p + 1) r (un k p + 1) = uR (uD k W g h p) (un k p) (k (p + 1)) (p + 1) (W (us k p) (p + 1)) (g (p + 1)) (h (p + 1)) r := by rw [uD_s, if_neg (by rintro (z | z); exact e z; exact z rfl)]
theorem uD_0 (r : Nat) : ∀ p, uD k W g h p r 0 = 0
  | 0 => rfl
  | p + 1 => by rw [uD_o (Nat.zero_le _)]; exact uD_0 r p
/-- what holds of the rows, place by place -/
def uI (k : Nat → Nat) (W : Nat → Nat → Nat) (g h : Nat → Nat) (p : Nat) : Prop := (∀ j, 1 ≤ j → j ≤ un k p → ∃ q, 1 ≤ q ∧ q ≤ p ∧ uD k W g h p 0 j = k q ∧ ¬ k q = 4 ∧ uD k W g h p 1 j = q ∧ un k q = j ∧ uD k W g h p 2 j ≤ 550000 * us k q ∧ uD k W g h p 2 (j - 1) ≤ uD k W g h p 2 j ∧ uD k W g h p 3 j = uD k W g h p 3 (j - 1) + (if k q = 0 then g q else 0) ∧ uD k W g h p 4 j = uD k W g h p 4 (j - 1) + (if k q = 0 then g q / 2 else 0) ∧ uD k W g h p 5 j = uD k W g h p 5 (j - 1) + (if k q = 0 then g q / 3 else 0) ∧ uD k W g h p 7 j = uD k W g h p 7 (j - 1) + (if k q = 0 then 1 else 0) ∧ uD k W g h p 6 j = (if k q = 1 then h q else 0) ∧ uD k W g h p 9 j = (if k q = 0 then g q else if k q = 1 then h q else 0))
theorem uI_0 : uI k W g h 0 := fun j h1 h2 => by
  have : un k 0 = 0 := rfl
  omega
theorem us_2 (hW : ∀ a b, a ≤ b → W a b ≤ 550000 * (b - a)) : ∀ p, uD k W g h p 2 (un k p) ≤ 550000 * us k p
  | 0 => Nat.zero_le _
  | p + 1 => by
    have ih := us_2 hW p
    have hl := us_le k p
    have hw := hW (us k p) (p + 1) hl
    by_cases e : k (p + 1) = 4
    · rw [un_s, us_s, if_pos e, if_pos e, uD_4 e]; exact ih
    · rw [un_s, if_neg e, uD_n e, us_s, if_neg e]
      show uD k W g h p 2 (un k p) + W (us k p) (p + 1) ≤ _
      split <;> omega
theorem uI_s (hW : ∀ a b, a ≤ b → W a b ≤ 550000 * (b - a)) {p : Nat} (ih : uI k W g h p) : uI k W g h (p + 1) := by
  intro j h1 h2
  by_cases e : k (p + 1) = 4
  · rw [un_s, if_pos e] at h2
    obtain ⟨q, q1, q2, q3⟩ := ih j h1 h2
    refine ⟨q, q1, by omega, ?_⟩
    simp only [uD_4 e]
    exact q3
  · rw [un_s, if_neg e] at h2
    by_cases e2 : j ≤ un k p
    · obtain ⟨q, q1, q2, q3⟩ := ih j h1 e2
      refine ⟨q, q1, by omega, ?_⟩
      simp only [uD_o e2, uD_o (show j - 1 ≤ un k p by omega)]
      exact q3
    · have ej : j = un k p + 1 := by omega
      subst ej
      refine ⟨p + 1, by omega, by omega, ?_⟩
      have h3 := us_2 (k := k) (g := g) (h := h) hW (p + 1)
      rw [un_s, if_neg e] at h3
      simp only [uD_o (show un k p + 1 - 1 ≤ un k p by omega)]
      rw [Nat.add_sub_cancel]
      refine ⟨uD_n e 0, e, uD_n e 1, by rw [un_s, if_neg e], h3, ?_, uD_n e 3, uD_n e 4, uD_n e 5, uD_n e 7, uD_n e 6, uD_n e 9⟩
      rw [uD_n e 2]
      exact Nat.le_add_right _ _
theorem uI_p (hW : ∀ a b, a ≤ b → W a b ≤ 550000 * (b - a)) : ∀ p, uI k W g h p
  | 0 => uI_0
  | p + 1 => uI_s hW (uI_p hW p)
theorem ux_le (hW : ∀ a b, a ≤ b → W a b ≤ 550000 * (b - a)) (hh : ∀ q, h q ≤ 500000) : ∀ p, ux k W h p ≤ 550000 * p + 500000
  | 0 => Nat.zero_le _
  | p + 1 => by
    have ih := ux_le hW hh p
    have hl := us_le k p
    have hw := hW (us k p) (p + 1) hl
    have h1 := hh (p + 1)
    rw [ux_s]
    split
    · omega
    · split <;> omega
/-- all that is set: the rows of breaks, the text, the numbers -/
def uF (k : Nat → Nat) (W : Nat → Nat → Nat) (g h pb : Nat → Nat) (pn wi ind al : Nat) : Nat → Nat → Nat := fun r i => if r = 8 then pb i else if r = 12 then (if i = 0 then un k pn else if i = 1 then pn else if i = 2 then wi else if i = 3 then ind else if i = 4 then al else if i = 8 then ux k W h pn else 0) else uD k W g h pn r i
theorem uF_w {pb : Nat → Nat} {pn wi ind al : Nat} (hW : ∀ a b, a ≤ b → W a b ≤ 550000 * (b - a)) (hg : ∀ q, g q ≤ 500000) (hh : ∀ q, h q ≤ 500000) (h1 : 1 ≤ pn) (hn : pn ≤ 4000) (h6 : un k pn ≤ 600) (hk : ∀ q, q ≤ pn → (k q = 3 ↔ q = pn) ∧ k q ≤ 4) (hp : 1000 ≤ wi ∧ wi ≤ 1000000 ∧ ind ≤ 500000 ∧ al ≤ 3) : wK (uF k W g h pb pn wi ind al) ∧ ∀ b, b ≤ un k pn → uD k W g h pn 1 b ≤ pn := by
  have hI := uI_p (g := g) (h := h) hW pn (k := k)
  have h3 := (hk pn (Nat.le_refl _)).1.mpr rfl
  have hn1 : 1 ≤ un k pn := by
    obtain ⟨m, rfl⟩ : ∃ m, pn = m + 1 := ⟨pn - 1, by omega⟩
    rw [un_s, if_neg (by omega)]
    omega
  have hub : ∀ j, j ≤ un k pn → uD k W g h pn 3 j ≤ 500000 * j ∧ uD k W g h pn 4 j ≤ 500000 * j ∧ uD k W g h pn 5 j ≤ 500000 * j ∧ uD k W g h pn 7 j ≤ j := by
    intro j
    induction j with
    | zero =>
      intro _
      simp only [uD_0]
      omega
    | succ j ih =>
      intro hj
      have ih := ih (by omega)
      obtain ⟨q, q1, q2, q3, q4, q5, q6, q7, q8, q9, q10, q11, q12, q13, q14⟩ := hI (j + 1) (by omega) hj
      rw [Nat.add_sub_cancel] at q9 q10 q11 q12
      have := hg q
      rw [q9, q10, q11, q12]
      by_cases e : k q = 0
      · simp only [if_pos e]
        omega
      · simp only [if_neg e]
        omega
  have hmo : ∀ i d, i + d ≤ un k pn → uD k W g h pn 2 i ≤ uD k W g h pn 2 (i + d) ∧ uD k W g h pn 3 i ≤ uD k W g h pn 3 (i + d) ∧ uD k W g h pn 4 i ≤ uD k W g h pn 4 (i + d) ∧ uD k W g h pn 5 i ≤ uD k W g h pn 5 (i + d) := by
    intro i d
    induction d with
    | zero => intro _; exact ⟨Nat.le_refl _, Nat.le_refl _, Nat.le_refl _, Nat.le_refl _⟩
    | succ d ih =>
      intro hj
      have ih := ih (by omega)
      obtain ⟨q, q1, q2, q3, q4, q5, q6, q7, q8, q9, q10, q11, q12, q13, q14⟩ := hI (i + (d + 1)) (by omega) hj
      rw [show i + (d + 1) - 1 = i + d from rfl] at q8 q9 q10 q11
      omega
  refine ⟨⟨⟨hn1, h6⟩, fun i j hij hj => ?_, fun j hj => ?_, fun j j1 hj => ?_, ⟨uD_0 _ _, uD_0 _ _, uD_0 _ _, uD_0 _ _, uD_0 _ _, uD_0 _ _, uD_0 _ _⟩, hp⟩, fun b hb => ?_⟩
  · have := hmo i (j - i) (by have hj : j ≤ un k pn := hj; omega)
    rw [show i + (j - i) = j from by omega] at this
    exact this
  · have hj : j ≤ un k pn := hj
    have hu := hub j hj
    show uD k W g h pn 2 j ≤ 2000000000000 ∧ uD k W g h pn 3 j ≤ 300000000 ∧ uD k W g h pn 4 j ≤ 300000000 ∧ uD k W g h pn 5 j ≤ 300000000 ∧ uD k W g h pn 6 j ≤ 500000 ∧ uD k W g h pn 9 j ≤ 500000 ∧ uD k W g h pn 7 j ≤ 600 ∧ uD k W g h pn 1 j ≤ 4000 ∧ uD k W g h pn 0 j ≤ 3
    rcases Nat.eq_zero_or_pos j with e | e
    · subst e
      simp only [uD_0]
      omega
    · obtain ⟨q, q1, q2, q3, q4, q5, q6, q7, q8, q9, q10, q11, q12, q13, q14⟩ := hI j e hj
      have hgq := hg q
      have hhq := hh q
      have hu2 := us_le k q
      have hkq := (hk q q2).2
      rw [q13, q14, q5, q3]
      refine ⟨by omega, by omega, by omega, by omega, ?_, ?_, by omega, by omega, by omega⟩
      · split <;> omega
      · split
        · omega
        · split <;> omega
  · have hj : j ≤ un k pn := hj
    show (uD k W g h pn 0 j = 3 ↔ j = un k pn) ∧ uD k W g h pn 3 j = uD k W g h pn 3 (j - 1) + (if uD k W g h pn 0 j = 0 then uD k W g h pn 9 j else 0) ∧ uD k W g h pn 4 j = uD k W g h pn 4 (j - 1) + (if uD k W g h pn 0 j = 0 then uD k W g h pn 9 j / 2 else 0) ∧ uD k W g h pn 5 j = uD k W g h pn 5 (j - 1) + (if uD k W g h pn 0 j = 0 then uD k W g h pn 9 j / 3 else 0) ∧ uD k W g h pn 7 j = uD k W g h pn 7 (j - 1) + (if uD k W g h pn 0 j = 0 then 1 else 0) ∧ uD k W g h pn 6 j = (if uD k W g h pn 0 j = 1 then uD k W g h pn 9 j else 0)
    obtain ⟨q, q1, q2, q3, q4, q5, q6, q7, q8, q9, q10, q11, q12, q13, q14⟩ := hI j j1 hj
    rw [q3, q14, q9, q10, q11, q12, q13]
    refine ⟨?_, ?_, ?_, ?_, rfl, ?_⟩
    · rw [(hk q q2).1]
      constructor
      · intro e
        rw [← q6, e]
      · intro e
        rcases Nat.lt_or_ge q pn with z | z
        · obtain ⟨m, rfl⟩ : ∃ m, pn = m + 1 := ⟨pn - 1, by omega⟩
          have h4 := un_mono k q (m - q)
          rw [show q + (m - q) = m from by omega, q6] at h4
          rw [un_s, if_neg (by omega)] at e
          omega
        · omega
    · by_cases e : k q = 0
      · simp only [if_pos e]
      · simp only [if_neg e]
    · by_cases e : k q = 0
      · simp only [if_pos e]
      · simp only [if_neg e]
    · by_cases e : k q = 0
      · simp only [if_pos e]
      · simp only [if_neg e]
    · by_cases e : k q = 1
      · simp only [if_pos e, if_neg (show ¬ k q = 0 by omega)]
      · simp only [if_neg e]
  · rcases Nat.eq_zero_or_pos b with e | e
    · subst e
      rw [uD_0]
      exact Nat.zero_le _
    · obtain ⟨q, q1, q2, q3, q4, q5, q6⟩ := hI b e hb
      omega
end UD
