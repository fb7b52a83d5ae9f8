/-! THE REFERENCE'S TAKING OF SIGNS. -/
theorem sh8 {n b : Nat} (hn : n < 281474976710656) (hb : b < 256) : (Int64.ofNat n <<< ((8 : Int32).toInt64 &&& 63)) ||| (Int32.ofNat b).toInt64 = Int64.ofNat (256 * n + b) := by
  rw [j_i64 (by omega), show ((8 : Int32).toInt64 &&& 63) = (8 : Int64) from by decide]
  apply Int64.toBitVec_inj.mp
  apply BitVec.eq_of_toNat_eq
  rw [Int64.toBitVec_or, Int64.toBitVec_shiftLeft, show (Int64.toBitVec 8).smod 64 = 8#64 from by decide]
  rw [BitVec.toNat_or, BitVec.shiftLeft_eq', BitVec.toNat_shiftLeft]
  show (n % 2 ^ 64) <<< 8 % 2 ^ 64 ||| b % 2 ^ 64 = (256 * n + b) % 2 ^ 64
  rw [Nat.mod_eq_of_lt (show n < 2 ^ 64 by omega), Nat.mod_eq_of_lt (show b < 2 ^ 64 by omega), Nat.shiftLeft_eq, Nat.mod_eq_of_lt (show n * 2 ^ 8 < 2 ^ 64 by omega), Nat.mod_eq_of_lt (show 256 * n + b < 2 ^ 64 by omega)]
  have := Nat.two_pow_add_eq_or_of_lt (i := 8) (b := b) (by omega) n
  rw [Nat.mul_comm n, ← this]
/-- a name of k bytes as a number -/
def pk (tb : Nat → Nat) (s : Nat) : Nat → Nat
  | 0 => 0
  | k + 1 => 256 * pk tb s k + tb (s + k)
theorem pk_b (tb : Nat → Nat) (s : Nat) : ∀ k, (∀ i, i < k → tb (s + i) < 256) → pk tb s k < 256 ^ k
  | 0, _ => by show 0 < 256 ^ 0; decide
  | k + 1, h => by
    have h1 := pk_b tb s k fun i hi => h i (by omega)
    have h2 := h k (by omega)
    have e : (256 : Nat) ^ (k + 1) = 256 * 256 ^ k := by rw [Nat.pow_succ]; omega
    show 256 * pk tb s k + tb (s + k) < _
    omega
theorem pk_7 {tb : Nat → Nat} {s k : Nat} (hk : k ≤ 6) (h : ∀ i, i < k → tb (s + i) < 256) : pk tb s k < 281474976710656 := by
  have h1 := pk_b tb s k h
  have h2 := (show ∀ k, k < 7 → (256 : Nat) ^ k ≤ 281474976710656 from by decide) k (by omega)
  omega
def pkx (x : Nat) : Nat := if x = 1 then 512869299304 else if x = 3 then 1801810542 else 1785686382
theorem pk_x {tb : Nat → Nat} {s k x : Nat} (hx : x = 1 ∨ x = 3 ∨ x = 5) (hk : k ≤ 7) (h : ∀ i, i < k → 48 ≤ tb (s + i) ∧ tb (s + i) < 256) : pk tb s k = pkx x ↔ k = cN x ∧ ∀ i, i < cN x → tb (s + i) = nmB x i := by
  have l0 := h 0
  have l1 := h 1
  have l2 := h 2
  have l3 := h 3
  have l4 := h 4
  have l5 := h 5
  have l6 := h 6
  have cases : k = 0 ∨ k = 1 ∨ k = 2 ∨ k = 3 ∨ k = 4 ∨ k = 5 ∨ k = 6 ∨ k = 7 := by omega
  have key : ∀ c0 c1 c2 c3, (∀ i, i < 4 → tb (s + i) = [c0, c1, c2, c3].getD i 0) ↔ tb (s + 0) = c0 ∧ tb (s + 1) = c1 ∧ tb (s + 2) = c2 ∧ tb (s + 3) = c3 := fun c0 c1 c2 c3 => by
    constructor
    · intro z
      exact ⟨z 0 (by omega), z 1 (by omega), z 2 (by omega), z 3 (by omega)⟩
    · rintro ⟨z0, z1, z2, z3⟩ i hi
      have : i = 0 ∨ i = 1 ∨ i = 2 ∨ i = 3 := by omega
      rcases this with e | e | e | e <;> subst e <;> assumption
  have key5 : ∀ c0 c1 c2 c3 c4, (∀ i, i < 5 → tb (s + i) = [c0, c1, c2, c3, c4].getD i 0) ↔ tb (s + 0) = c0 ∧ tb (s + 1) = c1 ∧ tb (s + 2) = c2 ∧ tb (s + 3) = c3 ∧ tb (s + 4) = c4 := fun c0 c1 c2 c3 c4 => by
    constructor
    · intro z
      exact ⟨z 0 (by omega), z 1 (by omega), z 2 (by omega), z 3 (by omega), z 4 (by omega)⟩
    · rintro ⟨z0, z1, z2, z3, z4⟩ i hi
      have : i = 0 ∨ i = 1 ∨ i = 2 ∨ i = 3 ∨ i = 4 := by omega
      rcases this with e | e | e | e | e <;> subst e <;> assumption
  rcases hx with e | e | e <;> subst e
  · show pk tb s k = 512869299304 ↔ k = 5 ∧ ∀ i, i < 5 → tb (s + i) = [119, 105, 100, 116, 104].getD i 0
    rw [key5]
    rcases cases with e | e | e | e | e | e | e | e <;> subst e <;> first | (simp only [pk]; omega) | (refine ⟨fun z => absurd z (by decide), fun z => by omega⟩) | (simp [pk] <;> omega)
  · show pk tb s k = 1801810542 ↔ k = 4 ∧ ∀ i, i < 4 → tb (s + i) = [107, 101, 114, 110].getD i 0
    rw [key]
    rcases cases with e | e | e | e | e | e | e | e <;> subst e <;> first | (simp only [pk]; omega) | (refine ⟨fun z => absurd z (by decide), fun z => by omega⟩) | (simp [pk] <;> omega)
  · show pk tb s k = 1785686382 ↔ k = 4 ∧ ∀ i, i < 4 → tb (s + i) = [106, 111, 105, 110].getD i 0
    rw [key]
    rcases cases with e | e | e | e | e | e | e | e <;> subst e <;> first | (simp only [pk]; omega) | (refine ⟨fun z => absurd z (by decide), fun z => by omega⟩) | (simp [pk] <;> omega)
section MTK
variable {tb : Nat → Nat} {tn : Nat}
theorem nr_b {i : Nat} (h : i ≤ tn) : i ≤ nr tb tn i ∧ nr tb tn i ≤ tn := ⟨fs_ge h, fs_le h⟩
theorem nr_d {i k : Nat} (h : i ≤ tn) (h1 : i ≤ k) (h2 : k < nr tb tn i) : sl (tb k) = true ∨ dg (tb k) = true := by
  have := fs_no (p := fun j => !(sl (tb j) || dg (tb j))) h h1 h2
  by_cases y : sl (tb k) = true
  · exact Or.inl y
  · by_cases y2 : dg (tb k) = true
    · exact Or.inr y2
    · simp at y y2
      simp [y, y2] at this
theorem nr_n {i : Nat} (h : i ≤ tn) (h2 : nr tb tn i < tn) : ¬ (sl (tb (nr tb tn i)) = true ∨ dg (tb (nr tb tn i)) = true) := by
  have h3 := fs_is (p := fun j => !(sl (tb j) || dg (tb j))) h h2
  have h4 : (!(sl (tb (nr tb tn i)) || dg (tb (nr tb tn i)))) = true := h3
  rintro (z | z) <;> simp [z] at h4
/-- a name stands at s: so says its end -/
theorem kW_nr {s x : Nat} (hx : x = 1 ∨ x = 3 ∨ x = 5) (hs : s ≤ tn) : kW tb tn s x ↔ nr tb tn s = s + cN x ∧ ∀ i, i < cN x → tb (s + i) = nmB x i := by
  have fx : fN x := by rcases hx with e | e | e <;> subst e; exact Or.inl rfl; exact Or.inr (Or.inl rfl); exact Or.inr (Or.inr (Or.inl rfl))
  have h5 := cN_b (x := x)
  constructor
  · rintro ⟨h1, h2⟩
    have hl := kH_l h1
    refine ⟨fs_u (by omega) hl (fun k k1 k2 => ?_) ?_, fun i hi => (h1 i hi).2⟩
    · have z := (h1 (k - s) (by omega)).2
      rw [show s + (k - s) = k from by omega] at z
      have hb := nmB_b (i := k - s) fx (by omega)
      have : sl (tb k) = true := by unfold sl; simp; omega
      simp [this]
    · rcases Nat.lt_or_ge (s + cN x) tn with z | z
      · right
        have y1 : ¬ sl (tb (s + cN x)) = true := fun y => h2 ⟨z, Or.inl y⟩
        have y2 : ¬ dg (tb (s + cN x)) = true := fun y => h2 ⟨z, Or.inr y⟩
        simp at y1 y2
        simp [y1, y2]
      · left; omega
  · rintro ⟨h1, h2⟩
    have hb := nr_b (tb := tb) hs
    refine ⟨fun i hi => ⟨by omega, h2 i hi⟩, fun z => ?_⟩
    have := nr_n (tb := tb) hs (by omega)
    rw [h1] at this
    exact this z.2
theorem tk_5 {M : sm_M} {i : Nat} (h : tk M tb tn i) : iV M 116 9 = 5 ↔ nt tb tn i = tn := by
  obtain ⟨_, h⟩ := h
  rcases h with h | h | h | h | h
  · exact ⟨fun _ => h.1, fun _ => h.2⟩
  · refine ⟨fun z => ?_, fun z => by omega⟩
    rcases h.2.2.2.2 with y | y <;> rw [y.2] at z <;> exact absurd z (by decide)
  · refine ⟨fun z => ?_, fun z => by omega⟩
    rcases h.2.2.2.2 with y | y
    · rw [y.2.1] at z; exact absurd z (by decide)
    · rw [y.2] at z; exact absurd z (by decide)
  · refine ⟨fun z => ?_, fun z => by omega⟩
    rcases h.2.2.2.2 with y | y <;> rw [y.2] at z <;> exact absurd z (by decide)
  · refine ⟨fun z => ?_, fun z => by omega⟩
    rw [h.2.2.2.2.1] at z
    exact absurd z (by decide)
theorem tk_B {M : sm_M} {i : Nat} (h : tk M tb tn i) (hn : tn ≤ 8192) (hi : i ≤ tn) : ((iV M 116 9 = 3 ∧ iV M 116 11 - iV M 116 10 = 3) ↔ kB tb tn (nt tb tn i)) ∧ (kB tb tn (nt tb tn i) → iV M 116 11 = Int32.ofNat (nt tb tn i + 3)) := by
  obtain ⟨b1, b2⟩ := nt_b (tb := tb) hi
  obtain ⟨h10, h⟩ := h
  have no : ¬ tb (nt tb tn i) = 34 ∨ nt tb tn i = tn → ¬ iV M 116 9 = 3 → ((iV M 116 9 = 3 ∧ iV M 116 11 - iV M 116 10 = 3) ↔ kB tb tn (nt tb tn i)) ∧ (kB tb tn (nt tb tn i) → iV M 116 11 = Int32.ofNat (nt tb tn i + 3)) := fun z y => by
    have nk : ¬ kB tb tn (nt tb tn i) := fun u => by
      rcases z with z | z
      · exact z u.2.1
      · have := u.1; omega
    exact ⟨⟨fun u => absurd u.1 y, fun u => absurd u nk⟩, fun u => absurd u nk⟩
  rcases h with h | h | h | h | h
  · exact no (Or.inr h.1) (by rw [h.2]; decide)
  · refine no (Or.inl fun z => ?_) ?_
    · have := sl_97 h.2.1; omega
    · rcases h.2.2.2.2 with y | y <;> rw [y.2] <;> decide
  · refine no (Or.inl fun z => ?_) ?_
    · have := dg_48 h.2.1; omega
    · rcases h.2.2.2.2 with y | y
      · rw [y.2.1]; decide
      · rw [y.2]; decide
  · obtain ⟨q1, q2, q3, q4, q5⟩ := h
    have qb1 : nt tb tn i + 1 ≤ qr tb tn (nt tb tn i + 1) := fs_ge (by omega)
    have qb2 : qr tb tn (nt tb tn i + 1) ≤ tn := fs_le (by omega)
    have e2 : kB tb tn (nt tb tn i) → qr tb tn (nt tb tn i + 1) = nt tb tn i + 2 := fun u => by
      obtain ⟨u1, u2, u3, u4, u5, u6⟩ := u
      refine fs_u (by omega) (by omega) (fun k k1 k2 => ?_) (Or.inr ?_)
      · have ek : k = nt tb tn i + 1 := by omega
        rw [ek]
        simp [u4, u5, u6]
      · simp [u3]
    refine ⟨⟨?_, ?_⟩, fun u => by rw [q4, e2 u]⟩
    · rintro ⟨z1, z2⟩
      rcases q5 with y | y
      · rw [q4, h10, ← Int32.ofNat_sub _ _ (by omega)] at z2
        have z3 := (o_eq (m := 3) (by omega) (by omega)).mp z2
        have e3 : qr tb tn (nt tb tn i + 1) = nt tb tn i + 2 := by omega
        rw [e3] at y
        have y1 := y.1.1
        have := fs_no (p := fun j => !(decide (32 ≤ tb j) && decide (tb j ≤ 126) && !(tb j == 34))) (n := tn) (i := nt tb tn i + 1) (k := nt tb tn i + 1) (by omega) (Nat.le_refl _) (by show _ < qr tb tn _; omega)
        simp at this
        exact ⟨y1, q2, y.1.2, this.1.1, this.1.2, this.2⟩
      · rw [y.2] at z1; exact absurd z1 (by decide)
    · intro u
      have e3 := e2 u
      rcases q5 with y | y
      · refine ⟨y.2, ?_⟩
        rw [q4, h10, ← Int32.ofNat_sub _ _ (by omega), e3, show nt tb tn i + 2 + 1 - nt tb tn i = 3 from by omega]
        rfl
      · exact absurd ⟨by rw [e3]; exact u.1, by rw [e3]; exact u.2.2.1⟩ y.1
  · exact no (Or.inl h.2.2.2.1) (by rw [h.2.2.2.2.1]; decide)
theorem tk_N {M : sm_M} {i : Nat} (m : Nat) (hm : m ≤ 100000) (h : tk M tb tn i) (hn : tn ≤ 8192) (hi : i ≤ tn) : ((iV M 116 9 = 2 ∧ iV M 116 12 ≤ Int32.ofNat m) ↔ kNu tb tn (nt tb tn i) m) ∧ (kNu tb tn (nt tb tn i) m → iV M 116 11 = Int32.ofNat (dr tb tn (nt tb tn i)) ∧ iV M 116 12 = Int32.ofNat (dv tb (nt tb tn i) (dr tb tn (nt tb tn i) - nt tb tn i))) := by
  obtain ⟨b1, b2⟩ := nt_b (tb := tb) hi
  obtain ⟨h10, h⟩ := h
  obtain ⟨r1, r2⟩ := dr_b (tb := tb) b2
  have kd : kNu tb tn (nt tb tn i) m → nt tb tn i < tn ∧ dg (tb (nt tb tn i)) = true := fun u => ⟨by have := u.1; omega, dr_d b2 (Nat.le_refl _) u.1⟩
  have no : ¬ (nt tb tn i < tn ∧ dg (tb (nt tb tn i)) = true) → ¬ iV M 116 9 = 2 → ((iV M 116 9 = 2 ∧ iV M 116 12 ≤ Int32.ofNat m) ↔ kNu tb tn (nt tb tn i) m) ∧ (kNu tb tn (nt tb tn i) m → iV M 116 11 = Int32.ofNat (dr tb tn (nt tb tn i)) ∧ iV M 116 12 = Int32.ofNat (dv tb (nt tb tn i) (dr tb tn (nt tb tn i) - nt tb tn i))) := fun z y => ⟨⟨fun u => absurd u.1 y, fun u => absurd (kd u) z⟩, fun u => absurd (kd u) z⟩
  rcases h with h | h | h | h | h
  · exact no (fun z => by omega) (by rw [h.2]; decide)
  · refine no (fun z => sl_dg h.2.1 z.2) ?_
    rcases h.2.2.2.2 with y | y <;> rw [y.2] <;> decide
  · obtain ⟨q1, q2, q3, q4, q5⟩ := h
    have s1 : nt tb tn i < dr tb tn (nt tb tn i) := by
      rcases Nat.lt_or_ge (nt tb tn i) (dr tb tn (nt tb tn i)) with z | z
      · exact z
      · have e : dr tb tn (nt tb tn i) = nt tb tn i := by omega
        have := dr_n (tb := tb) b2 (by omega)
        rw [e, q2] at this
        exact absurd this (by decide)
    rcases q5 with y | y
    · have vb := dv_b (tb := tb) (nt tb tn i) (dr tb tn (nt tb tn i) - nt tb tn i) fun k hk => by have := dg_48 (dr_d (tb := tb) b2 (show nt tb tn i ≤ nt tb tn i + k by omega) (by omega)); omega
      have tl := ten_le (k := dr tb tn (nt tb tn i) - nt tb tn i) (by omega)
      rw [y.2.2, o_le (by omega) (by omega)]
      exact ⟨⟨fun z => ⟨s1, y.1, z.2⟩, fun z => ⟨y.2.1, z.2.2⟩⟩, fun _ => ⟨q3, rfl⟩⟩
    · have nk : ¬ kNu tb tn (nt tb tn i) m := fun z => by have := z.2.1; omega
      exact ⟨⟨fun z => absurd z.1 (by rw [y.2]; decide), fun z => absurd z nk⟩, fun z => absurd z nk⟩
  · refine no (fun z => ?_) ?_
    · have := dg_48 z.2; omega
    · rcases h.2.2.2.2 with y | y <;> rw [y.2] <;> decide
  · exact no (fun z => h.2.2.1 z.2) (by rw [h.2.2.2.2.1]; decide)
theorem tk_S {M : sm_M} {i : Nat} (c : Nat) (hc : c = 59 ∨ c = 45) (h : tk M tb tn i) (hB : ∀ i, i < tn → tb i < 256) (hi : i ≤ tn) : ((iV M 116 9 = 4 ∧ iV M 116 13 = Int32.ofNat c) ↔ kS tb tn (nt tb tn i) c) ∧ (kS tb tn (nt tb tn i) c → iV M 116 11 = Int32.ofNat (nt tb tn i + 1)) := by
  obtain ⟨h10, h⟩ := h
  have no : ¬ kS tb tn (nt tb tn i) c → (¬ iV M 116 9 = 4 ∨ iV M 116 13 = -1) → ((iV M 116 9 = 4 ∧ iV M 116 13 = Int32.ofNat c) ↔ kS tb tn (nt tb tn i) c) ∧ (kS tb tn (nt tb tn i) c → iV M 116 11 = Int32.ofNat (nt tb tn i + 1)) := fun z y => ⟨⟨fun u => by
    rcases y with y | y
    · exact absurd u.1 y
    · rw [y] at u; exact absurd u.2 (m1_ne (by omega)), fun u => absurd u z⟩, fun u => absurd u z⟩
  rcases h with h | h | h | h | h
  · exact no (fun z => by have := z.1; omega) (Or.inl (by rw [h.2]; decide))
  · exact no (fun z => by have := z.2; have := sl_97 h.2.1; omega) (Or.inr h.2.2.2.1)
  · exact no (fun z => by have := z.2; have := dg_48 h.2.1; omega) (Or.inr h.2.2.2.1)
  · exact no (fun z => by have := z.2; have := h.2.1; omega) (Or.inr h.2.2.1)
  · have hb := hB _ h.1
    rw [h.2.2.2.2.2.1, o_eq (by omega) (by omega)]
    exact ⟨⟨fun z => ⟨h.1, z.2⟩, fun z => ⟨h.2.2.2.2.1, z.2⟩⟩, fun _ => h.2.2.2.2.2.2⟩
/-- the words of a font -/
theorem tk_W {M : sm_M} {i x : Nat} (hx : x = 1 ∨ x = 3 ∨ x = 5) (h : tk M tb tn i) (hi : i ≤ tn) (hB : ∀ i, i < tn → tb i < 256) : kW tb tn (nt tb tn i) x ↔ (iV M 116 9 = 1 ∧ nr tb tn (nt tb tn i) - nt tb tn i ≤ 7 ∧ pk tb (nt tb tn i) (nr tb tn (nt tb tn i) - nt tb tn i) = pkx x) := by
  obtain ⟨b1, b2⟩ := nt_b (tb := tb) hi
  obtain ⟨n1, n2⟩ := nr_b (tb := tb) b2
  have h5 := cN_b (x := x)
  have fx : fN x := by rcases hx with e | e | e <;> subst e; exact Or.inl rfl; exact Or.inr (Or.inl rfl); exact Or.inr (Or.inr (Or.inl rfl))
  have hk : ∀ k, k < nr tb tn (nt tb tn i) - nt tb tn i → 48 ≤ tb (nt tb tn i + k) ∧ tb (nt tb tn i + k) < 256 := fun k hk => by
    refine ⟨?_, hB _ (by omega)⟩
    rcases nr_d (tb := tb) b2 (show nt tb tn i ≤ nt tb tn i + k by omega) (by omega) with y | y
    · have := sl_97 y; omega
    · have := dg_48 y; omega
  rw [kW_nr hx b2]
  constructor
  · rintro ⟨z1, z2⟩
    have e : nr tb tn (nt tb tn i) - nt tb tn i = cN x := by omega
    refine ⟨?_, by omega, (pk_x hx (by omega) hk).mpr ⟨e, z2⟩⟩
    have hs : sl (tb (nt tb tn i)) = true := by
      have y := z2 0 (by omega)
      rw [Nat.add_zero] at y
      have := nmB_b (i := 0) fx (by omega)
      unfold sl
      simp
      omega
    rcases h.2 with h | h | h | h | h
    · omega
    · rcases h.2.2.2.2 with y | y
      · exact y.2
      · omega
    · exact absurd h.2.1 (sl_dg hs)
    · have := sl_97 hs
      have := h.2.1
      omega
    · exact absurd hs h.2.1
  · rintro ⟨z1, z2, z3⟩
    obtain ⟨y1, y2⟩ := (pk_x hx z2 hk).mp z3
    exact ⟨by omega, y2⟩
theorem tk_11 {M : sm_M} {i : Nat} (h : tk M tb tn i) (h9 : iV M 116 9 = 1) : iV M 116 11 = Int32.ofNat (nr tb tn (nt tb tn i)) ∧ nt tb tn i < tn := by
  rcases h.2 with h | h | h | h | h
  · rw [h.2] at h9; exact absurd h9 (by decide)
  · exact ⟨h.2.2.1, h.1⟩
  · rcases h.2.2.2.2 with y | y
    · rw [y.2.1] at h9; exact absurd h9 (by decide)
    · rw [y.2] at h9; exact absurd h9 (by decide)
  · rcases h.2.2.2.2 with y | y <;> rw [y.2] at h9 <;> exact absurd h9 (by decide)
  · rw [h.2.2.2.2.1] at h9; exact absurd h9 (by decide)
theorem s175_1 {M : sm_M} {s e : Nat} {K : Int64 → sm_M → Prop} (hS : SH M) (hR : mR M tb tn) (hn : tn ≤ 8192) (hB : ∀ i, i < tn → tb i < 256) (h11 : iV M 116 11 = Int32.ofNat e) (he : e ≤ tn) (hse : s ≤ e) (h7 : e - s ≤ 7) (hk : K (Int64.ofNat (pk tb s (e - s))) M) : ∀ (d k : Nat), e - s - k = d → k ≤ e - s → sm_w 175 (31, [some (.ref 116), some (.long (Int64.ofNat (pk tb s k))), none, some (.int (Int32.ofNat (s + k)))], []) M (rJ K) := by
  intro d
  induction d with
  | zero =>
    intro k hd hk2
    refine g175_1 hS ?_
    rw [h11]
    refine ⟨fun _ => ?_, fun c => absurd ((o_le (by omega) (by omega)).mpr (by omega)) c⟩
    rw [show k = e - s from by omega]
    exact hk
  | succ d ih =>
    intro k hd hk2
    refine g175_1 hS ?_
    have pb := pk_7 (tb := tb) (s := s) (k := k) (by omega) fun i hi => hB _ (by omega)
    rw [h11, o_cl (n := s + k) (by omega), hR.2 _ (by omega), sh8 pb (hB _ (by omega)), o_s]
    exact ⟨fun c => absurd ((o_le (by omega) (by omega)).mp c) (by omega), fun _ => ⟨(o_in (by omega)).mpr (by omega), ih (k + 1) (by omega) (by omega)⟩⟩
/-- what word answers, of a sign -/
noncomputable def wdw (tb : Nat → Nat) (tn s : Nat) (k9 : Int32) : Nat := if k9 = 1 ∧ nr tb tn s - s ≤ 7 then pk tb s (nr tb tn s - s) else 0
theorem s175 {M : sm_M} {i : Nat} (hS : SH M) (hR : mR M tb tn) (hn : tn ≤ 8192) (hB : ∀ i, i < tn → tb i < 256) (hi : i ≤ tn) (h : tk M tb tn i) : sm_cJ 175 [.ref 116] M (fun v M2 => (∀ x, (x = 1 ∨ x = 3 ∨ x = 5) → (v = Int64.ofNat (pkx x) ↔ kW tb tn (nt tb tn i) x)) ∧ M2 = M) := by
  obtain ⟨b1, b2⟩ := nt_b (tb := tb) hi
  obtain ⟨n1, n2⟩ := nr_b (tb := tb) b2
  have zero : ¬ (iV M 116 9 = 1 ∧ nr tb tn (nt tb tn i) - nt tb tn i ≤ 7) → (∀ x, (x = 1 ∨ x = 3 ∨ x = 5) → ((0 : Int64) = Int64.ofNat (pkx x) ↔ kW tb tn (nt tb tn i) x)) ∧ M = M := fun hno => ⟨fun x hx => by
    rw [tk_W hx h hi hB]
    constructor
    · intro z
      rcases hx with e | e | e <;> subst e <;> exact absurd z (by decide)
    · intro z
      exact absurd ⟨z.1, z.2.1⟩ hno, rfl⟩
  refine g175_0 hS ⟨fun c => ?_, fun c => zero fun z => c z.1⟩
  obtain ⟨h11, hlt⟩ := tk_11 h c
  rw [h11, h.1, ← Int32.ofNat_sub _ _ n1]
  refine ⟨fun c2 => ?_, fun c2 => zero fun z => c2 ((o_le (m := 7) (by omega) (by omega)).mpr z.2)⟩
  have c7 := (o_le (m := 7) (by omega) (by omega)).mp c2
  refine s175_1 (K := fun v M2 => (∀ x, (x = 1 ∨ x = 3 ∨ x = 5) → (v = Int64.ofNat (pkx x) ↔ kW tb tn (nt tb tn i) x)) ∧ M2 = M) hS hR hn hB h11 n2 n1 c7 ⟨fun x hx => ?_, rfl⟩ _ 0 rfl (Nat.zero_le _)
  rw [tk_W hx h hi hB]
  have pb : pk tb (nt tb tn i) (nr tb tn (nt tb tn i) - nt tb tn i) < 72057594037927936 := by
    have h1 := pk_b tb (nt tb tn i) (nr tb tn (nt tb tn i) - nt tb tn i) fun k hk => hB _ (by omega)
    have h2 := (show ∀ k, k < 8 → (256 : Nat) ^ k ≤ 72057594037927936 from by decide) (nr tb tn (nt tb tn i) - nt tb tn i) (by omega)
    omega
  have px : pkx x < 72057594037927936 := by rcases hx with e | e | e <;> subst e <;> decide
  constructor
  · intro z
    refine ⟨c, c7, ?_⟩
    rw [y_eq, Int64.toInt_ofNat_of_lt (by omega), Int64.toInt_ofNat_of_lt (by omega)] at z
    omega
  · intro z
    rw [z.2.2]
def pmf : Nat → Nat → Prop := fun a k => a = 116 ∧ 8 ≤ k ∧ k ≤ 13
theorem s177 {M : sm_M} {x : Int32} (hS : SH M) (h8 : iV M 116 8 = -1) : sm_cV 177 [.ref 116, .int (x)] M (fun M2 => M2 = sm_wI M 116 8 x) := by
  refine g177_0 hS ?_
  rw [h8]
  exact ⟨fun c => absurd c (by decide), fun _ M1 s1 e1 => e1⟩
theorem mRf {M M2 : sm_M} (h : mR M tb tn) (f : Fr pmf M M2) : mR M2 tb tn := h.fr f ⟨by unfold pmf; omega, fun k => by unfold pmf; omega⟩
/-- the state of the reading: at i, or broken at e -/
def rS2 (M : sm_M) (tb : Nat → Nat) (tn : Nat) (ok : Prop) (i e : Nat) : Prop := (ok → iV M 116 8 = -1 ∧ tk M tb tn i) ∧ (¬ ok → iV M 116 8 = Int32.ofNat e)
theorem s176 {M : sm_M} {i : Nat} (hS : SH M) (hR : mR M tb tn) (hn : tn ≤ 8192) (hB : ∀ i, i < tn → tb i < 256) (hi : i ≤ tn) (h8 : iV M 116 8 = -1) (h : tk M tb tn i) : sm_cI 176 [.ref 116] M (fun v M2 => rS2 M2 tb tn (kB tb tn (nt tb tn i)) (nt tb tn i + 3) (nt tb tn i) ∧ (kB tb tn (nt tb tn i) → v = Int32.ofNat (tb (nt tb tn i + 1))) ∧ (¬ kB tb tn (nt tb tn i) → v = 0) ∧ Fr pmf M M2) := by
  obtain ⟨b1, b2⟩ := nt_b (tb := tb) hi
  obtain ⟨t1, t2⟩ := tk_B h hn hi
  have bad : ¬ kB tb tn (nt tb tn i) → sm_cV 177 [.ref 116, .int (Int32.ofNat (nt tb tn i))] M (fun M9 => SH M9 → (((iV M9 116 8) < 0 → (vp_in ((iV M9 116 10) + (1 : Int32)) 8192) ∧ sm_cV 170 [.ref 116] M9 (fun M13 => SH M13 → rS2 M13 tb tn (kB tb tn (nt tb tn i)) (nt tb tn i + 3) (nt tb tn i) ∧ (kB tb tn (nt tb tn i) → (iV M9 118 ((iV M9 116 10) + (1 : Int32)).toNatClampNeg) = Int32.ofNat (tb (nt tb tn i + 1))) ∧ (¬ kB tb tn (nt tb tn i) → (iV M9 118 ((iV M9 116 10) + (1 : Int32)).toNatClampNeg) = 0) ∧ Fr pmf M M13)) ∧ (¬ (iV M9 116 8) < 0 → rS2 M9 tb tn (kB tb tn (nt tb tn i)) (nt tb tn i + 3) (nt tb tn i) ∧ (kB tb tn (nt tb tn i) → (0 : Int32) = Int32.ofNat (tb (nt tb tn i + 1))) ∧ (¬ kB tb tn (nt tb tn i) → (0 : Int32) = 0) ∧ Fr pmf M M9))) := fun hno => (s177 hS h8).mono fun M9 e9 s9 => by
    have z8 : iV M9 116 8 = Int32.ofNat (nt tb tn i) := by rw [e9, iV_wI, if_pos ⟨rfl, rfl⟩]
    rw [z8]
    exact ⟨fun c => absurd c (o_nn (by omega)), fun _ => ⟨⟨fun z => absurd z hno, fun _ => z8⟩, fun z => absurd z hno, fun _ => rfl, by rw [e9]; exact (Fr.rf _ _).wI ⟨rfl, by omega, by omega⟩⟩⟩
  refine g176_0 hS ?_
  rw [h8, h.1, o_s, o_cl (n := nt tb tn i + 1) (by omega)]
  have h10 := h.1
  rw [h10] at t1
  refine ⟨fun c => absurd c (by decide), fun _ => ⟨fun c => ⟨fun c2 => ⟨fun _ => ?_, fun c3 => absurd (by decide) c3⟩, fun c2 => bad fun z => c2 (t1.mpr z).2⟩, fun c => bad fun z => c (t1.mpr z).1⟩⟩
  have hk := t1.mp ⟨c, c2⟩
  have lk := hk.1
  rw [hR.2 _ (by omega)]
  refine ⟨(o_in (by omega)).mpr (by omega), (s170 hS hR hn hB (by omega) (t2 hk)).mono fun M2 k2 s2 => ?_⟩
  exact ⟨⟨fun _ => ⟨by rw [k2.2.2.1 _ _ (by unfold p170; omega)]; exact h8, k2.1⟩, fun z => absurd hk z⟩, fun _ => rfl, fun z => absurd hk z, k2.2.mono fun a k z => by unfold p170 at z; unfold pmf; omega⟩
theorem s176f {M : sm_M} {e : Nat} (hS : SH M) (he : e < 2147483648) (h8 : iV M 116 8 = Int32.ofNat e) : sm_cI 176 [.ref 116] M (fun v M2 => v = 0 ∧ M2 = M) := by
  refine g176_0 hS ?_
  rw [h8]
  exact ⟨fun _ => ⟨fun c => absurd c (o_nn he), fun _ => ⟨rfl, rfl⟩⟩, fun c => absurd (Int32.not_lt.mp (o_nn he)) c⟩
theorem s178 {M : sm_M} {i m : Nat} (hm : m ≤ 100000) (hS : SH M) (hR : mR M tb tn) (hn : tn ≤ 8192) (hB : ∀ i, i < tn → tb i < 256) (hi : i ≤ tn) (h8 : iV M 116 8 = -1) (h : tk M tb tn i) : sm_cI 178 [.ref 116, .int (Int32.ofNat m)] M (fun v M2 => rS2 M2 tb tn (kNu tb tn (nt tb tn i) m) (dr tb tn (nt tb tn i)) (nt tb tn i) ∧ (kNu tb tn (nt tb tn i) m → v = Int32.ofNat (dv tb (nt tb tn i) (dr tb tn (nt tb tn i) - nt tb tn i))) ∧ Fr pmf M M2) := by
  obtain ⟨b1, b2⟩ := nt_b (tb := tb) hi
  obtain ⟨r1, r2⟩ := dr_b (tb := tb) b2
  obtain ⟨t1, t2⟩ := tk_N m hm h hn hi
  have bad : ¬ kNu tb tn (nt tb tn i) m → sm_cV 177 [.ref 116, .int (Int32.ofNat (nt tb tn i))] M (fun M7 => SH M7 → (((iV M7 116 8) < 0 → sm_cV 170 [.ref 116] M7 (fun M10 => SH M10 → rS2 M10 tb tn (kNu tb tn (nt tb tn i) m) (dr tb tn (nt tb tn i)) (nt tb tn i) ∧ (kNu tb tn (nt tb tn i) m → (iV M7 116 12) = Int32.ofNat (dv tb (nt tb tn i) (dr tb tn (nt tb tn i) - nt tb tn i))) ∧ Fr pmf M M10)) ∧ (¬ (iV M7 116 8) < 0 → rS2 M7 tb tn (kNu tb tn (nt tb tn i) m) (dr tb tn (nt tb tn i)) (nt tb tn i) ∧ (kNu tb tn (nt tb tn i) m → (0 : Int32) = Int32.ofNat (dv tb (nt tb tn i) (dr tb tn (nt tb tn i) - nt tb tn i))) ∧ Fr pmf M M7))) := fun hno => (s177 hS h8).mono fun M9 e9 s9 => by
    have z8 : iV M9 116 8 = Int32.ofNat (nt tb tn i) := by rw [e9, iV_wI, if_pos ⟨rfl, rfl⟩]
    rw [z8]
    exact ⟨fun c => absurd c (o_nn (by omega)), fun _ => ⟨⟨fun z => absurd z hno, fun _ => z8⟩, fun z => absurd z hno, by rw [e9]; exact (Fr.rf _ _).wI ⟨rfl, by omega, by omega⟩⟩⟩
  refine g178_0 hS ?_
  rw [h8, h.1]
  refine ⟨fun c => absurd c (by decide), fun _ => ⟨fun c => ⟨fun c2 => ⟨fun _ => ?_, fun c3 => absurd (by decide) c3⟩, fun c2 => bad fun z => c2 (t1.mpr z).2⟩, fun c => bad fun z => c (t1.mpr z).1⟩⟩
  have hk := t1.mp ⟨c, c2⟩
  refine (s170 hS hR hn hB r2 (t2 hk).1).mono fun M2 k2 s2 => ?_
  exact ⟨⟨fun _ => ⟨by rw [k2.2.2.1 _ _ (by unfold p170; omega)]; exact h8, k2.1⟩, fun z => absurd hk z⟩, fun _ => (t2 hk).2, k2.2.mono fun a k z => by unfold p170 at z; unfold pmf; omega⟩
theorem s178f {M : sm_M} {e : Nat} {x : Int32} (hS : SH M) (he : e < 2147483648) (h8 : iV M 116 8 = Int32.ofNat e) : sm_cI 178 [.ref 116, .int (x)] M (fun v M2 => v = 0 ∧ M2 = M) := by
  refine g178_0 hS ?_
  rw [h8]
  exact ⟨fun _ => ⟨fun c => absurd c (o_nn he), fun _ => ⟨rfl, rfl⟩⟩, fun c => absurd (Int32.not_lt.mp (o_nn he)) c⟩
theorem s179 {M : sm_M} {i : Nat} (hS : SH M) (hR : mR M tb tn) (hn : tn ≤ 8192) (hB : ∀ i, i < tn → tb i < 256) (hi : i ≤ tn) (h8 : iV M 116 8 = -1) (h : tk M tb tn i) : sm_cV 179 [.ref 116] M (fun M2 => rS2 M2 tb tn (kS tb tn (nt tb tn i) 59) (nt tb tn i + 1) (nt tb tn i) ∧ Fr pmf M M2) := by
  obtain ⟨b1, b2⟩ := nt_b (tb := tb) hi
  obtain ⟨t1, t2⟩ := tk_S 59 (Or.inl rfl) h hB hi
  have bad : ¬ kS tb tn (nt tb tn i) 59 → sm_cV 177 [.ref 116, .int (Int32.ofNat (nt tb tn i))] M (fun M9 => SH M9 → rS2 M9 tb tn (kS tb tn (nt tb tn i) 59) (nt tb tn i + 1) (nt tb tn i) ∧ Fr pmf M M9) := fun hno => (s177 hS h8).mono fun M9 e9 s9 => ⟨⟨fun z => absurd z hno, fun _ => by rw [e9, iV_wI, if_pos ⟨rfl, rfl⟩]⟩, by rw [e9]; exact (Fr.rf _ _).wI ⟨rfl, by omega, by omega⟩⟩
  refine g179_0 hS ?_
  rw [h8, h.1]
  refine ⟨fun _ => ⟨fun c => ⟨fun c2 => ?_, fun c2 => bad fun z => c2 (t1.mpr z).2⟩, fun c => bad fun z => c (t1.mpr z).1⟩, fun c => absurd (by decide) c⟩
  have hk := t1.mp ⟨c, c2⟩
  have lk := hk.1
  refine (s170 hS hR hn hB (by omega) (t2 hk)).mono fun M2 k2 s2 => ?_
  exact ⟨⟨fun _ => ⟨by rw [k2.2.2.1 _ _ (by unfold p170; omega)]; exact h8, k2.1⟩, fun z => absurd hk z⟩, k2.2.mono fun a k z => by unfold p170 at z; unfold pmf; omega⟩
theorem s179f {M : sm_M} {e : Nat} (hS : SH M) (he : e < 2147483648) (h8 : iV M 116 8 = Int32.ofNat e) : sm_cV 179 [.ref 116] M (fun M2 => M2 = M) := by
  refine g179_0 hS ?_
  rw [h8]
  exact ⟨fun c => absurd c (o_nn he), fun _ => rfl⟩
end MTK
