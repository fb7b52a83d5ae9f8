/-! PAIRS: the kind keeps chains, the reference rows. -/
/-- the last of the first m whose first byte is a -/
def prd (A : Nat → Nat) (a : Nat) : Nat → Int32
  | 0 => -1
  | n + 1 => if A n = a then Int32.ofNat n else prd A a n
theorem prd_s (A : Nat → Nat) (a : Nat) : ∀ m, (prd A a m = -1 ∧ ∀ k, k < m → A k ≠ a) ∨ ∃ k, k < m ∧ prd A a m = Int32.ofNat k ∧ A k = a ∧ ∀ j, k < j → j < m → A j ≠ a
  | 0 => Or.inl ⟨rfl, fun k h => by omega⟩
  | m + 1 => by
    unfold prd
    by_cases h : A m = a
    · rw [if_pos h]
      exact Or.inr ⟨m, by omega, rfl, h, fun j h1 h2 => by omega⟩
    · rw [if_neg h]
      rcases prd_s A a m with ⟨h1, h2⟩ | ⟨k, h1, h2, h3, h4⟩
      · refine Or.inl ⟨h1, fun k hk => ?_⟩
        by_cases e : k = m
        · rw [e]; exact h
        · exact h2 k (by omega)
      · refine Or.inr ⟨k, by omega, h2, h3, fun j j1 j2 => ?_⟩
        by_cases e : j = m
        · rw [e]; exact h
        · exact h4 j j1 (by omega)
def dQ (n : Nat) (A B : Nat → Nat) : Prop := ∀ i j, i < j → j < n → ¬ (A i = A j ∧ B i = B j)
def cQt (M : sm_M) (q n : Nat) (A B : Nat → Nat) (V : Nat → Int32) : Prop := n ≤ cQ q ∧ iV M q 4 = Int32.ofNat n ∧ (∀ k, k < n → A k < 128 ∧ B k < 128 ∧ iV M (q + 3) k = Int32.ofNat (B k) ∧ iV M (q + 4) k = V k ∧ iV M (q + 2) k = prd A (A k) k) ∧ ∀ a, a < 128 → iV M (q + 1) a = prd A a n
/-- where the pair stands, n if nowhere -/
def ixQ (n : Nat) (A B : Nat → Nat) (a b : Nat) : Nat := fs (fun k => A k == a && B k == b) n 0
theorem ixQ_le (n : Nat) (A B : Nat → Nat) (a b : Nat) : ixQ n A B a b ≤ n := fs_le (Nat.zero_le _)
theorem ixQ_no {n : Nat} {A B : Nat → Nat} {a b : Nat} (h : ∀ k, k < n → ¬ (A k = a ∧ B k = b)) : ixQ n A B a b = n := by
  have h1 := ixQ_le n A B a b
  rcases Nat.lt_or_ge (ixQ n A B a b) n with z | z
  · have h2 := fs_is (p := fun k => A k == a && B k == b) (n := n) (i := 0) (Nat.zero_le _) z
    simp at h2
    exact absurd h2 (h _ z)
  · omega
theorem ixQ_is {n : Nat} {A B : Nat → Nat} {a b : Nat} (h : ixQ n A B a b < n) : A (ixQ n A B a b) = a ∧ B (ixQ n A B a b) = b := by
  have h2 := fs_is (p := fun k => A k == a && B k == b) (n := n) (i := 0) (Nat.zero_le _) h
  simp at h2
  exact h2
theorem ixQ_eq {n : Nat} {A B : Nat → Nat} {a b k : Nat} (hd : dQ n A B) (hk : k < n) (h : A k = a ∧ B k = b) : ixQ n A B a b = k := by
  rcases Nat.lt_or_ge (ixQ n A B a b) k with z | z
  · have h2 := ixQ_is (n := n) (A := A) (B := B) (a := a) (b := b) (by omega)
    exact absurd ⟨h2.1.trans h.1.symm, h2.2.trans h.2.symm⟩ (hd _ _ z hk)
  · rcases Nat.lt_or_ge k (ixQ n A B a b) with y | y
    · have h3 := fs_no (p := fun k => A k == a && B k == b) (n := n) (i := 0) (k := k) (Nat.zero_le _) (Nat.zero_le _) y
      simp at h3
      exact absurd h.2 (h3 h.1)
    · omega
theorem cQ_le (q : Nat) : cQ q ≤ 200 := by
  unfold cQ
  split <;> omega
theorem s52_1 {M : sm_M} {q n a b : Nat} {A B : Nat → Nat} {V : Nat → Int32} (hS : SH M) (hq : fQ q) (hT : cQt M q n A B V) (hd : dQ n A B) (hb : b < 128) : ∀ (m st : Nat), st + m ≤ n → (∀ k, m ≤ k → k < n → ¬ (A k = a ∧ B k = b)) → sm_w 52 (25, [some (.ref q), none, some (.int (Int32.ofNat b)), some (.int (prd A a m)), some (.int (Int32.ofNat st))], []) M (rI (fun v M2 => v = (if ixQ n A B a b < n then Int32.ofNat (ixQ n A B a b) else -1) ∧ M2 = M)) := by
  obtain ⟨h1, h2, h3, h4⟩ := hT
  have hc := cQ_le q
  intro m
  induction m using Nat.strongRecOn with
  | _ m ih =>
    intro st hst hno
    refine g52_1 hS hq ?_
    rw [h2]
    rcases prd_s A a m with ⟨p1, p2⟩ | ⟨k, p1, p2, p3, p4⟩
    · have e : ixQ n A B a b = n := ixQ_no fun k hk => by
        rcases Nat.lt_or_ge k m with z | z
        · exact fun w => p2 k z w.1
        · exact hno k z hk
      rw [p1, e, if_neg (by omega)]
      exact ⟨fun _ => ⟨rfl, rfl⟩, fun _ => ⟨fun _ => ⟨rfl, rfl⟩, fun c => absurd (by decide) c⟩⟩
    · rw [p2, o_cl (by omega)]
      refine ⟨fun c => absurd ((o_le (by omega) (by omega)).mp c) (by omega), fun _ => ⟨fun c => absurd c (o_nn (by omega)), fun _ => ⟨(o_in (by omega)).mpr (by omega), ?_⟩⟩⟩
      obtain ⟨b1, b2, b3, b4, b5⟩ := h3 k (by omega)
      rw [b3, o_eq (by omega) (by omega), b5, p3, o_s]
      refine ⟨fun c => ?_, fun c => ⟨(o_in (by omega)).mpr (by omega), ?_⟩⟩
      · have e : ixQ n A B a b = k := ixQ_eq hd (by omega) ⟨p3, c⟩
        rw [e, if_pos (by omega)]
        exact ⟨rfl, rfl⟩
      · refine ih k p1 (st + 1) (by omega) fun j j1 j2 => ?_
        rcases Nat.lt_or_ge j m with z | z
        · rcases Nat.lt_or_ge k j with y | y
          · exact fun w => p4 j y z w.1
          · rw [show j = k from by omega]; exact fun w => c w.2
        · exact hno j z j2
theorem s52 {M : sm_M} {q n a b : Nat} {A B : Nat → Nat} {V : Nat → Int32} (hS : SH M) (hq : fQ q) (hT : cQt M q n A B V) (hd : dQ n A B) (ha : a < 128) (hb : b < 128) : sm_cI 52 [.ref q, .int (Int32.ofNat a), .int (Int32.ofNat b)] M (fun v M2 => v = (if ixQ n A B a b < n then Int32.ofNat (ixQ n A B a b) else -1) ∧ M2 = M) := by
  refine g52_0 hS hq ⟨fun c => absurd c (o_nn (by omega)), fun _ => ⟨fun _ => ⟨(o_in (by omega)).mpr ha, ?_⟩, fun c => absurd ((o_lt (m := 128) (by omega) (by omega)).mpr ha) c⟩⟩
  rw [o_cl (by omega), hT.2.2.2 a ha]
  exact s52_1 hS hq hT hd hb n 0 (by omega) fun k k1 k2 => by omega
/-- the number of a pair -/
def lkQ (n : Nat) (A B : Nat → Nat) (V : Nat → Int32) (d : Int32) (a b : Nat) : Int32 := if ixQ n A B a b < n then V (ixQ n A B a b) else d
theorem s101 {M : sm_M} {q n a b : Nat} {A B : Nat → Nat} {V : Nat → Int32} {d : Int32} (hS : SH M) (hq : fQ q) (hT : cQt M q n A B V) (hd : dQ n A B) (ha : a < 128) (hb : b < 128) : sm_cI 101 [.ref q, .int (Int32.ofNat a), .int (Int32.ofNat b), .int (d)] M (fun v M2 => v = lkQ n A B V d a b ∧ M2 = M) := by
  have hc := cQ_le q
  have hn := hT.1
  refine g101_0 hS hq ((s52 hS hq hT hd ha hb).mono fun v M1 k1 s1 => ?_)
  obtain ⟨k11, k12⟩ := k1
  subst k12
  unfold lkQ
  by_cases h : ixQ n A B a b < n
  · rw [if_pos h] at k11 ⊢
    rw [k11, o_cl (by omega)]
    exact ⟨fun c => absurd c (o_nn (by omega)), fun _ => ⟨(o_in (by omega)).mpr (by omega), (hT.2.2.1 _ h).2.2.2.1, rfl⟩⟩
  · rw [if_neg h] at k11 ⊢
    rw [k11]
    exact ⟨fun _ => ⟨rfl, rfl⟩, fun c => absurd (by decide) c⟩
/-- the reference's rows -/
def mQt (M : sm_M) (f a1 a2 a3 n : Nat) (A B : Nat → Nat) (V : Nat → Int32) : Prop := iV M 116 f = Int32.ofNat n ∧ ∀ k, k < n → iV M a1 k = Int32.ofNat (A k) ∧ iV M a2 k = Int32.ofNat (B k) ∧ iV M a3 k = V k
