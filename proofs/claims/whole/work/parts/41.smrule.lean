/-! RULES for the segments: ends, calls, places of arrays. -/
theorem sm_w.aln {mi pc r n : Nat} {ls : List (Option Value)} {st : List Value} {M M1 : sm_M} {Q : Outcome → sm_M → Prop} (h : sm_ln M1 r = n) (kk : sm_w mi (pc, ls, .int (Int32.ofNat n) :: st) M Q) : sm_w mi (pc, ls, .int (Int32.ofNat (sm_ln M1 r)) :: st) M Q := by
  rw [h]; exact kk
theorem sm_K.a2 {M : sm_M} {q k n : Nat} {i : Int32} (h : sm_K M q k) (e : sm_ln M q = n) (hi : vp_in i n) : sm_ai M 0 k q i := ⟨Nat.zero_le _, h.2.1, h.2.2, by rw [e]; exact hi⟩
theorem sm_K.s2 {M : sm_M} {q k n : Nat} {i : Int32} (h : sm_K M q k) (e : sm_ln M q = n) (hi : vp_in i n) : sm_ai M 23 k q i := ⟨h.1, h.2.1, h.2.2, by rw [e]; exact hi⟩
theorem sm_bk5 {M : sm_M} {q n : Nat} {i : Int32} (h : q < M.1 ∧ (61 ≤ sm_kd M q ∧ sm_kd M q < 65)) (e : sm_ln M q = n) (hi : vp_in i n) : sm_bk M 5 q i := by
  unfold sm_bk
  rw [if_pos rfl, e]
  exact ⟨h.1, h.2, hi⟩
theorem sm_cpK2 {M : sm_M} {s d ns nd : Nat} {sp dp n : Int32} (hd : sm_K M d 1) (hs : sm_K M s 1) (ed : sm_ln M d = nd) (es : sm_ln M s = ns) (c : s ≠ d ∧ ¬ sp < 0 ∧ ¬ dp < 0 ∧ ¬ n < 0 ∧ sp.toNatClampNeg + n.toNatClampNeg ≤ ns ∧ dp.toNatClampNeg + n.toNatClampNeg ≤ nd ∧ ∀ i, i < n.toNatClampNeg → fits .byte (.int (sm_iv M s (sp.toNatClampNeg + i))) = true) :
    23 ≤ d ∧ 23 ≤ s ∧ d < M.1 ∧ s < M.1 ∧ s ≠ d ∧ sm_kd M s = 1 ∧ sm_kd M d = 1 ∧ ¬ sp < 0 ∧ ¬ dp < 0 ∧ ¬ n < 0 ∧ sp.toNatClampNeg + n.toNatClampNeg ≤ sm_ln M s ∧ dp.toNatClampNeg + n.toNatClampNeg ≤ sm_ln M d ∧ ∀ i, i < n.toNatClampNeg → fits .byte (.int (sm_iv M s (sp.toNatClampNeg + i))) = true := by
  obtain ⟨c1, c2, c3, c4, c5, c6, c7⟩ := c
  exact ⟨hd.1, hs.1, hd.2.1, hs.2.1, c1, hs.2.2, hd.2.2, c2, c3, c4, by rw [es]; exact c5, by rw [ed]; exact c6, c7⟩
theorem nar3 {x : Int32} (h : x = 0 ∨ x = 1) : narrow (sm_ry 3) (.int x) = .int x := by
  rcases h with rfl | rfl <;> rfl
theorem lc_e {x y : Int64} : lg_cmp x y = 0 ↔ x = y := by
  unfold lg_cmp
  constructor
  · intro h
    split at h
    · exact absurd h (by decide)
    · split at h
      · assumption
      · exact absurd h (by decide)
  · rintro rfl
    rw [if_neg (Int64.lt_irrefl), if_pos rfl]
theorem lc_g {x y : Int64} : 0 < lg_cmp x y ↔ y < x := by
  unfold lg_cmp
  constructor
  · intro h
    split at h
    · assumption
    · split at h
      · exact absurd h (by decide)
      · exact absurd h (by decide)
  · intro h
    rw [if_pos h]
    decide
theorem lc_le {x y : Int64} : lg_cmp x y ≤ 0 ↔ x ≤ y := by
  have h := @lc_g x y
  constructor
  · intro z
    exact Int64.not_lt.mp (fun w => Int32.not_lt.mpr z (h.mpr w))
  · intro z
    exact Int32.not_lt.mp (fun w => Int64.not_lt.mpr z (h.mp w))
theorem lc_l {x y : Int64} : lg_cmp x y < 0 ↔ x < y := by
  unfold lg_cmp
  constructor
  · intro h
    split at h
    · exact absurd h (by decide)
    · rename_i h1
      split at h
      · exact absurd h (by decide)
      · rename_i h2
        have h3 : x ≤ y := Int64.not_lt.mp h1
        exact Int64.lt_of_le_of_ne h3 h2
  · intro h
    have h1 : ¬ x > y := fun z => absurd (Int64.lt_trans h z) (Int64.lt_irrefl)
    have h2 : ¬ x = y := fun z => by subst z; exact absurd h (Int64.lt_irrefl)
    rw [if_neg h1, if_neg h2]
    decide
theorem lc_ge {x y : Int64} : 0 ≤ lg_cmp x y ↔ y ≤ x := by
  have h := @lc_l x y
  constructor
  · intro z
    exact Int64.not_lt.mp (fun w => Int32.not_lt.mpr z (h.mpr w))
  · intro z
    exact Int32.not_lt.mp (fun w => Int64.not_lt.mpr z (h.mp w))
section SMZ
variable {mi : Nat} {T : Nat × List sm_C × List sm_X} {f g : sm_F} {M : sm_M} {p : Prop} {i : Nat} {as : List Value} {Q : Outcome → sm_M → Prop} {X : Nat → sm_M → Prop}
theorem sm_w.zV {K : sm_M → Prop} (hT : sP mi = T) (hs : sm_srt T.2.1 = true) (k : Nat) (h : sm_hd T.2.2 (T.2.1.drop k) M f = some (p, .inr (.inr (i, as, g)))) (hp : p) (hn : (sm_la as).length ≤ (sP i).1) (hh : sH i < sH mi) (hno : T.2.2 = []) (hX : ∀ r M2, X r M2 → Q (.threw r) M2) (hc : sm_xV i as M X K) (kk : ∀ M2, K M2 → sm_w mi (g.1 + 3, g.2.1, g.2.2) M2 Q) : sm_w mi f M Q := sm_w.call hT hs k h hp hn hh (sm_w.mono hc fun o M2 q => by
  rcases q with ⟨r, q1, q2⟩ | ⟨q1, q2⟩
  · exact Or.inr (Or.inl ⟨r, q1, hno, hX r M2 q2⟩)
  · exact Or.inl ⟨_, q1, kk M2 q2⟩)
theorem sm_w.zI {K : Int32 → sm_M → Prop} (hT : sP mi = T) (hs : sm_srt T.2.1 = true) (k : Nat) (h : sm_hd T.2.2 (T.2.1.drop k) M f = some (p, .inr (.inr (i, as, g)))) (hp : p) (hn : (sm_la as).length ≤ (sP i).1) (hh : sH i < sH mi) (hno : T.2.2 = []) (hX : ∀ r M2, X r M2 → Q (.threw r) M2) (hc : sm_xI i as M X K) (kk : ∀ v M2, K v M2 → sm_w mi (g.1 + 3, g.2.1, .int v :: g.2.2) M2 Q) : sm_w mi f M Q := sm_w.call hT hs k h hp hn hh (sm_w.mono hc fun o M2 q => by
  rcases q with ⟨r, q1, q2⟩ | ⟨v, q1, q2⟩
  · exact Or.inr (Or.inl ⟨r, q1, hno, hX r M2 q2⟩)
  · exact Or.inl ⟨_, q1, kk v M2 q2⟩)
theorem sm_w.zJ {K : Int64 → sm_M → Prop} (hT : sP mi = T) (hs : sm_srt T.2.1 = true) (k : Nat) (h : sm_hd T.2.2 (T.2.1.drop k) M f = some (p, .inr (.inr (i, as, g)))) (hp : p) (hn : (sm_la as).length ≤ (sP i).1) (hh : sH i < sH mi) (hno : T.2.2 = []) (hX : ∀ r M2, X r M2 → Q (.threw r) M2) (hc : sm_xJ i as M X K) (kk : ∀ v M2, K v M2 → sm_w mi (g.1 + 3, g.2.1, .long v :: g.2.2) M2 Q) : sm_w mi f M Q := sm_w.call hT hs k h hp hn hh (sm_w.mono hc fun o M2 q => by
  rcases q with ⟨r, q1, q2⟩ | ⟨v, q1, q2⟩
  · exact Or.inr (Or.inl ⟨r, q1, hno, hX r M2 q2⟩)
  · exact Or.inl ⟨_, q1, kk v M2 q2⟩)
end SMZ
theorem sm_cV.mono {i : Nat} {as : List Value} {M : sm_M} {K K2 : sm_M → Prop} (h : sm_cV i as M K) (k : ∀ M2, K M2 → K2 M2) : sm_cV i as M K2 := sm_w.mono h fun o M2 z => ⟨z.1, k _ z.2⟩
theorem sm_cI.mono {i : Nat} {as : List Value} {M : sm_M} {K K2 : Int32 → sm_M → Prop} (h : sm_cI i as M K) (k : ∀ v M2, K v M2 → K2 v M2) : sm_cI i as M K2 := sm_w.mono h fun o M2 z => by
  obtain ⟨v, z1, z2⟩ := z
  exact ⟨v, z1, k _ _ z2⟩
theorem sm_cJ.mono {i : Nat} {as : List Value} {M : sm_M} {K K2 : Int64 → sm_M → Prop} (h : sm_cJ i as M K) (k : ∀ v M2, K v M2 → K2 v M2) : sm_cJ i as M K2 := sm_w.mono h fun o M2 z => by
  obtain ⟨v, z1, z2⟩ := z
  exact ⟨v, z1, k _ _ z2⟩
theorem sm_xV.mono {i : Nat} {as : List Value} {M : sm_M} {X X2 : Nat → sm_M → Prop} {K K2 : sm_M → Prop} (h : sm_xV i as M X K) (x : ∀ r M2, X r M2 → X2 r M2) (k : ∀ M2, K M2 → K2 M2) : sm_xV i as M X2 K2 := sm_w.mono h fun o M2 z => by
  rcases z with ⟨r, z1, z2⟩ | ⟨z1, z2⟩
  · exact Or.inl ⟨r, z1, x _ _ z2⟩
  · exact Or.inr ⟨z1, k _ z2⟩
theorem sm_xI.mono {i : Nat} {as : List Value} {M : sm_M} {X X2 : Nat → sm_M → Prop} {K K2 : Int32 → sm_M → Prop} (h : sm_xI i as M X K) (x : ∀ r M2, X r M2 → X2 r M2) (k : ∀ v M2, K v M2 → K2 v M2) : sm_xI i as M X2 K2 := sm_w.mono h fun o M2 z => by
  rcases z with ⟨r, z1, z2⟩ | ⟨v, z1, z2⟩
  · exact Or.inl ⟨r, z1, x _ _ z2⟩
  · exact Or.inr ⟨v, z1, k _ _ z2⟩
theorem sm_xJ.mono {i : Nat} {as : List Value} {M : sm_M} {X X2 : Nat → sm_M → Prop} {K K2 : Int64 → sm_M → Prop} (h : sm_xJ i as M X K) (x : ∀ r M2, X r M2 → X2 r M2) (k : ∀ v M2, K v M2 → K2 v M2) : sm_xJ i as M X2 K2 := sm_w.mono h fun o M2 z => by
  rcases z with ⟨r, z1, z2⟩ | ⟨v, z1, z2⟩
  · exact Or.inl ⟨r, z1, x _ _ z2⟩
  · exact Or.inr ⟨v, z1, k _ _ z2⟩
/-- an int, a long, of a cell -/
def iV (M : sm_M) (a k : Nat) : Int32 := sm_iv M a k
def jV (M : sm_M) (a k : Nat) : Int64 := sm_jv M a k
