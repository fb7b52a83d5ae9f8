/-! THE START, both sides: what holds when the law's loop begins. -/
section BEG
variable {L : Nat} {xs : Nat → Int32} {M : sm_M}
theorem zlk_f (d : Int32) (a k : Nat) : ∀ w : List (Nat × Nat × Nat × Int32), zlk d a k w = zlk d a k (w.filter fun q => Nat.beq q.1 a)
  | [] => rfl
  | (a0, lo, hi, x) :: w => by
    rw [zlk_c, List.filter_cons]
    by_cases c : a0 = a
    · rw [if_pos (show Nat.beq a0 a = true from by rw [c]; exact Nat.beq_refl _), zlk_c, ← zlk_f d a k w]
    · rw [if_neg (fun z => c (Nat.eq_of_beq_eq_true z)), if_neg (by omega), ← zlk_f d a k w]
theorem zlk_v {d : Int32} {a k hi : Nat} {x : Int32} {w : List (Nat × Nat × Nat × Int32)} (e : (w.filter fun q => Nat.beq q.1 a) = [(a, 0, hi, x)]) (h : k < hi) : zlk d a k w = x := by
  rw [zlk_f, e, zlk_c, if_pos ⟨rfl, by omega, h⟩]
abbrev ZE (L : Nat) (xs : Nat → Int32) (M : sm_M) : Prop := ZS L xs 165 217327 zl_141 zw_47 M
theorem ZS.SH (h : ZE L xs M) : SH M := by
  refine ⟨by rw [h.1]; omega, h.2.2.1, h.2.2.2.1, fun q hq => ?_⟩
  have e : sRl.all (fun q => zl_141.contains q) = true := by decide +kernel
  exact (h.2.2.2.2.1 q (List.elem_iff.mp (List.all_eq_true.mp e q hq))).2
theorem ZS.i (h : ZE L xs M) (a k : Nat) (x : Int32) (e : zlk (iV (sM0 L xs) a k) a k zw_47 = x) : iV M a k = x := (h.2.2.2.2.2.1 a k).trans e
theorem ZS.NM (h : ZE L xs M) : NM M := by
  intro x hx
  rcases hx with rfl | rfl | rfl | rfl
  · refine ⟨h.i _ _ _ rfl, fun i hi => ?_⟩
    have hi : i < 5 := hi
    obtain rfl | rfl | rfl | rfl | rfl : i = 0 ∨ i = 1 ∨ i = 2 ∨ i = 3 ∨ i = 4 := by omega
    all_goals exact h.i _ _ _ rfl
  all_goals
    refine ⟨h.i _ _ _ rfl, fun i hi => ?_⟩
    have hi : i < 4 := hi
    obtain rfl | rfl | rfl | rfl : i = 0 ∨ i = 1 ∨ i = 2 ∨ i = 3 := by omega
    all_goals exact h.i _ _ _ rfl
theorem ZS.Rl (h : ZE L xs M) : Rl M := by
  have z0 : ∀ {P : Prop} {i : Nat}, i < 0 → P := fun h => absurd h (Nat.not_lt_zero _)
  have zq : ∀ (q : Nat), (zlk (iV (sM0 L xs) q 4) q 4 zw_47 = 0) → (zw_47.filter fun p => Nat.beq p.1 (q + 1)) = [(q + 1, 0, 128, -1)] → cQt M q 0 (fun _ => 0) (fun _ => 0) (fun _ => 0) := fun q e1 e2 => ⟨Nat.zero_le _, h.i _ _ _ e1, fun k hk => z0 hk, fun a ha => h.i _ _ _ (zlk_v e2 ha)⟩
  have hj : ∀ a k, jV M a k = 0 := h.2.2.2.2.2.2.1
  refine ⟨(fun _ => 0, 0), (fun _ => 0, 0), -1, (fun _ => 0, fun _ => 0, 0, 0), (gW G0, gK G0, gJ G0), T0, none, ⟨⟨Nat.zero_le _, fun i hi => z0 hi, Or.inl rfl, fun hi => z0 hi⟩, wG0.F, wT0, trivial⟩, ⟨⟨h.SH, h.NM⟩, ⟨Nat.zero_le _, h.i _ _ _ rfl, fun i hi => z0 hi⟩, ⟨Nat.zero_le _, h.i _ _ _ rfl, fun i hi => z0 hi⟩, h.i _ _ _ rfl, ⟨h.i _ _ _ rfl, h.i _ _ _ rfl, fun i hi => z0 hi⟩, ?_, ?_, ?_⟩, ⟨h.i _ _ _ rfl, fun i hi => z0 hi⟩, ⟨h.i _ _ _ rfl, fun i hi => z0 hi⟩, h.i _ _ _ rfl, ⟨h.i _ _ _ rfl, h.i _ _ _ rfl, fun i hi => z0 hi⟩, ?_, ?_, ⟨hj _ _, hj _ _, hj _ _, hj _ _⟩, ?_⟩
  · refine ⟨42, 55, Or.inl rfl, Or.inr rfl, by omega, h.R 23 9 42 rfl, h.R 23 10 55 rfl, fun b hb => h.i 43 b _ (zlk_v (hi := 128) rfl hb), ⟨0, _, _, _, zq 45 rfl rfl, fun i j h1 h2 => z0 h2, fun a b => rfl⟩, ⟨0, _, _, _, zq 50 rfl rfl, fun i j h1 h2 => z0 h2, fun a b => rfl⟩⟩
  · refine ⟨68, 78, Or.inl rfl, Or.inr rfl, by omega, h.R 23 11 68 rfl, h.R 23 12 78 rfl, 1, fun _ => 10000, fun _ => 0, fun _ => 0, ⟨⟨by omega, by omega⟩, h.i _ _ _ rfl, fun y hy => ?_, fun y y1 y2 => by omega, (by show 1 ≤ 10000; omega), fun i j i1 j1 => by omega⟩, ⟨⟨h.i _ _ _ rfl, h.i _ _ _ rfl, h.i _ _ _ rfl, h.i _ _ _ rfl⟩, ⟨by show 1 ≤ 1 + 14 * 0; omega, fun p q hp => z0 hp⟩, fun y hy => Or.inl ⟨?_, fun p hp => z0 hp⟩, fun p hp => z0 hp, fun e he => z0 he⟩⟩
    · have ey : y = 0 := by omega
      subst ey
      show _ = if (10000 : Nat) = 0 then Int32.ofNat 0 else -1
      rw [if_neg (by omega)]
      exact h.i 69 0 _ rfl
    · have ey : y = 0 := by omega
      subst ey
      exact h.i 72 0 _ rfl
  · exact ⟨88, 102, Or.inl rfl, Or.inr rfl, by omega, h.R 23 13 88 rfl, h.R 23 14 102 rfl, ⟨h.i 92 0 _ rfl, h.i 93 0 _ rfl, h.i 95 0 _ rfl, hj _ _, hj _ _, hj _ _, hj _ _⟩, ⟨h.i 106 0 _ rfl, h.i 107 0 _ rfl, h.i 109 0 _ rfl, hj _ _, hj _ _, hj _ _, hj _ _⟩, h.i 23 15 _ rfl⟩
  · exact ⟨fun b hb => h.i 120 b _ (zlk_v (hi := 256) rfl (by omega)), ⟨0, fun _ => 0, fun _ => 0, fun _ => 0, by omega, fun k hk => z0 hk, ⟨h.i _ _ _ rfl, fun k hk => z0 hk⟩, fun a b => rfl⟩, ⟨0, fun _ => 0, fun _ => 0, fun _ => 0, by omega, fun k hk => z0 hk, ⟨h.i _ _ _ rfl, fun k hk => z0 hk⟩, fun a b => rfl⟩⟩
  · exact ⟨⟨h.i _ _ _ rfl, h.i _ _ _ rfl, h.i _ _ _ rfl, h.i _ _ _ rfl⟩, fun p hp => z0 hp, fun e he => z0 he⟩
  · exact h.i 116 59 _ rfl
theorem zs0 (L : Nat) (xs : Nat → Int32) : ZS L xs 23 0 zl_0 zw_0 (sM0 L xs) := by
  refine ⟨rfl, rfl, ?_, fun a h0 ha => ?_, fun q hq => ?_, fun a k => rfl, fun a k => rfl, rfl, Nat.le_refl _⟩
  · show ∀ a, a < 23 → sm_nth 71 [60, 70, 61, 70, 62, 70, 63, 70, 64] a = sKD a
    decide
  · obtain ⟨b, rfl⟩ : ∃ b, a = b + 1 := ⟨a - 1, by omega⟩
    have e : ∀ b, b < 22 → sm_nth 0 [0, 5, 0, 4, 0, 4, 0, 4] b = sLN (b + 1) := by decide
    exact e b (by omega)
  · rcases List.mem_cons.mp hq with rfl | hq
    · exact ⟨by decide, rfl⟩
    rcases List.mem_cons.mp hq with rfl | hq
    · exact ⟨by decide, rfl⟩
    rcases List.mem_cons.mp hq with rfl | hq
    · exact ⟨by decide, rfl⟩
    rcases List.mem_cons.mp hq with rfl | hq
    · exact ⟨by decide, rfl⟩
    cases hq
end BEG
/-- what is left: the small machine's run of the law -/
def sm_goal : Prop := ∀ (L : Nat) (xs : Nat → Int32), L ≤ 3072 → sm_w 225 (sm_in sP 225 [.ref 0]) (sM0 L xs) (fun o M2 => o = .returned (some (.int 1)) ∧ M2.1 ≤ 23 + 601024 ∧ M2.2.1 ≤ 7293034)
theorem lw_goal : sm_goal := by
  intro L xs hL
  refine w225 (zs0 L xs) fun M2 h => ?_
  refine (law_1 (A := M2) hL L 0 0 (by omega) (Nat.zero_le _) (Nat.le_refl _) M2 h.Rl h.2.2.2.2.2.2.2.1 (by omega) (by omega)).mono fun o M3 z => ?_
  obtain ⟨v, z1, z2, z3, z4⟩ := z
  rw [h.1] at z3
  rw [h.2.1] at z4
  exact ⟨by rw [z1, z2], by omega, by omega⟩
