/-! WIDTHS: the reference. -/
theorem s195_1 {M : sm_M} {n a b : Nat} {A B : Nat → Nat} {V : Nat → Int32} (hS : SH M) (hn : n ≤ 200) (hAB : ∀ k, k < n → A k < 128 ∧ B k < 128) (hT : mQt M 28 122 123 124 n A B V) (ha : a < 128) (hb : b < 128) : ∀ (d i : Nat), n - i = d → i ≤ n → ixQ n A B a b = fs (fun k => A k == a && B k == b) n i → sm_w 195 (2, [some (.ref 116), some (.int (Int32.ofNat a)), some (.int (Int32.ofNat b)), some (.int (Int32.ofNat i))], []) M (rI (fun v M2 => v = lkQ n A B V 0 a b ∧ M2 = M)) := by
  intro d
  induction d with
  | zero =>
    intro i hd hi hf
    have e : i = n := by omega
    subst e
    rw [fs_e (Nat.le_refl _)] at hf
    refine g195_1 hS ?_
    rw [hT.1]
    refine ⟨fun _ => ⟨?_, rfl⟩, fun c => absurd ((o_le (by omega) (by omega)).mpr (Nat.le_refl _)) c⟩
    unfold lkQ
    rw [hf, if_neg (by omega)]
  | succ d ih =>
    intro i hd hi hf
    obtain ⟨b1, b2⟩ := hAB i (by omega)
    obtain ⟨c1, c2, c3⟩ := hT.2 i (by omega)
    refine g195_1 hS ?_
    rw [hT.1, o_cl (by omega), c1, c2, c3, o_eq (by omega) (by omega), o_eq (by omega) (by omega), o_s]
    refine ⟨fun c => absurd ((o_le (by omega) (by omega)).mp c) (by omega), fun _ => ⟨(o_in (by omega)).mpr (by omega), fun q1 => ⟨(o_in (by omega)).mpr (by omega), fun q2 => ⟨(o_in (by omega)).mpr (by omega), ?_, rfl⟩, fun q2 => ?_⟩, fun q1 => ?_⟩⟩
    · rw [fs_t (p := fun k => A k == a && B k == b) (by omega) (by simp [q1, q2])] at hf
      unfold lkQ
      rw [hf, if_pos (by omega)]
    · exact ih (i + 1) (by omega) (by omega) (by rw [hf]; exact fs_f (p := fun k => A k == a && B k == b) (by omega) (by simp [q1, q2]))
    · exact ih (i + 1) (by omega) (by omega) (by rw [hf]; exact fs_f (p := fun k => A k == a && B k == b) (by omega) (by simp [q1]))
theorem s195 {M : sm_M} {n a b : Nat} {A B : Nat → Nat} {V : Nat → Int32} (hS : SH M) (hn : n ≤ 200) (hAB : ∀ k, k < n → A k < 128 ∧ B k < 128) (hT : mQt M 28 122 123 124 n A B V) (ha : a < 128) (hb : b < 128) : sm_cI 195 [.ref 116, .int (Int32.ofNat a), .int (Int32.ofNat b)] M (fun v M2 => v = lkQ n A B V 0 a b ∧ M2 = M) := g195_0 hS (s195_1 hS hn hAB hT ha hb n 0 (by omega) (by omega) rfl)
theorem s197_1 {M : sm_M} {n a b : Nat} {A B : Nat → Nat} {V : Nat → Int32} (hS : SH M) (hn : n ≤ 60) (hAB : ∀ k, k < n → A k < 128 ∧ B k < 128) (hT : mQt M 29 125 126 127 n A B V) (ha : a < 128) (hb : b < 128) : ∀ (d i : Nat), n - i = d → i ≤ n → ixQ n A B a b = fs (fun k => A k == a && B k == b) n i → sm_w 197 (2, [some (.ref 116), some (.int (Int32.ofNat a)), some (.int (Int32.ofNat b)), some (.int (Int32.ofNat i))], []) M (rI (fun v M2 => v = (if ixQ n A B a b < n then Int32.ofNat (ixQ n A B a b) else -1) ∧ M2 = M)) := by
  intro d
  induction d with
  | zero =>
    intro i hd hi hf
    have e : i = n := by omega
    subst e
    rw [fs_e (Nat.le_refl _)] at hf
    refine g197_1 hS ?_
    rw [hT.1]
    refine ⟨fun _ => ⟨?_, rfl⟩, fun c => absurd ((o_le (by omega) (by omega)).mpr (Nat.le_refl _)) c⟩
    rw [hf, if_neg (by omega)]
  | succ d ih =>
    intro i hd hi hf
    obtain ⟨b1, b2⟩ := hAB i (by omega)
    obtain ⟨c1, c2, c3⟩ := hT.2 i (by omega)
    refine g197_1 hS ?_
    rw [hT.1, o_cl (by omega), c1, c2, o_eq (by omega) (by omega), o_eq (by omega) (by omega), o_s]
    refine ⟨fun c => absurd ((o_le (by omega) (by omega)).mp c) (by omega), fun _ => ⟨(o_in (by omega)).mpr (by omega), fun q1 => ⟨(o_in (by omega)).mpr (by omega), fun q2 => ⟨?_, rfl⟩, fun q2 => ?_⟩, fun q1 => ?_⟩⟩
    · rw [fs_t (p := fun k => A k == a && B k == b) (by omega) (by simp [q1, q2])] at hf
      rw [hf, if_pos (by omega)]
    · exact ih (i + 1) (by omega) (by omega) (by rw [hf]; exact fs_f (p := fun k => A k == a && B k == b) (by omega) (by simp [q1, q2]))
    · exact ih (i + 1) (by omega) (by omega) (by rw [hf]; exact fs_f (p := fun k => A k == a && B k == b) (by omega) (by simp [q1]))
theorem s197 {M : sm_M} {n a b : Nat} {A B : Nat → Nat} {V : Nat → Int32} (hS : SH M) (hn : n ≤ 60) (hAB : ∀ k, k < n → A k < 128 ∧ B k < 128) (hT : mQt M 29 125 126 127 n A B V) (ha : a < 128) (hb : b < 128) : sm_cI 197 [.ref 116, .int (Int32.ofNat a), .int (Int32.ofNat b)] M (fun v M2 => v = (if ixQ n A B a b < n then Int32.ofNat (ixQ n A B a b) else -1) ∧ M2 = M) := g197_0 hS (s197_1 hS hn hAB hT ha hb n 0 (by omega) (by omega) rfl)
section PW2
variable {M : sm_M} {xa za nx nz a b : Nat} {x z w : Nat → Nat} {kf jf : Nat → Nat → Int32}
theorem s194_1 (hS : SH M) (hxa : sA xa 0 nx) (hza : sA za 0 nz) (hF : mF M w kf jf) (hb : b ≤ 8192) (hbx : b ≤ nx) (hbz : b ≤ nz) (hX : ∀ i, i < b → a ≤ i → x i < 128 ∧ iV M xa i = Int32.ofNat (x i)) (hZ : ∀ i, i < b → a ≤ i → z i ≤ 100000 ∧ iV M za i = Int32.ofNat (z i)) : ∀ (f k : Nat) (s : Int64), b - k ≤ f → a ≤ k → k ≤ b → sm_w 194 (9, [some (.ref 116), some (.ref xa), some (.ref za), none, some (.int (Int32.ofNat b)), some (.long (s)), none, some (.int (Int32.ofNat k)), some (.int (if a < k then Int32.ofNat (x (k - 1)) else -1)), none], []) M (rJ (fun v M2 => v = (if (0 : Int64) < pwF a b x z w kf jf f k s then pwF a b x z w kf jf f k s else 0) ∧ M2 = M)) := by
  obtain ⟨f1, ⟨n1, A1, B1, V1, l1, ab1, q1, e1⟩, n2, A2, B2, V2, l2, ab2, q2, e2⟩ := hF
  have fin : ∀ s : Int64, ((0 : Int64) ≤ s → s = if (0 : Int64) < s then s else 0) ∧ (¬ (0 : Int64) ≤ s → (0 : Int64) = if (0 : Int64) < s then s else 0) := fun s => by
    constructor
    · intro h
      by_cases c : (0 : Int64) < s
      · rw [if_pos c]
      · rw [if_neg c]
        exact Int64.le_antisymm (Int64.not_lt.mp c) h
    · intro h
      rw [if_neg (fun c => h (Int64.le_of_lt c))]
  intro f
  induction f with
  | zero =>
    intro k s hf ha hk
    have e : k = b := by omega
    subst e
    exact g194_1 hS hxa hza ⟨fun _ => ⟨fun c => ⟨(fin s).1 c, rfl⟩, fun c => ⟨(fin s).2 c, rfl⟩⟩, fun c => absurd ((o_le (by omega) (by omega)).mpr (Nat.le_refl _)) c⟩
  | succ f ih =>
    intro k s hf ha hk
    by_cases hkb : k < b
    · obtain ⟨x1, x2⟩ := hX k hkb ha
      obtain ⟨z1, z2⟩ := hZ k hkb ha
      have e8 : Int32.ofNat k + (1 : Int32) = Int32.ofNat (k + 1) := o_s k
      have st : sm_w 194 (56, [some (.ref 116), some (.ref xa), some (.ref za), none, some (.int (Int32.ofNat b)), some (.long (kst a x z kf k s)), none, some (.int (Int32.ofNat k)), none, none], []) M (rJ (fun v M2 => v = (if (0 : Int64) < pwF a b x z w kf jf (f + 1) k s then pwF a b x z w kf jf (f + 1) k s else 0) ∧ M2 = M)) := by
        have plain : ¬ (k + 1 < b ∧ z (k + 1) = z k ∧ jf (x k) (x (k + 1)) ≠ -1) → sm_w 194 (9, [some (.ref 116), some (.ref xa), some (.ref za), none, some (.int (Int32.ofNat b)), some (.long (kst a x z kf k s + sc (z k) (Int32.ofNat (w (x k))))), none, some (.int (Int32.ofNat (k + 1))), some (.int (Int32.ofNat (x k))), none], []) M (rJ (fun v M2 => v = (if (0 : Int64) < pwF a b x z w kf jf (f + 1) k s then pwF a b x z w kf jf (f + 1) k s else 0) ∧ M2 = M)) := fun hn => by
          have h := ih (k + 1) (kst a x z kf k s + sc (z k) (Int32.ofNat (w (x k)))) (by omega) (by omega) (by omega)
          have ep : pwF a b x z w kf jf (f + 1) k s = pwF a b x z w kf jf f (k + 1) (kst a x z kf k s + sc (z k) (Int32.ofNat (w (x k)))) := by
            conv => lhs; unfold pwF
            rw [if_pos hkb, if_neg hn]
          rw [ep]
          rw [if_pos (by omega), show k + 1 - 1 = k from rfl] at h
          exact h
        refine g194_2 hS hxa hza ?_
        rw [e8, o_cl (n := k) (by omega), o_cl (n := k + 1) (by omega), x2, z2, o_cl (n := x k) (by omega), f1 _ x1, p196_sc]
        refine ⟨fun c => ⟨(o_in (by omega)).mpr (by omega), (o_in (by omega)).mpr (by omega), (o_in (by omega)).mpr (by omega), (o_in (by omega)).mpr (by omega), plain (fun w => absurd ((o_le (by omega) (by omega)).mp c) (by omega))⟩, fun c => ?_⟩
        have c : k + 1 < b := by
          have := mt (o_le (n := b) (m := k + 1) (by omega) (by omega)).mpr c
          omega
        obtain ⟨x3, x4⟩ := hX (k + 1) c (by omega)
        obtain ⟨z3, z4⟩ := hZ (k + 1) c (by omega)
        refine ⟨(o_in (by omega)).mpr (by omega), (o_in (by omega)).mpr (by omega), ?_⟩
        rw [z4, x4, o_eq (by omega) (by omega)]
        refine ⟨fun c2 => ⟨(o_in (by omega)).mpr (by omega), (o_in (by omega)).mpr (by omega), ?_⟩, fun c2 => ⟨(o_in (by omega)).mpr (by omega), (o_in (by omega)).mpr (by omega), (o_in (by omega)).mpr (by omega), (o_in (by omega)).mpr (by omega), plain (fun w => c2 w.2.1.symm)⟩⟩
        refine (s197 hS l2 (fun k hk => ⟨(ab2 k hk).1, (ab2 k hk).2.1⟩) q2 x1 x3).mono fun v M5 k5 s5 => ?_
        obtain ⟨k51, k52⟩ := k5
        subst k52
        have hjf : jf (x k) (x (k + 1)) = lkQ n2 A2 B2 V2 (-1) (x k) (x (k + 1)) := e2 _ _
        unfold lkQ at hjf
        rw [x2, z2, x4, o_cl (n := x k) (by omega), f1 _ x1, p196_sc]
        by_cases hix : ixQ n2 A2 B2 (x k) (x (k + 1)) < n2
        · rw [if_pos hix] at k51 hjf
          have hv := ab2 _ hix
          rw [k51, o_cl (n := ixQ n2 A2 B2 (x k) (x (k + 1))) (by omega), (q2.2 _ hix).2.2, p196_sc]
          refine ⟨fun c3 => absurd c3 (o_nn (by omega)), fun c3 => ⟨(o_in (by omega)).mpr (by omega), (o_in (by omega)).mpr (by omega), (o_in (by omega)).mpr (by omega), ?_⟩⟩
          have h := ih (k + 2) (kst a x z kf k s + sc (z k) (jf (x k) (x (k + 1)))) (by omega) (by omega) (by omega)
          have ep : pwF a b x z w kf jf (f + 1) k s = pwF a b x z w kf jf f (k + 2) (kst a x z kf k s + sc (z k) (jf (x k) (x (k + 1)))) := by
            conv => lhs; unfold pwF
            rw [if_pos hkb, if_pos ⟨c, c2.symm, by rw [hjf]; exact hv.2.2⟩]
          rw [ep, show Int32.ofNat k + 2 = Int32.ofNat (k + 2) from (Int32.ofNat_add k 2).symm]
          rw [if_pos (by omega), show k + 2 - 1 = k + 1 from rfl] at h
          rw [hjf] at h ⊢
          exact h
        · rw [if_neg hix] at k51 hjf
          rw [k51]
          exact ⟨fun c3 => ⟨(o_in (by omega)).mpr (by omega), (o_in (by omega)).mpr (by omega), (o_in (by omega)).mpr (by omega), (o_in (by omega)).mpr (by omega), plain (fun w => w.2.2 hjf)⟩, fun c3 => absurd (by decide) c3⟩
      refine g194_1 hS hxa hza ⟨fun c => absurd ((o_le (by omega) (by omega)).mp c) (by omega), fun _ => ⟨fun c => ?_, fun c => ?_⟩⟩
      · have e : kst a x z kf k s = s := if_neg (fun w => by
          rw [if_pos w.1] at c
          exact absurd c (o_nn (by have := (hX (k - 1) (by omega) (by omega)).1; omega)))
        rw [e] at st
        exact st
      · have c : a < k := by
          rcases Nat.lt_or_ge a k with z | z
          · exact z
          · rw [if_neg (by omega)] at c
            exact absurd (by decide) c
        obtain ⟨x3, x4⟩ := hX (k - 1) (by omega) (by omega)
        obtain ⟨z3, z4⟩ := hZ (k - 1) (by omega) (by omega)
        rw [if_pos c, o_p (by omega), o_cl (n := k) (by omega), o_cl (n := k - 1) (by omega), z4, z2, x2, o_eq (by omega) (by omega)]
        refine ⟨(o_in (by omega)).mpr (by omega), (o_in (by omega)).mpr (by omega), fun c2 => ⟨(o_in (by omega)).mpr (by omega), (o_in (by omega)).mpr (by omega), ?_⟩, fun c2 => ?_⟩
        · refine (s195 hS l1 ab1 q1 x3 x1).mono fun v M5 k5 s5 => ?_
          obtain ⟨k51, k52⟩ := k5
          subst k52
          rw [← e1] at k51
          have e : kst a x z kf k s = s + sc (z k) (kf (x (k - 1)) (x k)) := if_pos ⟨c, c2.symm⟩
          rw [e] at st
          rw [k51, p196_sc]
          exact st
        · have e : kst a x z kf k s = s := if_neg (fun w => c2 w.2.symm)
          rw [e] at st
          exact st
    · have e : k = b := by omega
      subst e
      have ep : pwF a k x z w kf jf (f + 1) k s = s := by
        conv => lhs; unfold pwF
        rw [if_neg hkb]
      rw [ep]
      exact g194_1 hS hxa hza ⟨fun _ => ⟨fun c => ⟨(fin s).1 c, rfl⟩, fun c => ⟨(fin s).2 c, rfl⟩⟩, fun c => absurd ((o_le (by omega) (by omega)).mpr (Nat.le_refl _)) c⟩
theorem s194 (hS : SH M) (hxa : sA xa 0 nx) (hza : sA za 0 nz) (hF : mF M w kf jf) (hb : b ≤ 8192) (hab : a ≤ b) (hbx : b ≤ nx) (hbz : b ≤ nz) (hX : ∀ i, i < b → a ≤ i → x i < 128 ∧ iV M xa i = Int32.ofNat (x i)) (hZ : ∀ i, i < b → a ≤ i → z i ≤ 100000 ∧ iV M za i = Int32.ofNat (z i)) : sm_cJ 194 [.ref 116, .ref xa, .ref za, .int (Int32.ofNat a), .int (Int32.ofNat b)] M (fun v M2 => v = pwd a b x z w kf jf ∧ M2 = M) := by
  refine g194_0 hS hxa hza ?_
  have h := s194_1 hS hxa hza hF hb hbx hbz hX hZ (b - a) a 0 (Nat.le_refl _) (Nat.le_refl _) hab
  rw [if_neg (Nat.lt_irrefl _)] at h
  exact h
end PW2
