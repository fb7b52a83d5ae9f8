/-! THE REFERENCE'S PLACES. -/
def mTb (M : sm_M) (T : Nat → Nat → Nat → Nat) : Prop := (iV M 116 43 = Int32.ofNat (T 0 0 0) ∧ iV M 116 44 = Int32.ofNat (T 0 0 1) ∧ iV M 116 33 = Int32.ofNat (T 0 0 2) ∧ iV M 116 34 = Int32.ofNat (T 0 0 3)) ∧ (∀ p, p < T 0 0 0 → iV M 136 p = Int32.ofNat (T 3 p 0) ∧ (∀ i, i < T 3 p 0 → iV M 135 (16 * p + i) = Int32.ofNat (T 1 p i)) ∧ ∀ i, i ≤ T 3 p 0 → iV M 137 (17 * p + i) = Int32.ofNat (T 2 p i)) ∧ ∀ e, e < T 0 0 1 → iV M 139 e = Int32.ofNat (T 6 e 0) ∧ ∀ i, i < T 6 e 0 → iV M 138 (32 * e + i) = Int32.ofNat (T 4 e i) ∧ (iV M 140 (32 * e + i) = 0 ↔ ¬ T 5 e i = 1)
theorem mTb.eq {M M2 : sm_M} {T : Nat → Nat → Nat → Nat} (h : mTb M T) (e1 : iV M2 116 43 = iV M 116 43 ∧ iV M2 116 44 = iV M 116 44 ∧ iV M2 116 33 = iV M 116 33 ∧ iV M2 116 34 = iV M 116 34) (e : ∀ a k, 135 ≤ a → a ≤ 140 → iV M2 a k = iV M a k) : mTb M2 T := by
  obtain ⟨⟨h1, h2, h3, h4⟩, h5, h6⟩ := h
  obtain ⟨a1, a2, a3, a4⟩ := e1
  refine ⟨⟨by rw [a1]; exact h1, by rw [a2]; exact h2, by rw [a3]; exact h3, by rw [a4]; exact h4⟩, fun p hp => ?_, fun x hx => ?_⟩
  · obtain ⟨b1, b2, b3⟩ := h5 p hp
    exact ⟨by rw [e _ _ (by omega) (by omega)]; exact b1, fun i hi => by rw [e _ _ (by omega) (by omega)]; exact b2 i hi, fun i hi => by rw [e _ _ (by omega) (by omega)]; exact b3 i hi⟩
  · obtain ⟨b1, b2⟩ := h6 x hx
    exact ⟨by rw [e _ _ (by omega) (by omega)]; exact b1, fun i hi => by rw [e _ _ (by omega) (by omega), e _ _ (by omega) (by omega)]; exact b2 i hi⟩
section MPL
variable {n : Nat} {L : Nat → Nat} {T : Nat → Nat → Nat → Nat} {A : sm_M}
def p45 : Nat → Nat → Prop := fun a _ => a = 144 ∨ a = 145
/-- the table and the row -/
def mB (M : sm_M) (T : Nat → Nat → Nat → Nat) (n : Nat) (L : Nat → Nat) : Prop := mTb M T ∧ ∀ j, j ≤ n + 1 → iV M 143 j = Int32.ofNat (rwd n L j)
theorem mB.fr {M M2 : sm_M} (h : mB M T n L) (f : Fr p45 M M2) : mB M2 T n L := ⟨h.1.eq ⟨f.2.1 _ _ (by unfold p45; omega), f.2.1 _ _ (by unfold p45; omega), f.2.1 _ _ (by unfold p45; omega), f.2.1 _ _ (by unfold p45; omega)⟩ fun a k h1 h2 => f.2.1 _ _ (by unfold p45; omega), fun j hj => by rw [f.2.1 _ _ (by unfold p45; omega)]; exact h.2 j hj⟩
def okP (M : sm_M) (T : Nat → Nat → Nat → Nat) (n : Nat) (L : Nat → Nat) (j : Nat) : Prop := (plc T n L j → iV M 145 j = 1) ∧ (¬ plc T n L j → iV M 145 j = 0)
def Q202 (A : sm_M) (T : Nat → Nat → Nat → Nat) (n : Nat) (L : Nat → Nat) (M2 : sm_M) : Prop := (∀ j, 1 ≤ j → j < n → okP M2 T n L j) ∧ Fr p45 A M2
theorem okP.wI {M : sm_M} {j k : Nat} {x : Int32} (h : okP M T n L j) (hne : ¬ j = k) : okP (sm_wI M 145 k x) T n L j := ⟨fun z => by rw [iV_wI, if_neg (fun y => hne y.2)]; exact h.1 z, fun z => by rw [iV_wI, if_neg (fun y => hne y.2)]; exact h.2 z⟩
theorem md2 {v : Nat} (h : v ≤ 9) : (Int32.ofNat v - Int32.ofNat v / (2 : Int32) * (2 : Int32)) = 1 ↔ v % 2 = 1 := (show ∀ v, v < 10 → ((Int32.ofNat v - Int32.ofNat v / (2 : Int32) * (2 : Int32)) = 1 ↔ v % 2 = 1) from by decide) v (by omega)
/-- the levels, as far as seen -/
def lvM (M : sm_M) (n : Nat) (T : Nat → Nat → Nat → Nat) (S : Nat → Nat → Prop) : Prop := ∃ V : Nat → Nat, ∀ j, j ≤ n + 2 → iV M 144 j = Int32.ofNat (V j) ∧ isL T S j (V j)
theorem lvM.c {M : sm_M} {S S' : Nat → Nat → Prop} (h : lvM M n T S) (e : ∀ p a, p < T 0 0 0 → (S p a ↔ S' p a)) : lvM M n T S' := by
  obtain ⟨V, hV⟩ := h
  exact ⟨V, fun j hj => ⟨(hV j hj).1, isL_c (hV j hj).2 e⟩⟩
theorem s202_10 (hw : wT T) (hn : n ≤ 4000) (hA : mB A T n L) (hex : ¬ exq T n L < T 0 0 1) : ∀ (d k : Nat), n - k = d → 1 ≤ k → k ≤ n → ∀ M, SH M → lvM M n T (mt T n (rwd n L)) → (∀ j, 1 ≤ j → j < k → okP M T n L j) → Fr p45 A M → sm_w 202 (380, [some (.ref 116), some (.int (Int32.ofNat n)), some (.int (Int32.ofNat k)), none, none, none, none], []) M (rV (Q202 A T n L)) := by
  have hE := hw.1
  intro d
  induction d with
  | zero =>
    intro k hd h1 hk M hS hV hp hf
    have e : k = n := by omega
    subst e
    exact g202_10 hS ⟨fun _ => ⟨hp, hf⟩, fun c => absurd ((o_le (by omega) (by omega)).mpr (Nat.le_refl _)) c⟩
  | succ d ih =>
    intro k hd h1 hk M hS hV hp hf
    obtain ⟨V, hVV⟩ := hV
    obtain ⟨v1, v2⟩ := hVV (k + 1) (by omega)
    obtain ⟨⟨b1, b2, b3, b4⟩, _⟩ := (hA.fr hf).1
    have hpl : plc T n L k ↔ T 0 0 2 ≤ k ∧ k + T 0 0 3 ≤ n ∧ V (k + 1) % 2 = 1 := by
      unfold plc
      constructor
      · rintro ⟨y1, y2, z | ⟨_, v, z1, z2⟩⟩
        · exact absurd z.1 hex
        · exact ⟨y1, y2, by rw [isL_u v2 z1]; exact z2⟩
      · rintro ⟨y1, y2, z⟩
        exact ⟨y1, y2, Or.inr ⟨hex, V (k + 1), v2, z⟩⟩
    refine g202_10 hS ⟨fun c => absurd ((o_le (by omega) (by omega)).mp c) (by omega), fun _ => ?_⟩
    rw [o_s, o_cl (n := k + 1) (by omega), v1, md2 (isL_9 hw v2), b3, b4, o_cl (n := k) (by omega)]
    have go : ∀ M3 x, SH M3 → M3 = sm_wI M 145 k x → ((plc T n L k → x = 1) ∧ (¬ plc T n L k → x = 0)) → sm_w 202 (380, [some (.ref 116), some (.int (Int32.ofNat n)), some (.int (Int32.ofNat (k + 1))), none, none, none, none], []) M3 (rV (Q202 A T n L)) := fun M3 x s3 e3 hx => by
      refine ih (k + 1) (by omega) (by omega) (by omega) M3 s3 ⟨V, fun j hj => ⟨by rw [e3, iV_wI, if_neg (by omega)]; exact (hVV j hj).1, (hVV j hj).2⟩⟩ (fun j j1 j2 => ?_) (by rw [e3]; exact hf.wI (Or.inr rfl))
      by_cases ej : j = k
      · subst ej
        rw [e3]
        exact ⟨fun z => by rw [iV_wI, if_pos ⟨rfl, rfl⟩]; exact hx.1 z, fun z => by rw [iV_wI, if_pos ⟨rfl, rfl⟩]; exact hx.2 z⟩
      · rw [e3]; exact (hp j j1 (by omega)).wI ej
    have oi : vp_in (Int32.ofNat k) 4100 := (o_in (by omega)).mpr (by omega)
    refine ⟨(o_in (by omega)).mpr (by omega), fun c1 => ?_, fun c1 => ⟨oi, fun M3 s3 e3 => go M3 _ s3 e3 ⟨fun z => absurd (hpl.mp z).2.2 c1, fun _ => by decide⟩⟩⟩
    rw [o_lt (by omega) (by omega), ← Int32.ofNat_sub n k (by omega), o_lt (by omega) (by omega)]
    refine ⟨fun c2 => ⟨oi, fun M3 s3 e3 => go M3 _ s3 e3 ⟨fun z => absurd (hpl.mp z).1 (by omega), fun _ => by decide⟩⟩, fun c2 => ⟨fun c3 => ⟨oi, fun M3 s3 e3 => go M3 _ s3 e3 ⟨fun z => absurd (hpl.mp z).2.1 (by omega), fun _ => by decide⟩⟩, fun c3 => ⟨oi, fun M3 s3 e3 => go M3 _ s3 e3 ⟨fun _ => by decide, fun z => absurd (hpl.mpr ⟨by omega, by omega, c1⟩) z⟩⟩⟩⟩
/-- seen: the patterns ahead of p, and p itself ahead of at -/
def Sy (T : Nat → Nat → Nat → Nat) (n : Nat) (L : Nat → Nat) (p0 a0 p a : Nat) : Prop := mt T n (rwd n L) p a ∧ (p < p0 ∨ p = p0 ∧ a < a0)
def upb (T : Nat → Nat → Nat → Nat) (q b : Nat) (V : Nat → Nat) (k j : Nat) : Nat := if b ≤ j ∧ j < b + k ∧ V j < T 2 q (j - b) then T 2 q (j - b) else V j
theorem s202_9 {q b : Nat} {V : Nat → Nat} {Q : sm_M → Prop} (hw : wT T) (hn : n ≤ 4000) (hA : mB A T n L) (hq : q < T 0 0 0) (hb : b + T 3 q 0 ≤ n + 2) (hV9 : ∀ j, j ≤ n + 2 → V j ≤ 9) (hk : ∀ M2, SH M2 → (∀ j, j ≤ n + 2 → iV M2 144 j = Int32.ofNat (upb T q b V (T 3 q 0 + 1) j)) → Fr p45 A M2 → sm_w 202 (231, [some (.ref 116), some (.int (Int32.ofNat n)), some (.int (Int32.ofNat q)), some (.int (Int32.ofNat (T 3 q 0))), some (.int (Int32.ofNat (b + 1))), none, none], []) M2 (rV Q)) : ∀ (d i : Nat), T 3 q 0 + 1 - i = d → i ≤ T 3 q 0 + 1 → ∀ M, SH M → (∀ j, j ≤ n + 2 → iV M 144 j = Int32.ofNat (upb T q b V i j)) → Fr p45 A M → sm_w 202 (307, [some (.ref 116), some (.int (Int32.ofNat n)), some (.int (Int32.ofNat q)), some (.int (Int32.ofNat (T 3 q 0))), some (.int (Int32.ofNat b)), none, some (.int (Int32.ofNat i))], []) M (rV Q) := by
  have hE := hw.1
  obtain ⟨⟨w1, w2⟩, w3, w4, w5, w6⟩ := hw.2.1 q hq
  intro d
  induction d with
  | zero =>
    intro i hd hi M hS hI hf
    have e : i = T 3 q 0 + 1 := by omega
    subst e
    refine g202_9 hS ⟨fun _ => ?_, fun c => absurd ((o_lt (by omega) (by omega)).mpr (by omega)) c⟩
    rw [o_s]
    exact hk M hS hI hf
  | succ d ih =>
    intro i hd hi M hS hI hf
    refine g202_9 hS ⟨fun c => absurd ((o_lt (by omega) (by omega)).mp c) (by omega), fun _ => ?_⟩
    obtain ⟨_, b2, _⟩ := (hA.fr hf).1
    obtain ⟨c1, c2, c3⟩ := b2 q hq
    have c4 := w4 i (by omega)
    have v9 := hV9 (b + i) (by omega)
    have eu : upb T q b V i (b + i) = V (b + i) := if_neg (by omega)
    rw [show (17 : Int32) * Int32.ofNat q + Int32.ofNat i = Int32.ofNat (17 * q + i) from by rw [show (17 : Int32) = Int32.ofNat 17 from rfl, ← Int32.ofNat_mul, ← Int32.ofNat_add], show Int32.ofNat b + Int32.ofNat i = Int32.ofNat (b + i) from (Int32.ofNat_add _ _).symm, o_cl (n := 17 * q + i) (by omega), o_cl (n := b + i) (by omega), c3 i (by omega), hI (b + i) (by omega), eu, o_le (by omega) (by omega), o_s]
    refine ⟨(o_in (by omega)).mpr (by omega), (o_in (by omega)).mpr (by omega), fun c => ?_, fun c => ⟨(o_in (by omega)).mpr (by omega), (o_in (by omega)).mpr (by omega), fun M5 s5 e5 => ?_⟩⟩
    · refine ih (i + 1) (by omega) (by omega) M hS (fun j hj => ?_) hf
      rw [hI j hj]
      congr 1
      unfold upb
      by_cases z : b ≤ j ∧ j < b + i ∧ V j < T 2 q (j - b)
      · rw [if_pos z, if_pos ⟨z.1, by omega, z.2.2⟩]
      · rw [if_neg z, if_neg]
        intro y
        rcases Nat.lt_or_ge j (b + i) with y2 | y2
        · exact z ⟨y.1, y2, y.2.2⟩
        · have ej : j = b + i := by omega
          have y3 := y.2.2
          rw [ej, show b + i - b = i from by omega] at y3
          omega
    · refine ih (i + 1) (by omega) (by omega) M5 s5 (fun j hj => ?_) (by rw [e5]; exact hf.wI (Or.inl rfl))
      rw [e5, iV_wI]
      by_cases ej : j = b + i
      · subst ej
        rw [if_pos ⟨rfl, rfl⟩]
        unfold upb
        rw [show b + i - b = i from by omega, if_pos ⟨by omega, by omega, by omega⟩]
      · rw [if_neg (by omega), hI j hj]
        congr 1
        unfold upb
        by_cases z : b ≤ j ∧ j < b + i ∧ V j < T 2 q (j - b)
        · rw [if_pos z, if_pos ⟨z.1, by omega, z.2.2⟩]
        · rw [if_neg z, if_neg (fun y => z ⟨y.1, by omega, y.2.2⟩)]
theorem s202_8 {q b : Nat} {Q : sm_M → Prop} (hw : wT T) (hn : n ≤ 4000) (hL : ∀ i, i < n → lt (L i) = true) (hA : mB A T n L) (hq : q < T 0 0 0) (hb : b + T 3 q 0 ≤ n + 2) (hk : ∀ M2, SH M2 → lvM M2 n T (Sy T n L q (b + 1)) → Fr p45 A M2 → sm_w 202 (231, [some (.ref 116), some (.int (Int32.ofNat n)), some (.int (Int32.ofNat q)), some (.int (Int32.ofNat (T 3 q 0))), some (.int (Int32.ofNat (b + 1))), none, none], []) M2 (rV Q)) : ∀ (d i : Nat), T 3 q 0 - i = d → i ≤ T 3 q 0 → ∀ M, SH M → lvM M n T (Sy T n L q b) → Fr p45 A M → ∀ v : Int32, ((v = 1 ∧ ∀ j, j < i → T 1 q j = rwd n L (b + j)) ∨ (v = 0 ∧ ¬ ∀ j, j < T 3 q 0 → T 1 q j = rwd n L (b + j))) → sm_w 202 (247, [some (.ref 116), some (.int (Int32.ofNat n)), some (.int (Int32.ofNat q)), some (.int (Int32.ofNat (T 3 q 0))), some (.int (Int32.ofNat b)), some (.int (v)), some (.int (Int32.ofNat i))], []) M (rV Q) := by
  have hE := hw.1
  obtain ⟨⟨w1, w2⟩, w3, w4, w5, w6⟩ := hw.2.1 q hq
  have no : ∀ M, SH M → lvM M n T (Sy T n L q b) → Fr p45 A M → (¬ ∀ j, j < T 3 q 0 → T 1 q j = rwd n L (b + j)) → sm_w 202 (231, [some (.ref 116), some (.int (Int32.ofNat n)), some (.int (Int32.ofNat q)), some (.int (Int32.ofNat (T 3 q 0))), some (.int (Int32.ofNat b + 1)), none, none], []) M (rV Q) := fun M hS hV hf hno => by
    rw [o_s]
    refine hk M hS (hV.c fun p a hp => ?_) hf
    constructor
    · intro z; exact ⟨z.1, by have := z.2; omega⟩
    · intro z
      refine ⟨z.1, ?_⟩
      rcases z.2 with y | ⟨y1, y2⟩
      · exact Or.inl y
      · right
        refine ⟨y1, ?_⟩
        rcases Nat.lt_or_ge a b with u | u
        · exact u
        · have ea : a = b := by omega
          have z1 := z.1.2
          rw [y1, ea] at z1
          exact absurd z1 hno
  have yes : ∀ M, SH M → lvM M n T (Sy T n L q b) → Fr p45 A M → (∀ j, j < T 3 q 0 → T 1 q j = rwd n L (b + j)) → sm_w 202 (307, [some (.ref 116), some (.int (Int32.ofNat n)), some (.int (Int32.ofNat q)), some (.int (Int32.ofNat (T 3 q 0))), some (.int (Int32.ofNat b)), none, some (.int ((0 : Int32)))], []) M (rV Q) := fun M hS hV hf hy => by
    obtain ⟨V, hVV⟩ := hV
    refine s202_9 (V := V) hw hn hA hq hb (fun j hj => isL_9 hw (hVV j hj).2) (fun M2 s2 h2 f2 => hk M2 s2 ⟨fun j => upb T q b V (T 3 q 0 + 1) j, fun j hj => ⟨h2 j hj, ?_⟩⟩ f2) _ 0 rfl (by omega) M hS (fun j hj => ?_) hf
    · have h3 := isL_s (b := b) (hVV j hj).2 hq
      have e3 : (if b ≤ j ∧ j ≤ b + T 3 q 0 ∧ V j < T 2 q (j - b) then T 2 q (j - b) else V j) = upb T q b V (T 3 q 0 + 1) j := by
        unfold upb
        by_cases z : b ≤ j ∧ j ≤ b + T 3 q 0 ∧ V j < T 2 q (j - b)
        · rw [if_pos z, if_pos ⟨z.1, by omega, z.2.2⟩]
        · rw [if_neg z, if_neg (fun y => z ⟨y.1, by omega, y.2.2⟩)]
      rw [e3] at h3
      refine isL_c h3 fun p a hp => ?_
      constructor
      · rintro (z | ⟨z1, z2⟩)
        · exact ⟨z.1, by have := z.2; omega⟩
        · subst z1 z2
          exact ⟨⟨hb, hy⟩, by omega⟩
      · intro z
        by_cases e : p = q ∧ a = b
        · exact Or.inr e
        · exact Or.inl ⟨z.1, by have := z.2; omega⟩
    · rw [(hVV j hj).1]
      unfold upb
      rw [if_neg (by omega)]
  intro d
  induction d with
  | zero =>
    intro i hd hi M hS hV hf v hv
    have e : i = T 3 q 0 := by omega
    subst e
    refine g202_8 hS ⟨fun _ => ⟨fun c => ?_, fun c => ?_⟩, fun c => absurd ((o_le (by omega) (by omega)).mpr (Nat.le_refl _)) c⟩
    · rcases hv with z | z
      · rw [z.1] at c; exact absurd c (by decide)
      · exact no M hS hV hf z.2
    · rcases hv with z | z
      · exact yes M hS hV hf z.2
      · exact absurd z.1 c
  | succ d ih =>
    intro i hd hi M hS hV hf v hv
    refine g202_8 hS ⟨fun c => absurd ((o_le (by omega) (by omega)).mp c) (by omega), fun _ => ⟨fun c => ⟨fun _ => ?_, fun c2 => absurd c c2⟩, fun c => ?_⟩⟩
    · rcases hv with z | z
      · rw [z.1] at c; exact absurd c (by decide)
      · exact no M hS hV hf z.2
    · have hv : ∀ j, j < i → T 1 q j = rwd n L (b + j) := by
        rcases hv with z | z
        · exact z.2
        · exact absurd z.1 c
      obtain ⟨⟨_, b2, _⟩, b3⟩ := hA.fr hf
      obtain ⟨c1, c2, c3⟩ := b2 q hq
      have w3i := w3 i (by omega)
      have hr : rwd n L (b + i) < 128 := by
        unfold rwd
        split
        · omega
        · exact (lt_sm (hL _ (by omega))).1
      rw [show (16 : Int32) * Int32.ofNat q + Int32.ofNat i = Int32.ofNat (16 * q + i) from by rw [show (16 : Int32) = Int32.ofNat 16 from rfl, ← Int32.ofNat_mul, ← Int32.ofNat_add], show Int32.ofNat b + Int32.ofNat i = Int32.ofNat (b + i) from (Int32.ofNat_add _ _).symm, o_cl (n := 16 * q + i) (by omega), o_cl (n := b + i) (by omega), c2 i (by omega), b3 (b + i) (by omega), o_eq (by omega) (by omega), o_s]
      refine ⟨(o_in (by omega)).mpr (by omega), (o_in (by omega)).mpr (by omega), fun c4 => ih (i + 1) (by omega) (by omega) M hS hV hf 1 (Or.inl ⟨rfl, fun j hj => ?_⟩), fun c4 => ih (i + 1) (by omega) (by omega) M hS hV hf 0 (Or.inr ⟨rfl, fun z => c4 (z i (by omega))⟩)⟩
      by_cases ej : j = i
      · rw [ej]; exact c4
      · exact hv j (by omega)
theorem s202_7 {q : Nat} {Q : sm_M → Prop} (hw : wT T) (hn : n ≤ 4000) (hL : ∀ i, i < n → lt (L i) = true) (hA : mB A T n L) (hq : q < T 0 0 0) (hk : ∀ M2, SH M2 → lvM M2 n T (Sy T n L (q + 1) 0) → Fr p45 A M2 → sm_w 202 (213, [some (.ref 116), some (.int (Int32.ofNat n)), some (.int (Int32.ofNat (q + 1))), none, none, none, none], []) M2 (rV Q)) : ∀ (d b : Nat), n + 3 - b = d → b ≤ n + 3 → ∀ M, SH M → lvM M n T (Sy T n L q b) → Fr p45 A M → sm_w 202 (231, [some (.ref 116), some (.int (Int32.ofNat n)), some (.int (Int32.ofNat q)), some (.int (Int32.ofNat (T 3 q 0))), some (.int (Int32.ofNat b)), none, none], []) M (rV Q) := by
  have hE := hw.1
  obtain ⟨⟨w1, w2⟩, w3, w4, w5, w6⟩ := hw.2.1 q hq
  have fin : ∀ b M, ¬ b + T 3 q 0 ≤ n + 2 → SH M → lvM M n T (Sy T n L q b) → Fr p45 A M → sm_w 202 (213, [some (.ref 116), some (.int (Int32.ofNat n)), some (.int (Int32.ofNat q + 1)), none, none, none, none], []) M (rV Q) := fun b M hb hS hV hf => by
    rw [o_s]
    refine hk M hS (hV.c fun p a hp => ?_) hf
    constructor
    · intro z; exact ⟨z.1, by have := z.2; omega⟩
    · intro z
      refine ⟨z.1, ?_⟩
      rcases z.2 with y | y
      · rcases Nat.lt_or_ge p q with u | u
        · exact Or.inl u
        · right
          have ep : p = q := by omega
          have z1 := z.1.1
          rw [ep] at z1
          exact ⟨ep, by omega⟩
      · omega
  intro d
  induction d with
  | zero =>
    intro b hd hb M hS hV hf
    refine g202_7 hS ?_
    rw [show Int32.ofNat n + 2 = Int32.ofNat (n + 2) from (Int32.ofNat_add _ _).symm, show Int32.ofNat b + Int32.ofNat (T 3 q 0) = Int32.ofNat (b + T 3 q 0) from (Int32.ofNat_add _ _).symm, o_lt (by omega) (by omega)]
    exact ⟨fun c => fin b M (by omega) hS hV hf, fun c => by omega⟩
  | succ d ih =>
    intro b hd hb M hS hV hf
    refine g202_7 hS ?_
    rw [show Int32.ofNat n + 2 = Int32.ofNat (n + 2) from (Int32.ofNat_add _ _).symm, show Int32.ofNat b + Int32.ofNat (T 3 q 0) = Int32.ofNat (b + T 3 q 0) from (Int32.ofNat_add _ _).symm, o_lt (by omega) (by omega)]
    refine ⟨fun c => fin b M (by omega) hS hV hf, fun c => ?_⟩
    exact s202_8 hw hn hL hA hq (by omega) (fun M2 s2 v2 f2 => ih (b + 1) (by omega) (by omega) M2 s2 v2 f2) _ 0 rfl (by omega) M hS hV hf 1 (Or.inl ⟨rfl, fun j hj => by omega⟩)
theorem s202_6 (hw : wT T) (hn : n ≤ 4000) (h1 : 1 ≤ n) (hL : ∀ i, i < n → lt (L i) = true) (hA : mB A T n L) (hex : ¬ exq T n L < T 0 0 1) : ∀ (d q : Nat), T 0 0 0 - q = d → q ≤ T 0 0 0 → ∀ M, SH M → lvM M n T (Sy T n L q 0) → Fr p45 A M → sm_w 202 (213, [some (.ref 116), some (.int (Int32.ofNat n)), some (.int (Int32.ofNat q)), none, none, none, none], []) M (rV (Q202 A T n L)) := by
  have hE := hw.1
  intro d
  induction d with
  | zero =>
    intro q hd hq M hS hV hf
    have e : q = T 0 0 0 := by omega
    subst e
    obtain ⟨⟨⟨b1, _⟩, b2, _⟩, b3⟩ := hA.fr hf
    refine g202_6 hS ?_
    rw [b1]
    refine ⟨fun _ => s202_10 hw hn hA hex _ 1 rfl (by omega) h1 M hS (hV.c fun p a hp => ⟨fun z => z.1, fun z => ⟨z, by omega⟩⟩) (fun j j1 j2 => by omega) hf, fun c => absurd ((o_le (by omega) (by omega)).mpr (Nat.le_refl _)) c⟩
  | succ d ih =>
    intro q hd hq M hS hV hf
    obtain ⟨⟨⟨b1, _⟩, b2, _⟩, b3⟩ := hA.fr hf
    refine g202_6 hS ?_
    rw [b1, o_cl (n := q) (by omega), (b2 q (by omega)).1]
    exact ⟨fun c => absurd ((o_le (by omega) (by omega)).mp c) (by omega), fun _ => ⟨(o_in (by omega)).mpr (by omega), s202_7 hw hn hL hA (by omega) (fun M2 s2 v2 f2 => ih (q + 1) (by omega) (by omega) M2 s2 v2 f2) _ 0 rfl (by omega) M hS hV hf⟩⟩
theorem s202_5 (hw : wT T) (hn : n ≤ 4000) (h1 : 1 ≤ n) (hL : ∀ i, i < n → lt (L i) = true) (hA : mB A T n L) (hex : ¬ exq T n L < T 0 0 1) : ∀ (d k : Nat), n + 3 - k = d → k ≤ n + 3 → ∀ M, SH M → (∀ j, j < k → iV M 144 j = 0) → Fr p45 A M → sm_w 202 (191, [some (.ref 116), some (.int (Int32.ofNat n)), some (.int (Int32.ofNat k)), none, none, none, none], []) M (rV (Q202 A T n L)) := by
  have hE := hw.1
  intro d
  induction d with
  | zero =>
    intro k hd hk M hS hI hf
    have e : k = n + 3 := by omega
    subst e
    refine g202_5 hS ?_
    rw [show Int32.ofNat n + 2 = Int32.ofNat (n + 2) from (Int32.ofNat_add _ _).symm, o_lt (by omega) (by omega)]
    refine ⟨fun _ => s202_6 hw hn h1 hL hA hex _ 0 rfl (by omega) M hS ⟨fun _ => 0, fun j hj => ⟨hI j (by omega), isL_0 fun p a hp z => ?_⟩⟩ hf, fun c => by omega⟩
    have := z.2
    omega
  | succ d ih =>
    intro k hd hk M hS hI hf
    refine g202_5 hS ?_
    rw [show Int32.ofNat n + 2 = Int32.ofNat (n + 2) from (Int32.ofNat_add _ _).symm, o_lt (by omega) (by omega), o_cl (by omega), o_s]
    refine ⟨fun c => by omega, fun c => ⟨(o_in (by omega)).mpr (by omega), fun M2 s2 e2 => ih (k + 1) (by omega) (by omega) M2 s2 (fun j hj => ?_) (by rw [e2]; exact hf.wI (Or.inl rfl))⟩⟩
    rw [e2, iV_wI]
    by_cases ej : j = k
    · rw [if_pos ⟨rfl, ej⟩]
    · rw [if_neg (by omega)]; exact hI j (by omega)
theorem s202_4 (hw : wT T) (hn : n ≤ 4000) (hA : mB A T n L) (hex : exq T n L < T 0 0 1) : ∀ (d k : Nat), n - k = d → k ≤ n → ∀ M, SH M → (∀ j, j < k → okP M T n L j) → Fr p45 A M → sm_w 202 (123, [some (.ref 116), some (.int (Int32.ofNat n)), some (.int (Int32.ofNat (exq T n L))), none, some (.int (Int32.ofNat k)), none, none], []) M (rV (Q202 A T n L)) := by
  have hE := hw.1
  obtain ⟨m1, m2⟩ := exq_is hex
  intro d
  induction d with
  | zero =>
    intro k hd hk M hS hp hf
    have e : k = n := by omega
    subst e
    exact g202_4 hS ⟨fun _ => ⟨fun j j1 j2 => hp j j2, hf⟩, fun c => absurd ((o_le (by omega) (by omega)).mpr (Nat.le_refl _)) c⟩
  | succ d ih =>
    intro k hd hk M hS hp hf
    obtain ⟨⟨⟨b1, b2, b3, b4⟩, _, b5⟩, b6⟩ := hA.fr hf
    obtain ⟨c1, c2⟩ := b5 _ hex
    have c3 := (c2 k (by omega)).2
    have hpl : plc T n L k ↔ T 0 0 2 ≤ k ∧ k + T 0 0 3 ≤ n ∧ T 5 (exq T n L) k = 1 := by
      unfold plc
      constructor
      · rintro ⟨y1, y2, z | z⟩
        · exact ⟨y1, y2, z.2⟩
        · exact absurd hex z.1
      · rintro ⟨y1, y2, z⟩
        exact ⟨y1, y2, Or.inl ⟨hex, z⟩⟩
    refine g202_4 hS ⟨fun c => absurd ((o_le (by omega) (by omega)).mp c) (by omega), fun _ => ?_⟩
    rw [show (32 : Int32) * Int32.ofNat (exq T n L) + Int32.ofNat k = Int32.ofNat (32 * exq T n L + k) from by rw [show (32 : Int32) = Int32.ofNat 32 from rfl, ← Int32.ofNat_mul, ← Int32.ofNat_add], o_cl (n := 32 * exq T n L + k) (by have := hw.2.2 _ hex; omega), c3, b3, b4, o_cl (n := k) (by omega), o_s]
    have go : ∀ M3 x, SH M3 → M3 = sm_wI M 145 k x → ((plc T n L k → x = 1) ∧ (¬ plc T n L k → x = 0)) → sm_w 202 (123, [some (.ref 116), some (.int (Int32.ofNat n)), some (.int (Int32.ofNat (exq T n L))), none, some (.int (Int32.ofNat (k + 1))), none, none], []) M3 (rV (Q202 A T n L)) := fun M3 x s3 e3 hx => by
      refine ih (k + 1) (by omega) (by omega) M3 s3 (fun j j2 => ?_) (by rw [e3]; exact hf.wI (Or.inr rfl))
      by_cases ej : j = k
      · subst ej
        rw [e3]
        exact ⟨fun z => by rw [iV_wI, if_pos ⟨rfl, rfl⟩]; exact hx.1 z, fun z => by rw [iV_wI, if_pos ⟨rfl, rfl⟩]; exact hx.2 z⟩
      · rw [e3]; exact (hp j (by omega)).wI ej
    have oi : vp_in (Int32.ofNat k) 4100 := (o_in (by omega)).mpr (by omega)
    refine ⟨(o_in (by have := hw.2.2 _ hex; omega)).mpr (by have := hw.2.2 _ hex; omega), fun c1 => ⟨oi, fun M3 s3 e3 => go M3 _ s3 e3 ⟨fun z => absurd (hpl.mp z).2.2 c1, fun _ => by decide⟩⟩, fun c1 => ?_⟩
    rw [o_lt (by omega) (by omega), ← Int32.ofNat_sub n k (by omega), o_lt (by omega) (by omega)]
    refine ⟨fun c2 => ⟨oi, fun M3 s3 e3 => go M3 _ s3 e3 ⟨fun z => absurd (hpl.mp z).1 (by omega), fun _ => by decide⟩⟩, fun c2 => ⟨fun c3 => ⟨oi, fun M3 s3 e3 => go M3 _ s3 e3 ⟨fun z => absurd (hpl.mp z).2.1 (by omega), fun _ => by decide⟩⟩, fun c3 => ⟨oi, fun M3 s3 e3 => go M3 _ s3 e3 ⟨fun _ => by decide, fun z => absurd (hpl.mpr ⟨by omega, by omega, Classical.not_not.mp c1⟩) z⟩⟩⟩⟩
theorem s202_2 (hw : wT T) (hn : n ≤ 4000) (h1 : 1 ≤ n) (hL : ∀ i, i < n → lt (L i) = true) (hA : mB A T n L) : ∀ (d e : Nat), T 0 0 1 - e = d → e ≤ T 0 0 1 → (∀ j, j < e → ¬ exm T n L j) → ∀ M, SH M → Fr p45 A M → sm_w 202 (40, [some (.ref 116), some (.int (Int32.ofNat n)), some (.int (Int32.ofNat e)), none, none, none, none], []) M (rV (Q202 A T n L)) := by
  have hE := hw.1
  intro d
  induction d with
  | zero =>
    intro e hd he hno M hS hf
    have ee : e = T 0 0 1 := by omega
    subst ee
    obtain ⟨⟨⟨b1, b2, b3, b4⟩, _, b5⟩, b6⟩ := hA.fr hf
    refine g202_2 hS ?_
    rw [b2]
    have hex := exq_n hno
    exact ⟨fun _ => s202_5 hw hn h1 hL hA (by omega) _ 0 rfl (by omega) M hS (fun j hj => by omega) hf, fun c => absurd ((o_le (by omega) (by omega)).mpr (Nat.le_refl _)) c⟩
  | succ d ih =>
    intro e hd he hno M hS hf
    obtain ⟨⟨⟨b1, b2, b3, b4⟩, _, b5⟩, b6⟩ := hA.fr hf
    obtain ⟨c1, c2⟩ := b5 e (by omega)
    obtain ⟨w1, w2, w3⟩ := hw.2.2 e (by omega)
    have no : ¬ exm T n L e → sm_w 202 (40, [some (.ref 116), some (.int (Int32.ofNat n)), some (.int (Int32.ofNat (e + 1))), none, none, none, none], []) M (rV (Q202 A T n L)) := fun hne => ih (e + 1) (by omega) (by omega) (fun j hj => by
      by_cases ej : j = e
      · rw [ej]; exact hne
      · exact hno j (by omega)) M hS hf
    have yes : exm T n L e → sm_w 202 (123, [some (.ref 116), some (.int (Int32.ofNat n)), some (.int (Int32.ofNat e)), none, some (.int ((0 : Int32))), none, none], []) M (rV (Q202 A T n L)) := fun hy => by
      have hex := exq_u hno (by omega) hy
      have h4 := s202_4 hw hn hA (by omega) _ 0 rfl (by omega) M hS (fun j hj => by omega) hf
      rw [hex] at h4
      exact h4
    have inner : T 6 e 0 = n → ∀ (d i : Nat), n - i = d → i ≤ n → ∀ v : Int32, ((v = 1 ∧ ∀ j, j < i → T 4 e j = sml (L j)) ∨ (v = 0 ∧ ¬ exm T n L e)) → sm_w 202 (67, [some (.ref 116), some (.int (Int32.ofNat n)), some (.int (Int32.ofNat e)), some (.int (v)), some (.int (Int32.ofNat i)), none, none], []) M (rV (Q202 A T n L)) := by
      intro hen d
      induction d with
      | zero =>
        intro i hd hi v hv
        have ei : i = n := by omega
        subst ei
        refine g202_3 hS ?_
        rw [o_s]
        refine ⟨fun _ => ⟨fun c => ?_, fun c => ?_⟩, fun c => absurd ((o_le (by omega) (by omega)).mpr (Nat.le_refl _)) c⟩
        · rcases hv with z | z
          · rw [z.1] at c; exact absurd c (by decide)
          · exact no z.2
        · rcases hv with z | z
          · exact yes ⟨hen, z.2⟩
          · exact absurd z.1 c
      | succ d ih2 =>
        intro i hd hi v hv
        refine g202_3 hS ?_
        rw [o_s, o_s i]
        refine ⟨fun c => absurd ((o_le (by omega) (by omega)).mp c) (by omega), fun _ => ⟨fun c => ⟨fun _ => ?_, fun c2 => absurd c c2⟩, fun c => ?_⟩⟩
        · rcases hv with z | z
          · rw [z.1] at c; exact absurd c (by decide)
          · exact no z.2
        · have hv : ∀ j, j < i → T 4 e j = sml (L j) := by
            rcases hv with z | z
            · exact z.2
            · exact absurd z.1 c
          have hs := lt_sm (hL i (by omega))
          have w4 := w2 i (by omega)
          rw [show (32 : Int32) * Int32.ofNat e + Int32.ofNat i = Int32.ofNat (32 * e + i) from by rw [show (32 : Int32) = Int32.ofNat 32 from rfl, ← Int32.ofNat_mul, ← Int32.ofNat_add], o_cl (n := 32 * e + i) (by omega), (c2 i (by omega)).1, o_cl (n := i + 1) (by omega), b6 (i + 1) (by omega), show rwd n L (i + 1) = sml (L i) from if_neg (by omega), o_eq (by omega) (by omega)]
          refine ⟨(o_in (by omega)).mpr (by omega), (o_in (by omega)).mpr (by omega), fun c4 => ih2 (i + 1) (by omega) (by omega) 1 (Or.inl ⟨rfl, fun j hj => ?_⟩), fun c4 => ih2 (i + 1) (by omega) (by omega) 0 (Or.inr ⟨rfl, fun z => c4 (z.2 i (by omega))⟩)⟩
          by_cases ej : j = i
          · rw [ej]; exact c4
          · exact hv j (by omega)
    refine g202_2 hS ?_
    rw [b2, o_cl (n := e) (by omega), c1, o_eq (by omega) (by omega)]
    refine ⟨fun c => absurd ((o_le (by omega) (by omega)).mp c) (by omega), fun _ => ⟨(o_in (by omega)).mpr (by omega), fun c => inner c _ 0 rfl (by omega) 1 (Or.inl ⟨rfl, fun j hj => by omega⟩), fun c => ?_⟩⟩
    refine g202_3 hS ?_
    rw [o_s]
    exact ⟨fun z => absurd ((o_le (m := 0) (by omega) (by omega)).mp z) (by omega), fun _ => ⟨fun _ => ⟨fun _ => no fun z => c z.1, fun z => absurd rfl z⟩, fun z => absurd rfl z⟩⟩
theorem s202_1 (hw : wT T) (hn : n ≤ 4000) (h1 : 1 ≤ n) (hL : ∀ i, i < n → lt (L i) = true) (hA : mB A T n L) : ∀ (d k : Nat), n + 1 - k = d → k ≤ n + 1 → ∀ M, SH M → Fr p45 A M → sm_w 202 (20, [some (.ref 116), some (.int (Int32.ofNat n)), some (.int (Int32.ofNat k)), none, none, none, none], []) M (rV (Q202 A T n L)) := by
  intro d
  induction d with
  | zero =>
    intro k hd hk M hS hf
    have e : k = n + 1 := by omega
    subst e
    exact g202_1 hS ⟨fun _ => s202_2 hw hn h1 hL hA _ 0 rfl (by omega) (fun j hj => by omega) M hS hf, fun c => absurd ((o_lt (by omega) (by omega)).mpr (by omega)) c⟩
  | succ d ih =>
    intro k hd hk M hS hf
    refine g202_1 hS ⟨fun c => absurd ((o_lt (by omega) (by omega)).mp c) (by omega), fun _ => ⟨(o_in (by omega)).mpr (by omega), fun M2 s2 e2 => ?_⟩⟩
    rw [o_s]
    exact ih (k + 1) (by omega) (by omega) M2 s2 (by rw [e2]; exact hf.wI (Or.inr rfl))
def p202 : Nat → Nat → Prop := fun a _ => a = 143 ∨ a = 144 ∨ a = 145
theorem s202 {M : sm_M} (hS : SH M) (hw : wT T) (hn : n ≤ 4000) (h1 : 1 ≤ n) (hL : ∀ i, i < n → lt (L i) = true) (hT : mTb M T) (hR : ∀ i, i < n → iV M 143 (i + 1) = Int32.ofNat (sml (L i))) : sm_cV 202 [.ref 116, .int (Int32.ofNat n)] M (fun M2 => (∀ j, 1 ≤ j → j < n → okP M2 T n L j) ∧ Fr p202 M M2) := by
  refine g202_0 hS ⟨(o_in (n := 0) (by omega)).mpr (by omega), fun M2 s2 e2 => ?_⟩
  rw [o_s, o_cl (by omega)]
  refine ⟨(o_in (by omega)).mpr (by omega), fun M5 s5 e5 => ?_⟩
  have f5 : Fr p202 M M5 := by rw [e5, e2]; exact ((Fr.rf _ _).wI (Or.inl rfl)).wI (Or.inl rfl)
  have i5 : ∀ a k, ¬ a = 143 → iV M5 a k = iV M a k := fun a k z => by rw [e5, iV_wI, if_neg (fun y => z y.1), e2, iV_wI, if_neg (fun y => z y.1)]
  have hB : mB M5 T n L := by
    refine ⟨hT.eq ⟨i5 _ _ (by omega), i5 _ _ (by omega), i5 _ _ (by omega), i5 _ _ (by omega)⟩ fun a k z1 z2 => i5 a k (by omega), fun j hj => ?_⟩
    rw [e5, iV_wI]
    unfold rwd
    by_cases c : j = n + 1
    · rw [if_pos ⟨rfl, c⟩, if_pos (Or.inr c)]
      rfl
    · rw [if_neg (fun y => c y.2), e2, iV_wI]
      by_cases c0 : j = 0
      · rw [if_pos ⟨rfl, c0⟩, if_pos (Or.inl c0)]
        rfl
      · rw [if_neg (fun y => c0 y.2), if_neg (by omega)]
        have := hR (j - 1) (by omega)
        rw [show j - 1 + 1 = j from by omega] at this
        exact this
  refine (s202_1 (A := M5) hw hn h1 hL hB _ 0 rfl (by omega) M5 s5 (Fr.rf _ _)).mono fun o M3 q => ⟨q.1, q.2.1, f5.tr (q.2.2.mono fun a k z => Or.inr z)⟩
end MPL
