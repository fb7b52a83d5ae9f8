/-! SCANS, AND THE PARAGRAPH. -/
def fsF (p : Nat → Bool) : Nat → Nat → Nat
  | 0, i => i
  | f + 1, i => if p i = true then i else fsF p f (i + 1)
/-- the first place from i on, ahead of n, where p holds; n if there is none -/
def fs (p : Nat → Bool) (n i : Nat) : Nat := fsF p (n - i) i
theorem fs_t {p : Nat → Bool} {n i : Nat} (h : i < n) (hp : p i = true) : fs p n i = i := by
  unfold fs
  obtain ⟨f, hf⟩ : ∃ f, n - i = f + 1 := ⟨n - i - 1, by omega⟩
  rw [hf]
  unfold fsF
  rw [if_pos hp]
theorem fs_f {p : Nat → Bool} {n i : Nat} (h : i < n) (hp : ¬ p i = true) : fs p n i = fs p n (i + 1) := by
  unfold fs
  obtain ⟨f, hf⟩ : ∃ f, n - i = f + 1 := ⟨n - i - 1, by omega⟩
  rw [hf, show n - (i + 1) = f from by omega]
  conv => lhs; unfold fsF
  rw [if_neg hp]
theorem fs_e {p : Nat → Bool} {n i : Nat} (h : n ≤ i) : fs p n i = i := by
  unfold fs
  rw [show n - i = 0 from by omega]
  rfl
theorem fs_s {p : Nat → Bool} {n : Nat} : ∀ (d i : Nat), n - i = d → i ≤ n → i ≤ fs p n i ∧ fs p n i ≤ n ∧ (∀ k, i ≤ k → k < fs p n i → ¬ p k = true) ∧ (fs p n i < n → p (fs p n i) = true)
  | 0, i, hd, hi => by
    rw [fs_e (show n ≤ i from by omega)]
    exact ⟨Nat.le_refl _, hi, fun k h1 h2 => by omega, fun h => by omega⟩
  | d + 1, i, hd, hi => by
    by_cases hp : p i = true
    · rw [fs_t (by omega) hp]
      exact ⟨Nat.le_refl _, hi, fun k h1 h2 => by omega, fun _ => hp⟩
    · rw [fs_f (by omega) hp]
      obtain ⟨h1, h2, h3, h4⟩ := fs_s (p := p) (n := n) d (i + 1) (by omega) (by omega)
      refine ⟨by omega, h2, fun k k1 k2 => ?_, h4⟩
      rcases Nat.lt_or_ge i k with z | z
      · exact h3 k (by omega) k2
      · rw [show k = i from by omega]; exact hp
theorem fs_le {p : Nat → Bool} {n i : Nat} (h : i ≤ n) : fs p n i ≤ n := (fs_s (n - i) i rfl h).2.1
theorem fs_ge {p : Nat → Bool} {n i : Nat} (h : i ≤ n) : i ≤ fs p n i := (fs_s (n - i) i rfl h).1
theorem fs_no {p : Nat → Bool} {n i k : Nat} (h : i ≤ n) (h1 : i ≤ k) (h2 : k < fs p n i) : ¬ p k = true := (fs_s (n - i) i rfl h).2.2.1 k h1 h2
theorem fs_is {p : Nat → Bool} {n i : Nat} (h : i ≤ n) (h2 : fs p n i < n) : p (fs p n i) = true := (fs_s (n - i) i rfl h).2.2.2 h2
/-- blanks -/
def bk (b : Nat) : Bool := b == 10 || b == 32
theorem p31_sb (M : sm_M) {n : Nat} (h : n < 256) : p31_0 M (sb n) = if bk n = true then 1 else 0 := by
  unfold p31_0
  exact (show ∀ n, n < 256 → (if sb n = (10 : Int32) then (1 : Int32) else if sb n = (32 : Int32) then (1 : Int32) else (0 : Int32)) = if bk n = true then 1 else 0 from by decide +kernel) n h
theorem p31_of (M : sm_M) {n : Nat} (h : n < 256) : p31_0 M (Int32.ofNat n) = if bk n = true then 1 else 0 := by
  unfold p31_0
  exact (show ∀ n, n < 256 → (if Int32.ofNat n = (10 : Int32) then (1 : Int32) else if Int32.ofNat n = (32 : Int32) then (1 : Int32) else (0 : Int32)) = if bk n = true then 1 else 0 from by decide +kernel) n h
theorem p172_of (M : sm_M) {n : Nat} (h : n < 256) : p172_0 M (Int32.ofNat n) = if bk n = true then 1 else 0 := p31_of M h
/-- what no paragraph has -/
def wq (b : Nat) : Bool := !(bk b) && (b < 33 || 126 < b)
theorem sb_wq {n : Nat} (h : n < 256) (hb : bk n = false) : (sb n < 32 → wq n = true) ∧ (¬ sb n < 32 → sb n ≤ 126 → wq n = false) ∧ (¬ sb n ≤ 126 → wq n = true) := (show ∀ n, n < 256 → bk n = false → (sb n < 32 → wq n = true) ∧ (¬ sb n < 32 → sb n ≤ 126 → wq n = false) ∧ (¬ sb n ≤ 126 → wq n = true) from by decide +kernel) n h hb
theorem s80_1 {M : sm_M} {tb : Nat → Nat} {tn : Nat} (hS : SH M) (hn : tn ≤ 8192) (hT : ∀ i, i < tn → tb i < 256 ∧ iV M 25 i = sb (tb i)) : ∀ (d i : Nat), tn - i = d → i ≤ tn → sm_w 80 (2, [some (.ref 25), some (.int (Int32.ofNat tn)), some (.int (Int32.ofNat i))], []) M (rI (fun v M2 => v = (if fs (fun i => wq (tb i)) tn i < tn then Int32.ofNat (fs (fun i => wq (tb i)) tn i) else -1) ∧ M2 = M)) := by
  intro d
  induction d with
  | zero =>
    intro i hd hi
    refine g80_1 hS a_25 ⟨fun _ => ⟨?_, rfl⟩, fun c => ?_⟩
    · rw [fs_e (by omega), if_neg (by omega)]
    · rw [o_le (by omega) (by omega)] at c
      omega
  | succ d ih =>
    intro i hd hi
    obtain ⟨hb, hv⟩ := hT i (by omega)
    refine g80_1 hS a_25 ⟨fun c => ?_, fun _ => ⟨fun c => ?_, fun _ => ⟨(o_in (by omega)).mpr (by omega), ?_⟩⟩⟩
    · rw [o_le (by omega) (by omega)] at c
      omega
    · rw [o_le (by omega) (by omega)] at c
      omega
    rw [o_cl (by omega), hv, p31_sb M hb, o_s]
    have ih := ih (i + 1) (by omega) (by omega)
    by_cases hk : bk (tb i) = true
    · rw [if_pos hk]
      refine ⟨fun c => absurd c (by decide), fun _ => ?_⟩
      rw [← fs_f (i := i) (by omega) (by unfold wq; rw [hk]; simp)] at ih
      exact ih
    · rw [if_neg hk]
      have hw := sb_wq hb (by simpa using hk)
      refine ⟨fun _ => ⟨(o_in (by omega)).mpr (by omega), fun c => ⟨?_, rfl⟩, fun c => ⟨(o_in (by omega)).mpr (by omega), fun c2 => ?_, fun c2 => ⟨?_, rfl⟩⟩⟩, fun c => absurd rfl c⟩
      · rw [fs_t (p := fun i => wq (tb i)) (by omega) (hw.1 c), if_pos (by omega)]
      · rw [← fs_f (i := i) (by omega) (by rw [hw.2.1 c c2]; simp)] at ih
        exact ih
      · rw [fs_t (p := fun i => wq (tb i)) (by omega) (hw.2.2 c2), if_pos (by omega)]
theorem s80 {M : sm_M} {tb : Nat → Nat} {tn : Nat} (hS : SH M) (hn : tn ≤ 8192) (hT : ∀ i, i < tn → tb i < 256 ∧ iV M 25 i = sb (tb i)) : sm_cI 80 [.ref 25, .int (Int32.ofNat tn)] M (fun v M2 => v = (if fs (fun i => wq (tb i)) tn 0 < tn then Int32.ofNat (fs (fun i => wq (tb i)) tn 0) else -1) ∧ M2 = M) := g80_0 hS a_25 (s80_1 hS hn hT tn 0 (by omega) (by omega))
