/-! THE REFERENCE'S SIGNS. -/
theorem fs_u {p : Nat → Bool} {n i e : Nat} (h : i ≤ e) (he : e ≤ n) (h1 : ∀ k, i ≤ k → k < e → ¬ p k = true) (h2 : e = n ∨ p e = true) : fs p n i = e := by
  have b1 := fs_ge (p := p) (n := n) (i := i) (by omega)
  have b2 := fs_le (p := p) (n := n) (i := i) (by omega)
  rcases Nat.lt_trichotomy (fs p n i) e with z | z | z
  · exact absurd (fs_is (p := p) (n := n) (i := i) (by omega) (by omega)) (h1 _ b1 z)
  · exact z
  · have := fs_no (p := p) (n := n) (i := i) (by omega) h z
    rcases h2 with y | y
    · omega
    · exact absurd y this
section MLX
variable {tb : Nat → Nat} {tn : Nat} {A : sm_M}
theorem P171 {M : sm_M} {k : Nat} (h : mR M tb tn) (hn : tn ≤ 8192) (hk : k < 2147483648) : p171_0 M (Int32.ofNat k) = (if k < tn then Int32.ofNat (tb k) else -1) ∧ q171_0 M (Int32.ofNat k) := by
  unfold p171_0 q171_0
  rw [h.1, o_cl hk]
  by_cases c : k < tn
  · have c1 : ¬ Int32.ofNat tn ≤ Int32.ofNat k := fun z => absurd ((o_le (by omega) hk).mp z) (by omega)
    rw [if_neg c1, if_pos c, h.2 k c]
    exact ⟨rfl, fun _ => trivial, fun _ => (o_in hk).mpr (by omega)⟩
  · have c1 : Int32.ofNat tn ≤ Int32.ofNat k := (o_le (by omega) hk).mpr (by omega)
    rw [if_pos c1, if_neg c]
    exact ⟨rfl, fun _ => trivial, fun z => absurd c1 z⟩
theorem P173e (M : sm_M) {k : Nat} (hB : ∀ i, i < tn → tb i < 256) : p173_0 M (if k < tn then Int32.ofNat (tb k) else -1) = 0 ↔ ¬ (k < tn ∧ sl (tb k) = true) := by
  by_cases u : k < tn
  · rw [if_pos u, P173 M (hB k u)]
    exact ⟨fun z y => z y.2, fun z y => z ⟨u, y⟩⟩
  · rw [if_neg u]
    exact ⟨fun _ y => u y.1, fun _ => by unfold p173_0; decide⟩
theorem P174e (M : sm_M) {k : Nat} (hB : ∀ i, i < tn → tb i < 256) : p174_0 M (if k < tn then Int32.ofNat (tb k) else -1) = 0 ↔ ¬ (k < tn ∧ dg (tb k) = true) := by
  by_cases u : k < tn
  · rw [if_pos u, P174 M (hB k u)]
    exact ⟨fun z y => z y.2, fun z y => z ⟨u, y⟩⟩
  · rw [if_neg u]
    exact ⟨fun _ y => u y.1, fun _ => by unfold p174_0; decide⟩
theorem P172e (M : sm_M) {k : Nat} (hB : ∀ i, i < tn → tb i < 256) : p172_0 M (if k < tn then Int32.ofNat (tb k) else -1) = 0 ↔ ¬ (k < tn ∧ bk (tb k) = true) := by
  by_cases u : k < tn
  · rw [if_pos u, p172_of M (hB k u)]
    by_cases z : bk (tb k) = true
    · rw [if_pos z]; exact ⟨fun y => absurd y (by decide), fun y => absurd ⟨u, z⟩ y⟩
    · rw [if_neg z]; exact ⟨fun _ y => z y.2, fun _ => rfl⟩
  · rw [if_neg u]
    exact ⟨fun _ y => u y.1, fun _ => by unfold p172_0; decide⟩
/-- the place behind a name, and behind a quoted row -/
def nr (tb : Nat → Nat) (tn i : Nat) : Nat := fs (fun j => !(sl (tb j) || dg (tb j))) tn i
def qr (tb : Nat → Nat) (tn i : Nat) : Nat := fs (fun j => !(decide (32 ≤ tb j) && decide (tb j ≤ 126) && !(tb j == 34))) tn i
def tk (M : sm_M) (tb : Nat → Nat) (tn i : Nat) : Prop := iV M 116 10 = Int32.ofNat (nt tb tn i) ∧ ((nt tb tn i = tn ∧ iV M 116 9 = 5) ∨ (nt tb tn i < tn ∧ sl (tb (nt tb tn i)) = true ∧ iV M 116 11 = Int32.ofNat (nr tb tn (nt tb tn i)) ∧ iV M 116 13 = -1 ∧ (nr tb tn (nt tb tn i) - nt tb tn i ≤ 12 ∧ iV M 116 9 = 1 ∨ 12 < nr tb tn (nt tb tn i) - nt tb tn i ∧ iV M 116 9 = 4)) ∨ (nt tb tn i < tn ∧ dg (tb (nt tb tn i)) = true ∧ iV M 116 11 = Int32.ofNat (dr tb tn (nt tb tn i)) ∧ iV M 116 13 = -1 ∧ (dr tb tn (nt tb tn i) - nt tb tn i ≤ 7 ∧ iV M 116 9 = 2 ∧ iV M 116 12 = Int32.ofNat (dv tb (nt tb tn i) (dr tb tn (nt tb tn i) - nt tb tn i)) ∨ 7 < dr tb tn (nt tb tn i) - nt tb tn i ∧ iV M 116 9 = 4)) ∨ (nt tb tn i < tn ∧ tb (nt tb tn i) = 34 ∧ iV M 116 13 = -1 ∧ iV M 116 11 = Int32.ofNat (qr tb tn (nt tb tn i + 1) + 1) ∧ ((qr tb tn (nt tb tn i + 1) < tn ∧ tb (qr tb tn (nt tb tn i + 1)) = 34) ∧ iV M 116 9 = 3 ∨ ¬ (qr tb tn (nt tb tn i + 1) < tn ∧ tb (qr tb tn (nt tb tn i + 1)) = 34) ∧ iV M 116 9 = 4)) ∨ (nt tb tn i < tn ∧ ¬ sl (tb (nt tb tn i)) = true ∧ ¬ dg (tb (nt tb tn i)) = true ∧ ¬ tb (nt tb tn i) = 34 ∧ iV M 116 9 = 4 ∧ iV M 116 13 = Int32.ofNat (tb (nt tb tn i)) ∧ iV M 116 11 = Int32.ofNat (nt tb tn i + 1)))
theorem tk.eq {M M2 : sm_M} {i : Nat} (h : tk M tb tn i) (e : ∀ k, 9 ≤ k → k ≤ 13 → iV M2 116 k = iV M 116 k) : tk M2 tb tn i := by
  unfold tk
  rw [e 9 (by omega) (by omega), e 10 (by omega) (by omega), e 11 (by omega) (by omega), e 12 (by omega) (by omega), e 13 (by omega) (by omega)]
  exact h
def p170 : Nat → Nat → Prop := fun a k => a = 116 ∧ 9 ≤ k ∧ k ≤ 13
def Q170 (A : sm_M) (tb : Nat → Nat) (tn i : Nat) (M2 : sm_M) : Prop := tk M2 tb tn i ∧ Fr p170 A M2
theorem s170_2 {i s : Nat} (hR : mR A tb tn) (hn : tn ≤ 8192) (hB : ∀ i, i < tn → tb i < 256) (es : nt tb tn i = s) (hs : s < tn) (hsl : sl (tb s) = true) : ∀ (d e : Nat), tn - e = d → s ≤ e → e ≤ tn → (∀ k, s ≤ k → k < e → sl (tb k) = true ∨ dg (tb k) = true) → ∀ M, SH M → iV M 116 10 = Int32.ofNat s → iV M 116 11 = Int32.ofNat e → iV M 116 13 = -1 → Fr p170 A M → sm_w 170 (76, [some (.ref 116), none], []) M (rV (Q170 A tb tn i)) := by
  intro d
  have stop : ∀ e M, SH M → s ≤ e → e ≤ tn → (∀ k, s ≤ k → k < e → sl (tb k) = true ∨ dg (tb k) = true) → ¬ (e < tn ∧ sl (tb e) = true) → ¬ (e < tn ∧ dg (tb e) = true) → iV M 116 10 = Int32.ofNat s → iV M 116 11 = Int32.ofNat e → iV M 116 13 = -1 → Fr p170 A M → sm_w 170 (76, [some (.ref 116), none], []) M (rV (Q170 A tb tn i)) := fun e M hS h1 h2 hl n1 n2 h10 h11 h13 hA => by
    have enr : nr tb tn s = e := fs_u h1 h2 (fun k k1 k2 => by rcases hl k k1 k2 with y | y <;> simp [y]) (by
      rcases Nat.lt_or_ge e tn with z | z
      · right
        have y1 : ¬ sl (tb e) = true := fun y => n1 ⟨z, y⟩
        have y2 : ¬ dg (tb e) = true := fun y => n2 ⟨z, y⟩
        simp at y1 y2
        simp [y1, y2]
      · left; omega)
    obtain ⟨a1, a2⟩ := P171 (k := e) (hR.fr hA ⟨by unfold p170; omega, fun k => by unfold p170; omega⟩) hn (by omega)
    refine g170_2 hS ?_
    rw [h11, h10, a1, P173e M hB, P174e M hB, ← Int32.ofNat_sub e s h1]
    have fin : ∀ (c9 : Int32) M3, M3 = sm_wI M 116 9 c9 → (e - s ≤ 12 ∧ c9 = 1 ∨ 12 < e - s ∧ c9 = 4) → Q170 A tb tn i M3 := fun c9 M3 e3 hc => by
      refine ⟨⟨by rw [es, e3, iV_wI, if_neg (by omega)]; exact h10, Or.inr (Or.inl ?_)⟩, by rw [e3]; exact hA.wI ⟨rfl, by omega, by omega⟩⟩
      rw [es, enr]
      refine ⟨hs, hsl, by rw [e3, iV_wI, if_neg (by omega)]; exact h11, by rw [e3, iV_wI, if_neg (by omega)]; exact h13, ?_⟩
      rw [e3, iV_wI, if_pos ⟨rfl, rfl⟩]
      exact hc
    refine ⟨a2, fun _ => ⟨a2, fun _ => ⟨fun c M3 s3 e3 => fin 1 M3 e3 (Or.inl ⟨(o_le (m := 12) (by omega) (by omega)).mp c, rfl⟩), fun c M5 s5 e5 => fin 4 M5 e5 (Or.inr ⟨?_, rfl⟩)⟩, fun c => absurd n2 c⟩, fun c => absurd n1 c⟩
    rcases Nat.lt_or_ge 12 (e - s) with z | z
    · exact z
    · exact absurd ((o_le (m := 12) (by omega) (by omega)).mpr z) c
  induction d with
  | zero =>
    intro e hd h1 h2 hl M hS h10 h11 h13 hA
    exact stop e M hS h1 h2 hl (fun z => by omega) (fun z => by omega) h10 h11 h13 hA
  | succ d ih =>
    intro e hd h1 h2 hl M hS h10 h11 h13 hA
    have go : (sl (tb e) = true ∨ dg (tb e) = true) → ∀ M7, SH M7 → M7 = sm_wI M 116 11 (Int32.ofNat e + 1) → sm_w 170 (76, [some (.ref 116), none], []) M7 (rV (Q170 A tb tn i)) := fun hsd M7 s7 e7 => by
      rw [o_s] at e7
      refine ih (e + 1) (by omega) (by omega) (by omega) (fun k k1 k2 => ?_) M7 s7 (by rw [e7, iV_wI, if_neg (by omega)]; exact h10) (by rw [e7, iV_wI, if_pos ⟨rfl, rfl⟩]) (by rw [e7, iV_wI, if_neg (by omega)]; exact h13) (by rw [e7]; exact hA.wI ⟨rfl, by omega, by omega⟩)
      by_cases ek : k = e
      · rw [ek]; exact hsd
      · exact hl k k1 (by omega)
    by_cases y1 : sl (tb e) = true
    · obtain ⟨a1, a2⟩ := P171 (k := e) (hR.fr hA ⟨by unfold p170; omega, fun k => by unfold p170; omega⟩) hn (by omega)
      refine g170_2 hS ?_
      rw [h11, h10, a1, P173e M hB, P174e M hB]
      exact ⟨a2, fun c => absurd ⟨by omega, y1⟩ c, fun _ => go (Or.inl y1)⟩
    · by_cases y2 : dg (tb e) = true
      · obtain ⟨a1, a2⟩ := P171 (k := e) (hR.fr hA ⟨by unfold p170; omega, fun k => by unfold p170; omega⟩) hn (by omega)
        refine g170_2 hS ?_
        rw [h11, h10, a1, P173e M hB, P174e M hB]
        exact ⟨a2, fun _ => ⟨a2, fun c => absurd ⟨by omega, y2⟩ c, fun _ => go (Or.inr y2)⟩, fun c => absurd (fun z => y1 z.2) c⟩
      · exact stop e M hS h1 h2 hl (fun z => y1 z.2) (fun z => y2 z.2) h10 h11 h13 hA
theorem s170_3 {i s : Nat} (hR : mR A tb tn) (hn : tn ≤ 8192) (hB : ∀ i, i < tn → tb i < 256) (es : nt tb tn i = s) (hs : s < tn) (hsd : dg (tb s) = true) : ∀ (d e : Nat), tn - e = d → s ≤ e → e ≤ tn → (∀ k, s ≤ k → k < e → dg (tb k) = true) → ∀ M, SH M → iV M 116 10 = Int32.ofNat s → iV M 116 11 = Int32.ofNat e → iV M 116 13 = -1 → (e - s ≤ 7 → iV M 116 12 = Int32.ofNat (dv tb s (e - s))) → Fr p170 A M → sm_w 170 (155, [some (.ref 116), none], []) M (rV (Q170 A tb tn i)) := by
  intro d
  have stop : ∀ e M, SH M → s ≤ e → e ≤ tn → (∀ k, s ≤ k → k < e → dg (tb k) = true) → ¬ (e < tn ∧ dg (tb e) = true) → iV M 116 10 = Int32.ofNat s → iV M 116 11 = Int32.ofNat e → iV M 116 13 = -1 → (e - s ≤ 7 → iV M 116 12 = Int32.ofNat (dv tb s (e - s))) → Fr p170 A M → sm_w 170 (155, [some (.ref 116), none], []) M (rV (Q170 A tb tn i)) := fun e M hS h1 h2 hl n2 h10 h11 h13 h12 hA => by
    have edr : dr tb tn s = e := dr_u h1 h2 hl (by
      rcases Nat.lt_or_ge e tn with z | z
      · right
        have y2 : ¬ dg (tb e) = true := fun y => n2 ⟨z, y⟩
        simpa using y2
      · left; omega)
    obtain ⟨a1, a2⟩ := P171 (k := e) (hR.fr hA ⟨by unfold p170; omega, fun k => by unfold p170; omega⟩) hn (by omega)
    refine g170_3 hS ?_
    rw [h11, h10, a1, P174e M hB, ← Int32.ofNat_sub e s h1]
    have com : ∀ (c9 : Int32) M3, M3 = sm_wI M 116 9 c9 → (dr tb tn s - s ≤ 7 ∧ iV M3 116 9 = 2 ∧ iV M3 116 12 = Int32.ofNat (dv tb s (dr tb tn s - s)) ∨ 7 < dr tb tn s - s ∧ iV M3 116 9 = 4) → Q170 A tb tn i M3 := fun c9 M3 e3 hc => by
      refine ⟨⟨by rw [es, e3, iV_wI, if_neg (by omega)]; exact h10, Or.inr (Or.inr (Or.inl ?_))⟩, by rw [e3]; exact hA.wI ⟨rfl, by omega, by omega⟩⟩
      rw [es]
      exact ⟨hs, hsd, by rw [e3, iV_wI, if_neg (by omega), edr]; exact h11, by rw [e3, iV_wI, if_neg (by omega)]; exact h13, hc⟩
    refine ⟨a2, fun _ => ⟨fun c M2 s2 e2 => ?_, fun c M4 s4 e4 => ?_⟩, fun c => absurd n2 c⟩
    · have c7 := (o_le (m := 7) (by omega) (by omega)).mp c
      exact com 2 M2 e2 (Or.inl ⟨by rw [edr]; exact c7, by rw [e2, iV_wI, if_pos ⟨rfl, rfl⟩], by rw [e2, iV_wI, if_neg (by omega), edr]; exact h12 c7⟩)
    · refine com 4 M4 e4 (Or.inr ⟨?_, by rw [e4, iV_wI, if_pos ⟨rfl, rfl⟩]⟩)
      rw [edr]
      rcases Nat.lt_or_ge 7 (e - s) with z | z
      · exact z
      · exact absurd ((o_le (m := 7) (by omega) (by omega)).mpr z) c
  induction d with
  | zero =>
    intro e hd h1 h2 hl M hS h10 h11 h13 h12 hA
    exact stop e M hS h1 h2 hl (fun z => by omega) h10 h11 h13 h12 hA
  | succ d ih =>
    intro e hd h1 h2 hl M hS h10 h11 h13 h12 hA
    by_cases y2 : dg (tb e) = true
    · have y3 := dg_48 y2
      have hl2 : ∀ k, s ≤ k → k < e + 1 → dg (tb k) = true := fun k k1 k2 => by
        by_cases ek : k = e
        · rw [ek]; exact y2
        · exact hl k k1 (by omega)
      obtain ⟨a1, a2⟩ := P171 (k := e) (hR.fr hA ⟨by unfold p170; omega, fun k => by unfold p170; omega⟩) hn (by omega)
      refine g170_3 hS ?_
      rw [h11, h10, a1, P174e M hB, ← Int32.ofNat_sub e s h1, if_pos (by omega)]
      refine ⟨a2, fun c => absurd ⟨by omega, y2⟩ c, fun _ => ⟨fun c M6 s6 e6 => ?_, fun c => ⟨a2, fun M9 s9 e9 M11 s11 e11 => ?_⟩⟩⟩
      · rw [o_s] at e6
        have c7 := (o_le (n := 7) (by omega) (by omega)).mp c
        exact ih (e + 1) (by omega) (by omega) (by omega) hl2 M6 s6 (by rw [e6, iV_wI, if_neg (by omega)]; exact h10) (by rw [e6, iV_wI, if_pos ⟨rfl, rfl⟩]) (by rw [e6, iV_wI, if_neg (by omega)]; exact h13) (fun z => by omega) (by rw [e6]; exact hA.wI ⟨rfl, by omega, by omega⟩)
      · have c7 : e - s < 7 := by
          rcases Nat.lt_or_ge (e - s) 7 with z | z
          · exact z
          · exact absurd ((o_le (n := 7) (by omega) (by omega)).mpr z) c
        rw [h12 (by omega), show (10 : Int32) * Int32.ofNat (dv tb s (e - s)) + Int32.ofNat (tb e) - 48 = Int32.ofNat (dv tb s (e + 1 - s)) from by
          rw [show (10 : Int32) = Int32.ofNat 10 from rfl, show (48 : Int32) = Int32.ofNat 48 from rfl, ← Int32.ofNat_mul, ← Int32.ofNat_add, ← Int32.ofNat_sub _ _ (by omega), show e + 1 - s = (e - s) + 1 from by omega]
          congr 1
          show _ = 10 * dv tb s (e - s) + (tb (s + (e - s)) - 48)
          rw [show s + (e - s) = e from by omega]
          omega] at e9
        rw [show iV M9 116 11 = Int32.ofNat e from by rw [e9, iV_wI, if_neg (by omega)]; exact h11, o_s] at e11
        exact ih (e + 1) (by omega) (by omega) (by omega) hl2 M11 s11 (by rw [e11, iV_wI, if_neg (by omega), e9, iV_wI, if_neg (by omega)]; exact h10) (by rw [e11, iV_wI, if_pos ⟨rfl, rfl⟩]) (by rw [e11, iV_wI, if_neg (by omega), e9, iV_wI, if_neg (by omega)]; exact h13) (fun _ => by rw [e11, iV_wI, if_neg (by omega), e9, iV_wI, if_pos ⟨rfl, rfl⟩]) (by rw [e11, e9]; exact (hA.wI ⟨rfl, by omega, by omega⟩).wI ⟨rfl, by omega, by omega⟩)
    · exact stop e M hS h1 h2 hl (fun z => y2 z.2) h10 h11 h13 h12 hA
theorem s170_4 {i s : Nat} (hR : mR A tb tn) (hn : tn ≤ 8192) (hB : ∀ i, i < tn → tb i < 256) (es : nt tb tn i = s) (hs : s < tn) (hsq : tb s = 34) : ∀ (d e : Nat), tn - e = d → s + 1 ≤ e → e ≤ tn → (∀ k, s + 1 ≤ k → k < e → 32 ≤ tb k ∧ tb k ≤ 126 ∧ ¬ tb k = 34) → ∀ M, SH M → iV M 116 10 = Int32.ofNat s → iV M 116 11 = Int32.ofNat e → iV M 116 13 = -1 → Fr p170 A M → sm_w 170 (261, [some (.ref 116), none], []) M (rV (Q170 A tb tn i)) := by
  intro d
  have fin : ∀ e M, s + 1 ≤ e → e ≤ tn → (∀ k, s + 1 ≤ k → k < e → 32 ≤ tb k ∧ tb k ≤ 126 ∧ ¬ tb k = 34) → (e = tn ∨ ¬ (32 ≤ tb e ∧ tb e ≤ 126 ∧ ¬ tb e = 34)) → iV M 116 10 = Int32.ofNat s → iV M 116 11 = Int32.ofNat e → iV M 116 13 = -1 → Fr p170 A M → ∀ (c9 : Int32) M3 M5, M3 = sm_wI M 116 9 c9 → M5 = sm_wI M3 116 11 ((iV M3 116 11) + (1 : Int32)) → ((e < tn ∧ tb e = 34) ∧ c9 = 3 ∨ ¬ (e < tn ∧ tb e = 34) ∧ c9 = 4) → Q170 A tb tn i M5 := fun e M h1 h2 hl hst h10 h11 h13 hA c9 M3 M5 e3 e5 hc => by
    have eqr : qr tb tn (s + 1) = e := fs_u h1 h2 (fun k k1 k2 => by obtain ⟨y1, y2, y3⟩ := hl k k1 k2; simp [y1, y2, y3]) (by
      rcases hst with z | z
      · exact Or.inl z
      · right
        show (!(decide (32 ≤ tb e) && decide (tb e ≤ 126) && !(tb e == 34))) = true
        by_cases y1 : 32 ≤ tb e
        · by_cases y2 : tb e ≤ 126
          · by_cases y3 : tb e = 34
            · simp [y3]
            · exact absurd ⟨y1, y2, y3⟩ z
          · simp [y2]
        · simp [y1])
    rw [show iV M3 116 11 = Int32.ofNat e from by rw [e3, iV_wI, if_neg (by omega)]; exact h11, o_s] at e5
    refine ⟨⟨by rw [es, e5, iV_wI, if_neg (by omega), e3, iV_wI, if_neg (by omega)]; exact h10, Or.inr (Or.inr (Or.inr (Or.inl ?_)))⟩, by rw [e5, e3]; exact (hA.wI ⟨rfl, by omega, by omega⟩).wI ⟨rfl, by omega, by omega⟩⟩
    rw [es, eqr]
    refine ⟨hs, hsq, by rw [e5, iV_wI, if_neg (by omega), e3, iV_wI, if_neg (by omega)]; exact h13, by rw [e5, iV_wI, if_pos ⟨rfl, rfl⟩], ?_⟩
    rw [e5, iV_wI, if_neg (by omega), e3, iV_wI, if_pos ⟨rfl, rfl⟩]
    exact hc
  have n34 : ¬ (-1 : Int32) = 34 := by decide
  induction d with
  | zero =>
    intro e hd h1 h2 hl M hS h10 h11 h13 hA
    obtain ⟨a1, a2⟩ := P171 (k := e) (hR.fr hA ⟨by unfold p170; omega, fun k => by unfold p170; omega⟩) hn (by omega)
    refine g170_4 hS ?_
    rw [h11, a1, if_neg (by omega)]
    exact ⟨a2, fun _ => ⟨a2, fun c => absurd c n34, fun _ M7 s7 e7 M9 s9 e9 => fin e M h1 h2 hl (Or.inl (by omega)) h10 h11 h13 hA 4 M7 M9 e7 e9 (Or.inr ⟨fun z => by omega, rfl⟩)⟩, fun c => absurd (by decide) c⟩
  | succ d ih =>
    intro e hd h1 h2 hl M hS h10 h11 h13 hA
    obtain ⟨a1, a2⟩ := P171 (k := e) (hR.fr hA ⟨by unfold p170; omega, fun k => by unfold p170; omega⟩) hn (by omega)
    have hb := hB e (by omega)
    refine g170_4 hS ?_
    rw [h11, a1, if_pos (by omega)]
    have q34 : Int32.ofNat (tb e) = 34 ↔ tb e = 34 := o_eq (m := 34) (by omega) (by omega)
    have bad : ¬ (32 ≤ tb e ∧ tb e ≤ 126 ∧ ¬ tb e = 34) → (Int32.ofNat (tb e) = 34 → ∀ M3, SH M3 → M3 = sm_wI M 116 9 (3 : Int32) → ∀ M5, SH M5 → M5 = sm_wI M3 116 11 ((iV M3 116 11) + (1 : Int32)) → Q170 A tb tn i M5) ∧ (¬ Int32.ofNat (tb e) = 34 → ∀ M7, SH M7 → M7 = sm_wI M 116 9 (4 : Int32) → ∀ M9, SH M9 → M9 = sm_wI M7 116 11 ((iV M7 116 11) + (1 : Int32)) → Q170 A tb tn i M9) := fun hno => ⟨fun c M3 s3 e3 M5 s5 e5 => fin e M h1 h2 hl (Or.inr hno) h10 h11 h13 hA 3 M3 M5 e3 e5 (Or.inl ⟨⟨by omega, q34.mp c⟩, rfl⟩), fun c M7 s7 e7 M9 s9 e9 => fin e M h1 h2 hl (Or.inr hno) h10 h11 h13 hA 4 M7 M9 e7 e9 (Or.inr ⟨fun z => c (q34.mpr z.2), rfl⟩)⟩
    refine ⟨a2, fun c => ⟨a2, bad fun z => absurd ((o_lt (m := 32) (by omega) (by omega)).mp c) (by omega)⟩, fun c => ⟨a2, fun c2 => ⟨a2, bad fun z => absurd ((o_lt (n := 126) (by omega) (by omega)).mp c2) (by omega)⟩, fun c2 => ⟨a2, fun c3 => ⟨a2, bad fun z => z.2.2 (q34.mp c3)⟩, fun c3 M31 s31 e31 => ?_⟩⟩⟩
    rw [o_s] at e31
    have l1 : 32 ≤ tb e := by
      rcases Nat.lt_or_ge (tb e) 32 with z | z
      · exact absurd ((o_lt (m := 32) (by omega) (by omega)).mpr z) c
      · exact z
    have l2 : tb e ≤ 126 := by
      rcases Nat.lt_or_ge 126 (tb e) with z | z
      · exact absurd ((o_lt (n := 126) (by omega) (by omega)).mpr z) c2
      · exact z
    refine ih (e + 1) (by omega) (by omega) (by omega) (fun k k1 k2 => ?_) M31 s31 (by rw [e31, iV_wI, if_neg (by omega)]; exact h10) (by rw [e31, iV_wI, if_pos ⟨rfl, rfl⟩]) (by rw [e31, iV_wI, if_neg (by omega)]; exact h13) (by rw [e31]; exact hA.wI ⟨rfl, by omega, by omega⟩)
    by_cases ek : k = e
    · rw [ek]; exact ⟨l1, l2, fun z => c3 (q34.mpr z)⟩
    · exact hl k k1 (by omega)
theorem s170_1 {i : Nat} (hR : mR A tb tn) (hn : tn ≤ 8192) (hB : ∀ i, i < tn → tb i < 256) : ∀ (d j : Nat), tn - j = d → j ≤ tn → nt tb tn j = nt tb tn i → ∀ M, SH M → iV M 116 10 = Int32.ofNat j → Fr p170 A M → sm_w 170 (8, [some (.ref 116), none], []) M (rV (Q170 A tb tn i)) := by
  intro d
  have here : ∀ s M, SH M → s ≤ tn → ¬ (s < tn ∧ bk (tb s) = true) → nt tb tn s = nt tb tn i → iV M 116 10 = Int32.ofNat s → Fr p170 A M → sm_w 170 (8, [some (.ref 116), none], []) M (rV (Q170 A tb tn i)) := fun s M hS hs hnb hnt h10 hA => by
    have es : nt tb tn i = s := by
      rw [← hnt]
      unfold nt
      refine fs_u (Nat.le_refl _) hs (fun k k1 k2 => by omega) ?_
      rcases Nat.lt_or_ge s tn with z | z
      · right
        have : ¬ bk (tb s) = true := fun y => hnb ⟨z, y⟩
        simpa using this
      · left; omega
    obtain ⟨a1, a2⟩ := P171 (k := s) (hR.fr hA ⟨by unfold p170; omega, fun k => by unfold p170; omega⟩) hn (by omega)
    refine g170_1 hS ?_
    rw [h10, a1, P172e M hB]
    refine ⟨a2, fun _ M2 s2 e2 M4 s4 e4 => ?_, fun c => absurd hnb c⟩
    have A4 : Fr p170 A M4 := by rw [e4, e2]; exact (hA.wI ⟨rfl, by omega, by omega⟩).wI ⟨rfl, by omega, by omega⟩
    have h104 : iV M4 116 10 = Int32.ofNat s := by rw [e4, iV_wI, if_neg (by omega), e2, iV_wI, if_neg (by omega)]; exact h10
    have h114 : iV M4 116 11 = Int32.ofNat s := by rw [e4, iV_wI, if_neg (by omega), e2, iV_wI, if_pos ⟨rfl, rfl⟩]
    have h134 : iV M4 116 13 = -1 := by rw [e4, iV_wI, if_pos ⟨rfl, rfl⟩]
    obtain ⟨b1, b2⟩ := P171 (k := s) (hR.fr A4 ⟨by unfold p170; omega, fun k => by unfold p170; omega⟩) hn (by omega)
    rw [h104, b1, P173e M4 hB, P174e M4 hB, h114, o_s]
    refine ⟨b2, fun c => ?_, fun c M17 s17 e17 => ?_⟩
    · have hlt : s < tn := by
        rcases Nat.lt_or_ge s tn with z | z
        · exact z
        · rw [if_neg (by omega)] at c; exact absurd c (by decide)
      have hb := hB s hlt
      rw [if_pos hlt]
      refine ⟨fun c1 => ⟨fun c2 => ⟨fun c3 M7 s7 e7 => ?_, fun c3 M9 s9 e9 M11 s11 e11 M13 s13 e13 => ?_⟩, fun c2 M15 s15 e15 => ?_⟩, fun c1 => ?_⟩
      · exact s170_4 hR hn hB es hlt ((o_eq (m := 34) (by omega) (by omega)).mp c3) _ (s + 1) rfl (Nat.le_refl _) (by omega) (fun k k1 k2 => by omega) M7 s7 (by rw [e7, iV_wI, if_neg (by omega)]; exact h104) (by rw [e7, iV_wI, if_pos ⟨rfl, rfl⟩]) (by rw [e7, iV_wI, if_neg (by omega)]; exact h134) (by rw [e7]; exact A4.wI ⟨rfl, by omega, by omega⟩)
      · rw [show iV M11 116 11 = Int32.ofNat s from by rw [e11, iV_wI, if_neg (by omega), e9, iV_wI, if_neg (by omega)]; exact h114, o_s] at e13
        refine ⟨⟨by rw [es, e13, iV_wI, if_neg (by omega), e11, iV_wI, if_neg (by omega), e9, iV_wI, if_neg (by omega)]; exact h104, Or.inr (Or.inr (Or.inr (Or.inr ?_)))⟩, by rw [e13, e11, e9]; exact ((A4.wI ⟨rfl, by omega, by omega⟩).wI ⟨rfl, by omega, by omega⟩).wI ⟨rfl, by omega, by omega⟩⟩
        rw [es]
        exact ⟨hlt, fun y => c1 ⟨hlt, y⟩, fun y => c2 ⟨hlt, y⟩, fun y => c3 (by rw [y]; rfl), by rw [e13, iV_wI, if_neg (by omega), e11, iV_wI, if_neg (by omega), e9, iV_wI, if_pos ⟨rfl, rfl⟩], by rw [e13, iV_wI, if_neg (by omega), e11, iV_wI, if_pos ⟨rfl, rfl⟩], by rw [e13, iV_wI, if_pos ⟨rfl, rfl⟩]⟩
      · exact s170_3 hR hn hB es hlt (Classical.not_not.mp c2).2 _ s rfl (Nat.le_refl _) (by omega) (fun k k1 k2 => by omega) M15 s15 (by rw [e15, iV_wI, if_neg (by omega)]; exact h104) (by rw [e15, iV_wI, if_neg (by omega)]; exact h114) (by rw [e15, iV_wI, if_neg (by omega)]; exact h134) (fun _ => by rw [e15, iV_wI, if_pos ⟨rfl, rfl⟩, Nat.sub_self]; rfl) (by rw [e15]; exact A4.wI ⟨rfl, by omega, by omega⟩)
      · exact s170_2 hR hn hB es hlt (Classical.not_not.mp c1).2 _ s rfl (Nat.le_refl _) (by omega) (fun k k1 k2 => by omega) M4 s4 h104 h114 h134 A4
    · have hge : s = tn := by
        rcases Nat.lt_or_ge s tn with z | z
        · rw [if_pos z] at c
          exact absurd (Int32.not_lt.mp (o_nn (by have := hB s z; omega))) c
        · omega
      exact ⟨⟨by rw [es, e17, iV_wI, if_neg (by omega)]; exact h104, Or.inl ⟨by rw [es]; exact hge, by rw [e17, iV_wI, if_pos ⟨rfl, rfl⟩]⟩⟩, by rw [e17]; exact A4.wI ⟨rfl, by omega, by omega⟩⟩
  induction d with
  | zero =>
    intro j hd hj hnt M hS h10 hA
    exact here j M hS hj (fun z => by omega) hnt h10 hA
  | succ d ih =>
    intro j hd hj hnt M hS h10 hA
    by_cases y : bk (tb j) = true
    · obtain ⟨a1, a2⟩ := P171 (k := j) (hR.fr hA ⟨by unfold p170; omega, fun k => by unfold p170; omega⟩) hn (by omega)
      refine g170_1 hS ?_
      rw [h10, a1, P172e M hB]
      refine ⟨a2, fun c => absurd ⟨by omega, y⟩ c, fun _ M19 s19 e19 => ?_⟩
      rw [o_s] at e19
      refine ih (j + 1) (by omega) (by omega) ?_ M19 s19 (by rw [e19, iV_wI, if_pos ⟨rfl, rfl⟩]) (by rw [e19]; exact hA.wI ⟨rfl, by omega, by omega⟩)
      rw [← hnt]
      unfold nt
      exact (fs_f (p := fun j => !(bk (tb j))) (by omega) (by simp [y])).symm
    · exact here j M hS hj (fun z => y z.2) hnt h10 hA
theorem s170 {M : sm_M} {i : Nat} (hS : SH M) (hR : mR M tb tn) (hn : tn ≤ 8192) (hB : ∀ i, i < tn → tb i < 256) (hi : i ≤ tn) (h11 : iV M 116 11 = Int32.ofNat i) : sm_cV 170 [.ref 116] M (Q170 M tb tn i) := by
  refine g170_0 hS fun M1 s1 e1 => ?_
  rw [h11] at e1
  exact s170_1 (A := M) hR hn hB _ i rfl hi rfl M1 s1 (by rw [e1, iV_wI, if_pos ⟨rfl, rfl⟩]) (by rw [e1]; exact (Fr.rf _ _).wI ⟨rfl, by omega, by omega⟩)
end MLX
