/-! CHOOSING: the tables; which kind is best. -/
def ini : Nat → Option (Nat × Nat × Nat) := fun c => if c = 1 then some (0, 0, 0) else none
noncomputable def lst (D : Nat → Nat → Nat) (i j : Nat) (P Q : Nat → Option (Nat × Nat × Nat)) : Nat → Option (Nat × Nat × Nat) := @ite _ (jok D i j) (Classical.propDecidable _) (stp D i j P 4 Q) Q
noncomputable def prt (D : Nat → Nat → Nat) (F : Nat → Nat → Option (Nat × Nat × Nat)) (j : Nat) : Nat → Nat → Option (Nat × Nat × Nat)
  | 0 => fun _ => none
  | k + 1 => lst D k j (F k) (prt D F j k)
noncomputable def fin (D : Nat → Nat → Nat) : Nat → Nat → Nat → Option (Nat × Nat × Nat)
  | 0 => fun _ => ini
  | j + 1 => fun b => if b = j + 1 then prt D (fin D j) (j + 1) (j + 1) else fin D j b
/-- the entries of break j, once all lines to it from breaks ahead of k are seen -/
noncomputable def Pt (D : Nat → Nat → Nat) (j k : Nat) : Nat → Option (Nat × Nat × Nat) := if j = 0 then ini else prt D (fin D (j - 1)) j k
noncomputable def Ent (D : Nat → Nat → Nat) (j : Nat) : Nat → Option (Nat × Nat × Nat) := Pt D j j
theorem fin_le (D : Nat → Nat → Nat) (b : Nat) : ∀ d, fin D (b + d) b = Ent D b
  | 0 => by
    unfold Ent Pt
    cases b with
    | zero => rfl
    | succ b =>
      rw [if_neg (by omega)]
      show (if b + 1 = b + 1 then prt D (fin D b) (b + 1) (b + 1) else fin D b (b + 1)) = prt D (fin D b) (b + 1) (b + 1)
      exact if_pos rfl
  | d + 1 => by
    have h := fin_le D b d
    show fin D (b + d + 1) b = _
    unfold fin
    rw [if_neg (by omega)]
    exact h
theorem Pt_s {D : Nat → Nat → Nat} {j k : Nat} (h : k < j) : Pt D j (k + 1) = lst D k j (Ent D k) (Pt D j k) := by
  unfold Pt
  rw [if_neg (by omega), if_neg (by omega)]
  show lst D k j (fin D (j - 1) k) _ = _
  have e := fin_le D k (j - 1 - k)
  rw [show k + (j - 1 - k) = j - 1 from by omega] at e
  rw [e]
theorem Pt_0 {D : Nat → Nat → Nat} {j : Nat} (h : 1 ≤ j) : Pt D j 0 = fun _ => none := by
  unfold Pt
  rw [if_neg (by omega)]
  rfl
theorem lst_n {D : Nat → Nat → Nat} {i j : Nat} {P Q : Nat → Option (Nat × Nat × Nat)} (h : ¬ jok D i j) : lst D i j P Q = Q := if_neg h
theorem lst_y {D : Nat → Nat → Nat} {i j : Nat} {P Q : Nat → Option (Nat × Nat × Nat)} (h : jok D i j) : lst D i j P Q = stp D i j P 4 Q := if_pos h
theorem stp_e {D : Nat → Nat → Nat} {i j : Nat} {P Q : Nat → Option (Nat × Nat × Nat)} (h : ∀ c, c < 4 → P c = none) : ∀ g, g ≤ 4 → stp D i j P g Q = Q
  | 0, _ => rfl
  | g + 1, hg => by
    show cnd D i j P g (stp D i j P g Q) = Q
    rw [cnd_n (h g (by omega)), stp_e h g (by omega)]
theorem lst_e {D : Nat → Nat → Nat} {i j : Nat} {P Q : Nat → Option (Nat × Nat × Nat)} (h : ∀ c, c < 4 → P c = none) : lst D i j P Q = Q := by
  by_cases c : jok D i j
  · rw [lst_y c]; exact stp_e h 4 (Nat.le_refl _)
  · exact lst_n c
/-- what an entry of break j says, seen from breaks ahead of k: bounds, the break before is ahead of k, the kind is the line's -/
def wE (D : Nat → Nat → Nat) (j k c : Nat) (e : Option (Nat × Nat × Nat)) : Prop := ∀ q b h, e = some (q, b, h) → q ≤ j * 2100000000000 ∧ b < k ∧ h ≤ 3 ∧ c = eC D b j
theorem stp_w {D : Nat → Nat → Nat} (hw : wK D) {i j : Nat} (hij : i < j) (hj : j ≤ D 12 0) {P Q : Nat → Option (Nat × Nat × Nat)} (hP : ∀ c, c < 4 → bE i (P c)) (hQ : ∀ c, wE D j i c (Q c)) : ∀ g, g ≤ 4 → ∀ c, wE D j (i + 1) c (stp D i j P g Q c)
  | 0, _, c => fun q b h e => by
    obtain ⟨a1, a2, a3, a4⟩ := hQ c q b h e
    exact ⟨a1, by omega, a3, a4⟩
  | g + 1, hg, c => by
    have ih := stp_w hw hij hj hP hQ g (by omega) c
    show wE D j (i + 1) c (cnd D i j P g (stp D i j P g Q) c)
    by_cases hc : c = eC D i j
    · cases hp : P g with
      | none => rw [cnd_n hp]; exact ih
      | some x =>
        obtain ⟨k, b, h⟩ := x
        by_cases hb : bet P (stp D i j P g Q) i (eC D i j) (k + (alo D i j + beh D i j g)) g
        · rw [hc, cnd_t hp hb]
          intro q b' h' e
          have hpb := hP g (by omega)
          rw [hp] at hpb
          have hk : k ≤ i * 2100000000000 := hpb.1
          have hab := alo_b hw hij hj g
          have hk3 : (i + 1) * 2100000000000 ≤ j * 2100000000000 := Nat.mul_le_mul_right _ (by omega)
          cases e
          exact ⟨by omega, by omega, by omega, rfl⟩
        · rw [cnd_f hp hb]; exact ih
    · rw [cnd_o hc]; exact ih
theorem wE_bE {D : Nat → Nat → Nat} {j k c : Nat} {e : Option (Nat × Nat × Nat)} (hk : k ≤ 601) (h : wE D j k c e) : bE j e := by
  unfold bE
  cases e with
  | none => exact trivial
  | some x =>
    obtain ⟨q, b, g⟩ := x
    obtain ⟨a1, a2, a3, -⟩ := h q b g rfl
    exact ⟨a1, by omega, a3⟩
theorem Pt_w {D : Nat → Nat → Nat} (hw : wK D) : ∀ j, j ≤ D 12 0 → (∀ c, c < 4 → bE j (Ent D j c)) ∧ ∀ k, k ≤ j → 1 ≤ j → ∀ c, wE D j k c (Pt D j k c) := by
  have hn := hw.1
  intro j
  induction j using Nat.strongRecOn with
  | _ j ih =>
    intro hj
    have part : ∀ k, k ≤ j → 1 ≤ j → ∀ c, wE D j k c (Pt D j k c) := by
      intro k
      induction k with
      | zero =>
        intro _ h1 c q b h e
        rw [Pt_0 h1] at e
        cases e
      | succ k ihk =>
        intro hk h1 c
        have hq := ihk (by omega) h1
        rw [Pt_s (by omega)]
        by_cases cj : jok D k j
        · rw [lst_y cj]
          exact stp_w hw (by omega) hj (ih k (by omega) (by omega)).1 hq 4 (Nat.le_refl _) c
        · rw [lst_n cj]
          intro q b h e
          obtain ⟨a1, a2, a3, a4⟩ := hq c q b h e
          exact ⟨a1, by omega, a3, a4⟩
    refine ⟨fun c hc => ?_, part⟩
    by_cases h0 : j = 0
    · subst h0
      show bE 0 (ini c)
      unfold ini bE
      by_cases h1 : c = 1
      · rw [if_pos h1]; exact ⟨Nat.zero_le _, Nat.zero_le _, Nat.zero_le _⟩
      · rw [if_neg h1]; exact trivial
    · exact wE_bE (by omega) (part j (Nat.le_refl _) (by omega) c)
/-- one entry comes ahead of another -/
def les (x y : Option (Nat × Nat × Nat)) : Prop := match x, y with
  | some (k, b, _), some (k', b', _) => k < k' ∨ (k = k' ∧ b < b')
  | _, _ => False
noncomputable def bstF (Q : Nat → Option (Nat × Nat × Nat)) : Nat → Option Nat
  | 0 => none
  | g + 1 => match Q g with
    | none => bstF Q g
    | some x => match bstF Q g with
      | none => some g
      | some h => @ite _ (les (some x) (Q h)) (Classical.propDecidable _) (some g) (some h)
theorem bstF_s (Q : Nat → Option (Nat × Nat × Nat)) : ∀ g, (∀ h, bstF Q g = some h → h < g ∧ ∃ x, Q h = some x) ∧ (bstF Q g = none → ∀ c, c < g → Q c = none)
  | 0 => ⟨fun h e => (by cases e), fun _ c hc => by omega⟩
  | g + 1 => by
    obtain ⟨i1, i2⟩ := bstF_s Q g
    cases hq : Q g with
    | none =>
      have e : bstF Q (g + 1) = bstF Q g := by
        show (match Q g with | none => _ | some x => _) = _
        rw [hq]
      rw [e]
      refine ⟨fun h z => ?_, fun z c hc => ?_⟩
      · obtain ⟨a, b⟩ := i1 h z
        exact ⟨by omega, b⟩
      · by_cases cg : c = g
        · rw [cg]; exact hq
        · exact i2 z c (by omega)
    | some x =>
      cases hb : bstF Q g with
      | none =>
        have e : bstF Q (g + 1) = some g := by
          show (match Q g with | none => _ | some x => _) = _
          rw [hq, hb]
        rw [e]
        exact ⟨fun h z => by cases z; exact ⟨by omega, x, hq⟩, fun z => by cases z⟩
      | some h =>
        have e : bstF Q (g + 1) = @ite _ (les (some x) (Q h)) (Classical.propDecidable _) (some g) (some h) := by
          show (match Q g with | none => _ | some x => _) = _
          rw [hq, hb]
        rw [e]
        by_cases c : les (some x) (Q h)
        · rw [if_pos c]
          exact ⟨fun h z => by cases z; exact ⟨by omega, x, hq⟩, fun z => by cases z⟩
        · rw [if_neg c]
          obtain ⟨a, b⟩ := i1 h hb
          exact ⟨fun h2 z => by cases z; exact ⟨by omega, b⟩, fun z => by cases z⟩
def bsI (b : Option Nat) : Int32 := match b with
  | none => -1
  | some h => Int32.ofNat h
theorem s109_1 {M : sm_M} {b : Nat} {Q : Nat → Option (Nat × Nat × Nat)} (hS : SH M) (hb : b ≤ 600) (hE : ∀ c, c < 4 → cE M (4 * b + c) (Q c)) (hB : ∀ c, c < 4 → bE 600 (Q c)) (h0 : b = 0 → ∀ c, c < 4 → ¬ c = 1 → Q c = none) : ∀ (d g : Nat), 4 - g = d → g ≤ 4 → sm_w 109 (4, [some (.ref 36), some (.int (Int32.ofNat b)), some (.int (bsI (bstF Q g))), some (.int (Int32.ofNat g)), none], []) M (rI (fun v M2 => v = bsI (bstF Q 4) ∧ M2 = M)) := by
  have e4 : Int32.ofNat b * (4 : Int32) = Int32.ofNat (4 * b) := by
    rw [show (4 : Int32) = Int32.ofNat 4 from rfl, ← Int32.ofNat_mul, Nat.mul_comm]
  intro d
  induction d with
  | zero =>
    intro g hd hg
    have e : g = 4 := by omega
    subst e
    exact g109_1 hS ⟨fun _ => ⟨rfl, rfl⟩, fun c => absurd (Int32.le_refl _) c⟩
  | succ d ih =>
    intro g hd hg
    have ih := ih (g + 1) (by omega) (by omega)
    have hEg := hE g (by omega)
    have hBg := hB g (by omega)
    have in1 : ∀ c, c < 4 → vp_in (Int32.ofNat (4 * b + c)) 2404 := fun c hc => (o_in (by omega)).mpr (by omega)
    obtain ⟨i1, i2⟩ := bstF_s Q g
    refine g109_1 hS ⟨fun c => absurd ((o_le (n := 4) (by omega) (by omega)).mp c) (by omega), fun _ => ?_⟩
    rw [e4, ← Int32.ofNat_add, o_cl (by omega), o_s]
    refine ⟨in1 g (by omega), ?_⟩
    cases hq : Q g with
    | none =>
      rw [hq] at hEg
      have e : bstF Q (g + 1) = bstF Q g := by
        show (match Q g with | none => _ | some x => _) = _
        rw [hq]
      rw [e] at ih
      exact ⟨fun _ => ih, fun c => absurd hEg c⟩
    | some x =>
      obtain ⟨k, p, q⟩ := x
      rw [hq] at hEg hBg
      have hk : k ≤ 600 * 2100000000000 := hBg.1
      refine ⟨fun c => absurd (hEg.1.symm.trans c) (j_m1 (by omega)), fun _ => ?_⟩
      cases hb2 : bstF Q g with
      | none =>
        have e : bstF Q (g + 1) = some g := by
          show (match Q g with | none => _ | some x => _) = _
          rw [hq, hb2]
        rw [e] at ih
        exact ⟨fun _ => ih, fun c => absurd (show (-1 : Int32) < 0 by decide) c⟩
      | some h =>
        obtain ⟨a1, ⟨k', p', q'⟩, a2⟩ := i1 h hb2
        have hEh := hE h (by omega)
        have hBh := hB h (by omega)
        rw [a2] at hEh hBh
        have hk' : k' ≤ 600 * 2100000000000 := hBh.1
        have hb0 : ¬ b = 0 := fun z => by
          have z1 := h0 z g (by omega)
          have z2 := h0 z h (by omega)
          by_cases g1 : g = 1
          · rw [z2 (by omega)] at a2; cases a2
          · rw [z1 g1] at hq; cases hq
        have m1 := (hEg.2 (by omega)).1
        have m2 := (hEh.2 (by omega)).1
        have l1 : p ≤ 600 := hBg.2.1
        have l2 : p' ≤ 600 := hBh.2.1
        have e : bstF Q (g + 1) = @ite _ (les (some (k, p, q)) (Q h)) (Classical.propDecidable _) (some g) (some h) := by
          show (match Q g with | none => _ | some x => _) = _
          rw [hq, hb2]
        refine ⟨fun c => absurd c (show ¬ Int32.ofNat h < 0 from o_nn (by omega)), fun _ => ?_⟩
        show q110_0 M _ (Int32.ofNat (4 * b) + Int32.ofNat h) ∧ ((p110_0 M _ (Int32.ofNat (4 * b) + Int32.ofNat h) = 0 → _) ∧ (¬ p110_0 M _ (Int32.ofNat (4 * b) + Int32.ofNat h) = 0 → _))
        rw [← Int32.ofNat_add]
        have hp : p110_0 M (Int32.ofNat (4 * b + g)) (Int32.ofNat (4 * b + h)) = 0 ↔ ¬ les (some (k, p, q)) (Q h) := by
          unfold p110_0
          rw [o_cl (by omega), o_cl (by omega), hEg.1, hEh.1, m1, m2, a2]
          show _ ↔ ¬ (k < k' ∨ (k = k' ∧ p < p'))
          have ka : Int64.ofNat k = Int64.ofNat k' ↔ k = k' := j_eq (by omega) (by omega)
          have kb : Int64.ofNat k' ≤ Int64.ofNat k ↔ k' ≤ k := j_le (by omega) (by omega)
          have kc : Int32.ofNat p' ≤ Int32.ofNat p ↔ p' ≤ p := o_le (by omega) (by omega)
          by_cases c1 : k = k'
          · rw [if_pos (ka.mpr c1)]
            by_cases c2 : p' ≤ p
            · rw [if_pos (kc.mpr c2)]
              exact ⟨fun _ w => by omega, fun _ => rfl⟩
            · rw [if_neg (mt kc.mp c2)]
              exact ⟨fun z => absurd z (by decide), fun z => absurd (Or.inr ⟨c1, by omega⟩) z⟩
          · rw [if_neg (mt ka.mp c1)]
            by_cases c2 : k' ≤ k
            · rw [if_pos (kb.mpr c2)]
              exact ⟨fun _ w => by omega, fun _ => rfl⟩
            · rw [if_neg (mt kb.mp c2)]
              exact ⟨fun z => absurd z (by decide), fun z => absurd (Or.inl (by omega)) z⟩
        rw [hp]
        refine ⟨⟨in1 g (by omega), in1 h (by omega), fun _ => ⟨in1 g (by omega), in1 h (by omega)⟩, fun _ => ⟨in1 g (by omega), in1 h (by omega)⟩⟩, fun c => ?_, fun c => ?_⟩
        · rw [e, if_neg c] at ih
          exact ih
        · rw [e, if_pos (Classical.not_not.mp c)] at ih
          exact ih
theorem s109 {M : sm_M} {b : Nat} {Q : Nat → Option (Nat × Nat × Nat)} (hS : SH M) (hb : b ≤ 600) (hE : ∀ c, c < 4 → cE M (4 * b + c) (Q c)) (hB : ∀ c, c < 4 → bE 600 (Q c)) (h0 : b = 0 → ∀ c, c < 4 → ¬ c = 1 → Q c = none) : sm_cI 109 [.ref 36, .int (Int32.ofNat b)] M (fun v M2 => v = bsI (bstF Q 4) ∧ M2 = M) := g109_0 hS (s109_1 hS hb hE hB h0 4 0 (by omega) (by omega))
theorem s108 {M : sm_M} {b : Nat} {Q : Nat → Option (Nat × Nat × Nat)} (hS : SH M) (hb : b ≤ 600) (hE : ∀ c, c < 4 → cE M (4 * b + c) (Q c)) (hB : ∀ c, c < 4 → bE 600 (Q c)) (h0 : b = 0 → ∀ c, c < 4 → ¬ c = 1 → Q c = none) : sm_cI 108 [.ref 36, .int (Int32.ofNat b)] M (fun v M2 => ((v = 0 ∧ ∀ c, c < 4 → Q c = none) ∨ (v = 1 ∧ ∃ h, bstF Q 4 = some h)) ∧ M2 = M) := by
  refine g108_0 hS ((s109 hS hb hE hB h0).mono fun v M1 k1 s1 => ?_)
  obtain ⟨k11, k12⟩ := k1
  subst k12
  cases hq : bstF Q 4 with
  | none =>
    rw [hq] at k11
    rw [k11]
    exact ⟨fun _ => ⟨Or.inl ⟨rfl, (bstF_s Q 4).2 hq⟩, rfl⟩, fun c => absurd (show (-1 : Int32) < 0 by decide) c⟩
  | some h =>
    rw [hq] at k11
    have := ((bstF_s Q 4).1 h hq).1
    rw [k11]
    exact ⟨fun c => absurd c (show ¬ Int32.ofNat h < 0 from o_nn (by omega)), fun _ => ⟨Or.inr ⟨rfl, h, rfl⟩, rfl⟩⟩
