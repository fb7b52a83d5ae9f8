/-! WORD. -/
theorem p30_Y {M : sm_M} {o : Nat} {tb : Nat → Nat} {tn k : Nat} (h : cY M o tb tn) (hk : k < 2147483648) : p30_0 M o (Int32.ofNat k) = (if k < tn then Int32.ofNat (tb k) else -1) := by
  obtain ⟨h1, h2, h3⟩ := h
  have hc := cB_le o
  unfold p30_0
  rw [if_neg (o_nn hk), h2, o_cl hk]
  by_cases c : k < tn
  · have c1 : ¬ Int32.ofNat tn ≤ Int32.ofNat k := fun z => absurd ((o_le (by omega) hk).mp z) (by omega)
    have c2 : ¬ Int32.ofNat (cB o) ≤ Int32.ofNat k := fun z => absurd ((o_le (by omega) hk).mp z) (by omega)
    rw [if_neg c1, if_neg c2, if_pos c, (h3 k c).2]
    exact sb_and (h3 k c).1
  · rw [if_pos ((o_le (by omega) hk).mpr (by omega)), if_neg c]
theorem q30_Y {M : sm_M} {o : Nat} {tb : Nat → Nat} {tn k : Nat} (h : cY M o tb tn) (hk : k < 2147483648) : q30_0 M o (Int32.ofNat k) := by
  obtain ⟨h1, h2, h3⟩ := h
  have hc := cB_le o
  unfold q30_0
  rw [h2]
  refine ⟨fun _ => trivial, fun _ => ⟨fun _ => trivial, fun c => ⟨fun _ => trivial, fun c2 => (o_in hk).mpr ?_⟩⟩⟩
  have := mt (o_le (n := tn) (m := k) (by omega) hk).mpr c
  omega
def mO (M : sm_M) (ob : Nat → Nat) (on : Nat) : Prop := iV M 116 6 = Int32.ofNat on ∧ ∀ i, i < on → iV M 119 i = Int32.ofNat (ob i)
def wv (ob : Nat → Nat) (on i : Nat) : Nat → Int64
  | 0 => 0
  | k + 1 => (wv ob on i k <<< ((8 : Int32).toInt64 &&& 63)) ||| (if i + k < on then Int32.ofNat (ob (i + k)) else (0 : Int32)).toInt64
theorem s157_1 {M : sm_M} {ob : Nat → Nat} {on i : Nat} {X : Nat → sm_M → Prop} (hS : SH M) (hT : cY M 26 ob on) (hi : i < on) : ∀ (d k : Nat), 8 - k = d → k ≤ 8 → sm_w 157 (31, [some (.ref 23), some (.int (Int32.ofNat i)), some (.long (wv ob on i k)), none, some (.int (Int32.ofNat k))], []) M (yJ X (fun v M2 => v = wv ob on i 8 ∧ M2 = M)) := by
  have hon : on ≤ 6000 := hT.1
  intro d
  induction d with
  | zero =>
    intro k hd hk
    have e : k = 8 := by omega
    subst e
    exact g157_1 hS ⟨fun _ => ⟨rfl, rfl⟩, fun c => absurd ((o_le (n := 8) (m := 8) (by omega) (by omega)).mpr (Nat.le_refl 8)) c⟩
  | succ d ih =>
    intro k hd hk
    refine g157_1 hS ⟨fun c => absurd ((o_le (n := 8) (by omega) (by omega)).mp c) (by omega), fun _ => ?_⟩
    rw [show Int32.ofNat i + Int32.ofNat k = Int32.ofNat (i + k) from (Int32.ofNat_add i k).symm, p30_Y hT (by omega), o_s]
    refine ⟨q30_Y hT (by omega), ?_⟩
    have e : (if (if i + k < on then Int32.ofNat (ob (i + k)) else (-1 : Int32)) < (0 : Int32) then (0 : Int32) else (if i + k < on then Int32.ofNat (ob (i + k)) else -1)) = if i + k < on then Int32.ofNat (ob (i + k)) else (0 : Int32) := by
      by_cases c : i + k < on
      · rw [if_pos c, if_pos c, if_neg (o_nn (by have := (hT.2.2 _ c).1; omega))]
      · rw [if_neg c, if_neg c, if_pos (by decide)]
    rw [e]
    exact ih (k + 1) (by omega) (by omega)
theorem s157 {M : sm_M} {x : Int32} {ob : Nat → Nat} {on : Nat} (hS : SH M) (hT : cY M 26 ob on) : sm_xJ 157 [.ref 23, .int (x)] M (fun r M2 => ¬ (¬ x < 0 ∧ x < Int32.ofNat on) ∧ r = M.1 ∧ M2 = sm_new M 51 6) (fun v M2 => (¬ x < 0 ∧ x < Int32.ofNat on) ∧ v = wv ob on x.toNatClampNeg 8 ∧ M2 = M) := by
  have hon : on ≤ 6000 := hT.1
  refine g157_0 hS ?_
  rw [hT.2.1]
  refine ⟨fun c => ⟨fun z => z.1 c, rfl, rfl⟩, fun c => ⟨fun c2 => ?_, fun c2 => ⟨fun z => c2 z.2, rfl, rfl⟩⟩⟩
  obtain ⟨i, hi, hx⟩ := z_ps c
  subst hx
  have c3 := (o_lt hi (by omega)).mp c2
  rw [o_cl hi]
  refine (s157_1 (X := fun _ _ => False) hS hT c3 8 0 (by omega) (by omega)).mono fun o M2 q => ?_
  rcases q with ⟨r, _, z⟩ | ⟨v, q1, q2, q3⟩
  · exact z.elim
  · exact Or.inr ⟨v, q1, ⟨c, c2⟩, q2, q3⟩
theorem s223_1 {M : sm_M} {ob : Nat → Nat} {on i : Nat} (hS : SH M) (hT : mO M ob on) (hon : on ≤ 6000) (hi : i < on) : ∀ (d k : Nat), 8 - k = d → k ≤ 8 → sm_w 223 (33, [some (.ref 116), some (.int (Int32.ofNat i)), some (.long (wv ob on i k)), none, some (.int (Int32.ofNat (i + k)))], []) M (rJ (fun v M2 => v = wv ob on i 8 ∧ M2 = M)) := by
  have e8 : Int32.ofNat i + 8 = Int32.ofNat (i + 8) := (Int32.ofNat_add i 8).symm
  intro d
  induction d with
  | zero =>
    intro k hd hk
    have e : k = 8 := by omega
    subst e
    refine g223_1 hS ?_
    rw [e8]
    exact ⟨fun _ => ⟨rfl, rfl⟩, fun c => absurd ((o_le (by omega) (by omega)).mpr (Nat.le_refl _)) c⟩
  | succ d ih =>
    intro k hd hk
    have ih := ih (k + 1) (by omega) (by omega)
    refine g223_1 hS ?_
    rw [e8, hT.1, o_s, o_cl (by omega)]
    refine ⟨fun c => absurd ((o_le (by omega) (by omega)).mp c) (by omega), fun _ => ⟨fun c => ?_, fun c => ⟨(o_in (by omega)).mpr ?_, ?_⟩⟩⟩
    · have c := (o_le (by omega) (by omega)).mp c
      unfold wv at ih
      rw [if_neg (by omega)] at ih
      exact ih
    · have c := mt (o_le (n := on) (m := i + k) (by omega) (by omega)).mpr c
      omega
    · have c := mt (o_le (n := on) (m := i + k) (by omega) (by omega)).mpr c
      unfold wv at ih
      rw [if_pos (by omega)] at ih
      rw [hT.2 _ (by omega)]
      exact ih
theorem s223 {M : sm_M} {x : Int32} {ob : Nat → Nat} {on : Nat} (hS : SH M) (hT : mO M ob on) (hon : on ≤ 6000) : sm_cJ 223 [.ref 116, .int (x)] M (fun v M2 => (((¬ x < 0 ∧ x < Int32.ofNat on) ∧ iV M2 116 0 = 0 ∧ v = wv ob on x.toNatClampNeg 8) ∨ (¬ (¬ x < 0 ∧ x < Int32.ofNat on) ∧ iV M2 116 0 = 1)) ∧ Fr pm0 M M2) := by
  refine g223_0 hS ?_
  have hc : (¬ x < 0 ∧ x ≤ Int32.ofNat on - 1) ↔ (¬ x < 0 ∧ x < Int32.ofNat on) := by
    have e1 : (Int32.ofNat on - 1).toInt = (on : Int) - 1 := by
      rw [z_sub, o_ti (by omega)]
      · rfl
      · rw [o_ti (by omega)]; show -2147483648 ≤ (on : Int) - 1; omega
      · rw [o_ti (by omega)]; show (on : Int) - 1 < 2147483648; omega
    rw [z_le, z_lt (y := Int32.ofNat on), e1, o_ti (by omega)]
    constructor
    · rintro ⟨a, b⟩
      exact ⟨a, by omega⟩
    · rintro ⟨a, b⟩
      exact ⟨a, by omega⟩
  rw [show (0 : Int64) = (0 : Int32).toInt64 from rfl, p166_i, hT.1, hc]
  refine ⟨fun c M4 s4 e4 => ⟨Or.inr ⟨c, by grind [iV_wI]⟩, by rw [e4]; exact (Fr.rf _ M).wI ⟨rfl, rfl⟩⟩, fun c M4 s4 e4 => ?_⟩
  have f4 : Fr pm0 M M4 := by rw [e4]; exact (Fr.rf _ M).wI ⟨rfl, rfl⟩
  have z4 : iV M4 116 0 = 0 := by grind [iV_wI]
  have c := Classical.not_not.mp c
  obtain ⟨i, hi, hx⟩ := z_ps c.1
  subst hx
  have c3 := (o_lt hi (by omega)).mp c.2
  have t4 : mO M4 ob on := ⟨by rw [e4, iV_wI, if_neg (by omega)]; exact hT.1, fun j hj => by rw [e4, iV_wI, if_neg (by omega)]; exact hT.2 j hj⟩
  rw [o_cl hi]
  refine (s223_1 s4 t4 hon c3 8 0 (by omega) (by omega)).mono fun o M2 q => ?_
  obtain ⟨v, q1, q2, q3⟩ := q
  subst q3
  exact ⟨v, q1, Or.inl ⟨c, z4, q2⟩, f4⟩
