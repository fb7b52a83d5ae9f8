/-! HYPHENS ARE READ: bits and words. -/
theorem bt_g {x : Int32} {k : Nat} (hk : k < 31) : ((x >>> (Int32.ofNat k &&& 31)) &&& (1 : Int32) = 1) ↔ x.toBitVec.getLsbD k = true := by
  have e : (Int32.ofNat k &&& 31).toBitVec.smod 32 = BitVec.ofNat 32 k := (show ∀ k, k < 31 → (Int32.ofNat k &&& 31).toBitVec.smod 32 = BitVec.ofNat 32 k from by decide) k hk
  rw [← Int32.toBitVec_inj, Int32.toBitVec_and, Int32.toBitVec_shiftRight, e]
  have h3 : k < 32 := by omega
  constructor
  · intro h
    have h2 := congrArg (fun v => v.getLsbD 0) h
    simp [BitVec.getElem_sshiftRight, BitVec.sshiftRight', Nat.mod_eq_of_lt (show k < 4294967296 by omega)] at h2
    simpa [h3] using h2
  · intro h
    apply BitVec.eq_of_getLsbD_eq
    intro i hi
    by_cases c : i = 0
    · subst c
      simp [BitVec.getElem_sshiftRight, BitVec.sshiftRight', Nat.mod_eq_of_lt (show k < 4294967296 by omega), h3]
      simpa [h3] using h
    · simp [BitVec.sshiftRight', c]
theorem bt_or {x : Int32} {c k : Nat} (hc : c ≤ 30) (hk : k < 30) : ((x ||| ((1 : Int32) <<< (Int32.ofNat c &&& 31))) >>> (Int32.ofNat k &&& 31)) &&& (1 : Int32) = 1 ↔ ((x >>> (Int32.ofNat k &&& 31)) &&& (1 : Int32) = 1 ∨ k = c) := by
  rw [bt_g (by omega), bt_g (by omega)]
  have e : (Int32.ofNat c &&& 31).toBitVec.smod 32 = BitVec.ofNat 32 c := (show ∀ k, k < 31 → (Int32.ofNat k &&& 31).toBitVec.smod 32 = BitVec.ofNat 32 k from by decide) c (by omega)
  rw [Int32.toBitVec_or, Int32.toBitVec_shiftLeft, e, BitVec.getLsbD_or]
  have h2 : (Int32.toBitVec 1 <<< BitVec.ofNat 32 c).getLsbD k = decide (k = c) := (show ∀ c, c < 31 → ∀ k, k < 30 → (Int32.toBitVec 1 <<< BitVec.ofNat 32 c).getLsbD k = decide (k = c) from by decide +kernel) c (by omega) k hk
  rw [h2]
  simp
theorem bt_0 {k : Nat} (hk : k < 30) : ¬ (((0 : Int32) >>> (Int32.ofNat k &&& 31)) &&& (1 : Int32) = 1) := by
  rw [bt_g (by omega)]
  simp
theorem nib {X k : Nat} (hX : X < 4503599627370496) (hk : k ≤ 12) : ((Int64.ofNat X >>> (((4 : Int32) * Int32.ofNat k).toInt64 &&& 63)).toInt32 &&& (15 : Int32)) = Int32.ofNat (X / 16 ^ k % 16) := by
  have e : (((4 : Int32) * Int32.ofNat k).toInt64 &&& 63) = Int64.ofNat (4 * k) := (show ∀ k, k < 13 → (((4 : Int32) * Int32.ofNat k).toInt64 &&& 63) = Int64.ofNat (4 * k) from by decide) k (by omega)
  have e2 : (Int64.ofNat (4 * k)).toBitVec.smod 64 = BitVec.ofNat 64 (4 * k) := (show ∀ k, k < 13 → (Int64.ofNat (4 * k)).toBitVec.smod 64 = BitVec.ofNat 64 (4 * k) from by decide) k (by omega)
  have e3 : Int64.ofNat X >>> Int64.ofNat (4 * k) = Int64.ofNat (X / 16 ^ k) := by
    apply Int64.toBitVec_inj.mp
    rw [Int64.toBitVec_shiftRight, e2]
    have hm : (Int64.ofNat X).toBitVec.msb = false := by
      rw [BitVec.msb_eq_false_iff_two_mul_lt]
      show 2 * (X % 2 ^ 64) < 2 ^ 64
      rw [Nat.mod_eq_of_lt (by omega)]
      omega
    rw [BitVec.sshiftRight_eq', BitVec.sshiftRight_eq_of_msb_false hm]
    apply BitVec.eq_of_toNat_eq
    rw [BitVec.toNat_ushiftRight]
    show (X % 2 ^ 64) >>> ((4 * k) % 2 ^ 64) = (X / 16 ^ k) % 2 ^ 64
    have h4 : X / 16 ^ k ≤ X := Nat.div_le_self _ _
    rw [Nat.mod_eq_of_lt (show X < 2 ^ 64 by omega), Nat.mod_eq_of_lt (show 4 * k < 2 ^ 64 by omega), Nat.mod_eq_of_lt (show X / 16 ^ k < 2 ^ 64 by omega), Nat.shiftRight_eq_div_pow, Nat.pow_mul]
  rw [e, e3, Int64.toInt32_ofNat']
  apply Int32.toBitVec_inj.mp
  rw [Int32.toBitVec_and]
  apply BitVec.eq_of_toNat_eq
  rw [BitVec.toNat_and]
  show (X / 16 ^ k) % 2 ^ 32 &&& 15 = (X / 16 ^ k % 16) % 2 ^ 32
  rw [show (15 : Nat) = 2 ^ 4 - 1 from rfl, Nat.and_two_pow_sub_one_eq_mod]
  omega
theorem or_add {X d c : Nat} (hX : X < 16 ^ c) (hc : c ≤ 12) (hd : d ≤ 9) : Int64.ofNat X ||| ((Int32.ofNat d).toInt64 <<< (((4 : Int32) * Int32.ofNat c).toInt64 &&& 63)) = Int64.ofNat (X + d * 16 ^ c) := by
  have e : (((4 : Int32) * Int32.ofNat c).toInt64 &&& 63) = Int64.ofNat (4 * c) := (show ∀ k, k < 13 → (((4 : Int32) * Int32.ofNat k).toInt64 &&& 63) = Int64.ofNat (4 * k) from by decide) c (by omega)
  have e2 : (Int64.ofNat (4 * c)).toBitVec.smod 64 = BitVec.ofNat 64 (4 * c) := (show ∀ k, k < 13 → (Int64.ofNat (4 * k)).toBitVec.smod 64 = BitVec.ofNat 64 (4 * k) from by decide) c (by omega)
  have e4 : (Int32.ofNat d).toInt64 = Int64.ofNat d := (show ∀ d, d < 10 → (Int32.ofNat d).toInt64 = Int64.ofNat d from by decide) d (by omega)
  have p16 : (16 : Nat) ^ c ≤ 281474976710656 := (show ∀ c, c < 13 → (16 : Nat) ^ c ≤ 281474976710656 from by decide) c (by omega)
  have e5 : (16 : Nat) ^ c = 2 ^ (4 * c) := by rw [Nat.pow_mul]
  have h9 : d * 16 ^ c ≤ 9 * 16 ^ c := Nat.mul_le_mul_right _ hd
  rw [e, e4]
  apply Int64.toBitVec_inj.mp
  rw [Int64.toBitVec_or, Int64.toBitVec_shiftLeft, e2]
  apply BitVec.eq_of_toNat_eq
  rw [BitVec.toNat_or, BitVec.shiftLeft_eq', BitVec.toNat_shiftLeft]
  show X % 2 ^ 64 ||| (d % 2 ^ 64) <<< ((4 * c) % 2 ^ 64) % 2 ^ 64 = (X + d * 16 ^ c) % 2 ^ 64
  rw [Nat.mod_eq_of_lt (show X < 2 ^ 64 by omega), Nat.mod_eq_of_lt (show d < 2 ^ 64 by omega), Nat.mod_eq_of_lt (show 4 * c < 2 ^ 64 by omega), Nat.shiftLeft_eq, ← e5, Nat.mod_eq_of_lt (show d * 16 ^ c < 2 ^ 64 by omega), Nat.mod_eq_of_lt (show X + d * 16 ^ c < 2 ^ 64 by omega)]
  have := Nat.two_pow_add_eq_or_of_lt (i := 4 * c) (b := X) (by rw [← e5]; exact hX) d
  rw [e5, Nat.or_comm, Nat.mul_comm d, ← this, Nat.add_comm]
/-- letters ahead of b0 + j -/
def xl (tb : Nat → Nat) (b0 : Nat) : Nat → Nat
  | 0 => 0
  | j + 1 => if sl (tb (b0 + j)) = true then xl tb b0 j + 1 else xl tb b0 j
/-- a letter, or a digit, stands last -/
def lsl (tb : Nat → Nat) (b0 j : Nat) : Prop := 0 < j ∧ sl (tb (b0 + (j - 1))) = true
def lsd (tb : Nat → Nat) (b0 j : Nat) : Prop := 0 < j ∧ dg (tb (b0 + (j - 1))) = true
/-- an exception, as far as b0 + j -/
def xg (tb : Nat → Nat) (b0 : Nat) : Nat → Prop
  | 0 => True
  | j + 1 => xg tb b0 j ∧ (sl (tb (b0 + j)) = true ∧ xl tb b0 j < 30 ∨ tb (b0 + j) = 45 ∧ lsl tb b0 j)
def xL (tb : Nat → Nat) (b0 : Nat) : Nat → Nat → Nat
  | 0 => fun _ => 0
  | j + 1 => if sl (tb (b0 + j)) = true then tp (xL tb b0 j) (xl tb b0 j) (tb (b0 + j)) else xL tb b0 j
def xP (tb : Nat → Nat) (b0 : Nat) : Nat → Nat → Nat
  | 0 => fun _ => 0
  | j + 1 => if sl (tb (b0 + j)) = true then xP tb b0 j else tp (xP tb b0 j) (xl tb b0 j) 1
/-- a pattern, as far as b0 + j -/
def yg (tb : Nat → Nat) (b0 : Nat) : Nat → Prop
  | 0 => True
  | j + 1 => yg tb b0 j ∧ (sl (tb (b0 + j)) = true ∧ xl tb b0 j < 12 ∨ dg (tb (b0 + j)) = true ∧ ¬ lsd tb b0 j)
def yS (tb : Nat → Nat) (b0 l : Nat) : Nat → Nat → Nat
  | 0 => if l = 1 then tp (fun _ => 0) 0 46 else fun _ => 0
  | j + 1 => if sl (tb (b0 + j)) = true then tp (yS tb b0 l j) (l + xl tb b0 j) (tb (b0 + j)) else yS tb b0 l j
def yD (tb : Nat → Nat) (b0 l : Nat) : Nat → Nat → Nat
  | 0 => fun _ => 0
  | j + 1 => if dg (tb (b0 + j)) = true then tp (yD tb b0 l j) (l + xl tb b0 j) (tb (b0 + j) - 48) else yD tb b0 l j
def yX (tb : Nat → Nat) (b0 : Nat) : Nat → Nat
  | 0 => 0
  | j + 1 => if dg (tb (b0 + j)) = true then yX tb b0 j + (tb (b0 + j) - 48) * 16 ^ xl tb b0 j else yX tb b0 j
theorem xl_y {tb : Nat → Nat} {b0 j : Nat} (h : sl (tb (b0 + j)) = true) : xl tb b0 (j + 1) = xl tb b0 j + 1 := if_pos h
theorem xl_n {tb : Nat → Nat} {b0 j : Nat} (h : ¬ sl (tb (b0 + j)) = true) : xl tb b0 (j + 1) = xl tb b0 j := if_neg h
theorem lsl_s {tb : Nat → Nat} {b0 j : Nat} : lsl tb b0 (j + 1) ↔ sl (tb (b0 + j)) = true := by
  unfold lsl
  rw [Nat.add_sub_cancel]
  exact ⟨fun z => z.2, fun z => ⟨by omega, z⟩⟩
theorem lsd_s {tb : Nat → Nat} {b0 j : Nat} : lsd tb b0 (j + 1) ↔ dg (tb (b0 + j)) = true := by
  unfold lsd
  rw [Nat.add_sub_cancel]
  exact ⟨fun z => z.2, fun z => ⟨by omega, z⟩⟩
theorem dgt {X d c k : Nat} (hX : X < 16 ^ c) (hd : d ≤ 9) : (X + d * 16 ^ c) / 16 ^ k % 16 = if k = c then d else X / 16 ^ k % 16 := by
  have pos : ∀ n : Nat, 0 < (16 : Nat) ^ n := fun n => Nat.pow_pos (by omega)
  rcases Nat.lt_trichotomy k c with z | z | z
  · rw [if_neg (by omega)]
    obtain ⟨t, rfl⟩ : ∃ t, c = k + 1 + t := ⟨c - k - 1, by omega⟩
    have e : d * 16 ^ (k + 1 + t) = 16 ^ k * (16 * (16 ^ t * d)) := by
      rw [Nat.pow_add, Nat.pow_add, Nat.pow_one]
      rw [Nat.mul_comm d, Nat.mul_assoc, Nat.mul_assoc]
    rw [e, Nat.add_mul_div_left _ _ (pos k)]
    omega
  · subst z
    rw [if_pos rfl, Nat.add_mul_div_right _ _ (pos k), Nat.div_eq_of_lt hX]
    omega
  · rw [if_neg (by omega)]
    have h1 : (16 : Nat) ^ (c + 1) ≤ 16 ^ k := Nat.pow_le_pow_right (by omega) (by omega)
    have h2 : (16 : Nat) ^ (c + 1) = 16 * 16 ^ c := by rw [Nat.pow_succ]; omega
    have h3 : d * 16 ^ c ≤ 9 * 16 ^ c := Nat.mul_le_mul_right _ hd
    rw [Nat.div_eq_of_lt (by omega), Nat.div_eq_of_lt (by omega)]
theorem yX_i {tb : Nat → Nat} {b0 l : Nat} : ∀ j, yg tb b0 j → yX tb b0 j < 16 ^ (xl tb b0 j + 1) ∧ (¬ lsd tb b0 j → yX tb b0 j < 16 ^ xl tb b0 j) ∧ (∀ k, yX tb b0 j / 16 ^ k % 16 = yD tb b0 l j (k + l)) ∧ (∀ i, l + xl tb b0 j < i → yD tb b0 l j i = 0) ∧ (∀ i, i < l → yD tb b0 l j i = 0) ∧ ∀ i, yD tb b0 l j i ≤ 9
  | 0, _ => ⟨by show 0 < 16 ^ (0 + 1); decide, fun _ => by show 0 < 16 ^ 0; decide, fun k => by show 0 / 16 ^ k % 16 = 0; rw [Nat.zero_div], fun i _ => rfl, fun i _ => rfl, fun i => Nat.zero_le _⟩
  | j + 1, h => by
    obtain ⟨h1, h2⟩ := h
    obtain ⟨i1, i2, i3, i4, i5, i6⟩ := yX_i (l := l) j h1
    rcases h2 with ⟨y1, y2⟩ | ⟨y1, y2⟩
    · have nd := sl_dg y1
      have eX : yX tb b0 (j + 1) = yX tb b0 j := if_neg nd
      have eD : yD tb b0 l (j + 1) = yD tb b0 l j := if_neg nd
      have p1 : (16 : Nat) ^ (xl tb b0 j + 1 + 1) = 16 * 16 ^ (xl tb b0 j + 1) := by rw [Nat.pow_succ]; omega
      rw [eX, eD, xl_y y1]
      exact ⟨by omega, fun _ => i1, i3, fun i hi => i4 i (by omega), i5, i6⟩
    · have ns : ¬ sl (tb (b0 + j)) = true := fun z => sl_dg z y1
      have d9 := dg_48 y1
      have eX : yX tb b0 (j + 1) = yX tb b0 j + (tb (b0 + j) - 48) * 16 ^ xl tb b0 j := if_pos y1
      have eD : yD tb b0 l (j + 1) = tp (yD tb b0 l j) (l + xl tb b0 j) (tb (b0 + j) - 48) := if_pos y1
      have p1 : (16 : Nat) ^ (xl tb b0 j + 1) = 16 * 16 ^ xl tb b0 j := by rw [Nat.pow_succ]; omega
      have p2 : (tb (b0 + j) - 48) * 16 ^ xl tb b0 j ≤ 9 * 16 ^ xl tb b0 j := Nat.mul_le_mul_right _ (by omega)
      have p3 := i2 y2
      rw [eX, eD, xl_n ns]
      refine ⟨by omega, fun z => absurd (lsd_s.mpr y1) z, fun k => ?_, fun i hi => ?_, fun i hi => ?_, fun i => ?_⟩
      · rw [dgt p3 (by omega)]
        by_cases e : k = xl tb b0 j
        · rw [if_pos e, e, Nat.add_comm (xl tb b0 j) l, tp_e]
        · rw [if_neg e, tp_o _ _ _ (by omega)]; exact i3 k
      · rw [tp_o _ _ _ (by omega)]; exact i4 i hi
      · rw [tp_o _ _ _ (by omega)]; exact i5 i hi
      · by_cases e : i = l + xl tb b0 j
        · rw [e, tp_e]; omega
        · rw [tp_o _ _ _ e]; exact i6 i
theorem yg_x {tb : Nat → Nat} {b0 : Nat} : ∀ j, yg tb b0 j → xl tb b0 j ≤ 12
  | 0, _ => by show 0 ≤ 12; omega
  | j + 1, h => by
    have ih := yg_x j h.1
    rcases h.2 with ⟨y1, y2⟩ | ⟨y1, y2⟩
    · rw [xl_y y1]; omega
    · rw [xl_n (fun z => sl_dg z y1)]; exact ih
/-- the signs of a pattern: letters, behind the dot ahead -/
theorem yS_i {tb : Nat → Nat} {b0 l : Nat} (hl : l ≤ 1) : ∀ j, (∀ i, l ≤ i → i < l + xl tb b0 j → sl (yS tb b0 l j i) = true) ∧ (l = 1 → yS tb b0 l j 0 = 46)
  | 0 => ⟨fun i h1 h2 => absurd h2 (by show ¬ i < l + 0; omega), fun e => by show (if l = 1 then tp (fun _ => 0) 0 46 else fun _ => 0) 0 = 46; rw [if_pos e, tp_e]⟩
  | j + 1 => by
    obtain ⟨i1, i2⟩ := yS_i (tb := tb) (b0 := b0) hl j
    by_cases y : sl (tb (b0 + j)) = true
    · have eS : yS tb b0 l (j + 1) = tp (yS tb b0 l j) (l + xl tb b0 j) (tb (b0 + j)) := if_pos y
      rw [eS, xl_y y]
      refine ⟨fun i h1 h2 => ?_, fun e => ?_⟩
      · by_cases ei : i = l + xl tb b0 j
        · rw [ei, tp_e]; exact y
        · rw [tp_o _ _ _ ei]; exact i1 i h1 (by omega)
      · rw [tp_o _ _ _ (by omega)]; exact i2 e
    · have eS : yS tb b0 l (j + 1) = yS tb b0 l j := if_neg y
      rw [eS, xl_n y]
      exact ⟨i1, i2⟩
theorem xg_x {tb : Nat → Nat} {b0 : Nat} : ∀ j, xg tb b0 j → xl tb b0 j ≤ 30
  | 0, _ => by show 0 ≤ 30; omega
  | j + 1, h => by
    have ih := xg_x j h.1
    by_cases y : sl (tb (b0 + j)) = true
    · rw [xl_y y]
      rcases h.2 with ⟨y1, y2⟩ | ⟨y1, y2⟩
      · omega
      · have := sl_97 y; omega
    · rw [xl_n y]; exact ih
theorem xL_i {tb : Nat → Nat} {b0 : Nat} : ∀ j, (∀ i, i < xl tb b0 j → sl (xL tb b0 j i) = true) ∧ ∀ i, xP tb b0 j i ≤ 1
  | 0 => ⟨fun i h => absurd h (Nat.not_lt_zero _), fun i => Nat.zero_le _⟩
  | j + 1 => by
    obtain ⟨i1, i2⟩ := xL_i (tb := tb) (b0 := b0) j
    by_cases y : sl (tb (b0 + j)) = true
    · have eS : xL tb b0 (j + 1) = tp (xL tb b0 j) (xl tb b0 j) (tb (b0 + j)) := if_pos y
      have eP : xP tb b0 (j + 1) = xP tb b0 j := if_pos y
      rw [eS, eP, xl_y y]
      refine ⟨fun i h2 => ?_, i2⟩
      by_cases ei : i = xl tb b0 j
      · rw [ei, tp_e]; exact y
      · rw [tp_o _ _ _ ei]; exact i1 i (by omega)
    · have eS : xL tb b0 (j + 1) = xL tb b0 j := if_neg y
      have eP : xP tb b0 (j + 1) = tp (xP tb b0 j) (xl tb b0 j) 1 := if_neg y
      rw [eS, eP, xl_n y]
      refine ⟨i1, fun i => ?_⟩
      by_cases ei : i = xl tb b0 j
      · rw [ei, tp_e]; omega
      · rw [tp_o _ _ _ ei]; exact i2 i
section EXC
variable {x0 : Nat} {T : Nat → Nat → Nat → Nat}
theorem sml_sl {c : Nat} (h : sl c = true) : sml c = c ∧ c < 128 := by
  have := sl_97 h
  unfold sml
  rw [if_neg (by omega)]
  exact ⟨rfl, by omega⟩
/-- the table with one more exception, or one told anew -/
noncomputable def tEx (T : Nat → Nat → Nat → Nat) (L : Nat → Nat) (n : Nat) (g : Nat → Nat) : Nat → Nat → Nat → Nat := fun a b c => if a = 4 ∧ b = exq T n L then L c else if a = 5 ∧ b = exq T n L then g c else if a = 6 ∧ b = exq T n L then n else if a = 0 ∧ b = 0 ∧ c = 1 then (if exq T n L < T 0 0 1 then T 0 0 1 else T 0 0 1 + 1) else T a b c
theorem tEx_1 {L g : Nat → Nat} {n : Nat} : tEx T L n g 0 0 1 = (if exq T n L < T 0 0 1 then T 0 0 1 else T 0 0 1 + 1) := by
  unfold tEx
  rw [if_neg (by omega), if_neg (by omega), if_neg (by omega), if_pos ⟨rfl, rfl, rfl⟩]
theorem tEx_x {L g : Nat → Nat} {n a b c : Nat} (h : ¬ ((a = 4 ∨ a = 5 ∨ a = 6) ∧ b = exq T n L)) (h2 : ¬ (a = 0 ∧ b = 0 ∧ c = 1)) : tEx T L n g a b c = T a b c := by
  unfold tEx
  rw [if_neg (by omega), if_neg (by omega), if_neg (by omega), if_neg (by omega)]
theorem tEx_4 {L g : Nat → Nat} {n c : Nat} : tEx T L n g 4 (exq T n L) c = L c := by
  unfold tEx
  rw [if_pos ⟨rfl, rfl⟩]
theorem tEx_5 {L g : Nat → Nat} {n c : Nat} : tEx T L n g 5 (exq T n L) c = g c := by
  unfold tEx
  rw [if_neg (by omega), if_pos ⟨rfl, rfl⟩]
theorem tEx_6 {L g : Nat → Nat} {n c : Nat} : tEx T L n g 6 (exq T n L) c = n := by
  unfold tEx
  rw [if_neg (by omega), if_neg (by omega), if_pos ⟨rfl, rfl⟩]
theorem exq_le {n : Nat} {L : Nat → Nat} : exq T n L ≤ T 0 0 1 := fs_le (Nat.zero_le _)
def tEn (T : Nat → Nat → Nat → Nat) (p q : Nat) : Nat → Nat → Nat → Nat := fun a b c => if a = 0 ∧ b = 0 ∧ c = 2 then p else if a = 0 ∧ b = 0 ∧ c = 3 then q else T a b c
def T0 : Nat → Nat → Nat → Nat := fun a b c => if a = 0 ∧ b = 0 ∧ c = 2 then 2 else if a = 0 ∧ b = 0 ∧ c = 3 then 3 else 0
theorem wT0 : wT T0 := ⟨⟨by decide, by decide, by decide, by decide, by decide, by decide⟩, fun p hp => absurd hp (Nat.not_lt_zero _), fun e he => absurd he (Nat.not_lt_zero _)⟩
theorem wT.en {p q : Nat} (h : wT T) (hp : 1 ≤ p ∧ p ≤ 9) (hq : 1 ≤ q ∧ q ≤ 9) : wT (tEn T p q) := by
  obtain ⟨⟨h1, h2, h3, h4, h5, h6⟩, h7, h8⟩ := h
  have e2 : tEn T p q 0 0 2 = p := by unfold tEn; rw [if_pos ⟨rfl, rfl, rfl⟩]
  have e3 : tEn T p q 0 0 3 = q := by unfold tEn; rw [if_neg (by omega), if_pos ⟨rfl, rfl, rfl⟩]
  have e0 : ∀ a b c, ¬ (a = 0 ∧ b = 0 ∧ c = 2) → ¬ (a = 0 ∧ b = 0 ∧ c = 3) → tEn T p q a b c = T a b c := fun a b c z1 z2 => by unfold tEn; rw [if_neg z1, if_neg z2]
  refine ⟨⟨by rw [e0 _ _ _ (by omega) (by omega)]; exact h1, by rw [e0 _ _ _ (by omega) (by omega)]; exact h2, by rw [e2]; exact hp.1, by rw [e2]; exact hp.2, by rw [e3]; exact hq.1, by rw [e3]; exact hq.2⟩, fun p hp => ?_, fun e he => ?_⟩
  · rw [e0 _ _ _ (by omega) (by omega)] at hp
    have z := h7 p hp
    unfold ld at z ⊢
    rw [e0 1 _ _ (by omega) (by omega), e0 3 _ _ (by omega) (by omega)]
    exact ⟨z.1, fun i hi => by rw [e0 _ _ _ (by omega) (by omega)]; exact z.2.1 i hi, fun i hi => by rw [e0 _ _ _ (by omega) (by omega)]; exact z.2.2.1 i hi, fun y => by rw [e0 _ _ _ (by omega) (by omega)]; exact z.2.2.2.1 y, fun i i1 i2 => by rw [e0 _ _ _ (by omega) (by omega)]; exact z.2.2.2.2 i i1 i2⟩
  · rw [e0 _ _ _ (by omega) (by omega)] at he
    have z := h8 e he
    exact ⟨by rw [e0 _ _ _ (by omega) (by omega)]; exact z.1, fun i hi => by rw [e0 _ _ _ (by omega) (by omega)] at hi ⊢; exact z.2.1 i hi, fun i => by rw [e0 _ _ _ (by omega) (by omega)]; exact z.2.2 i⟩
theorem wT.ex {L g : Nat → Nat} {n : Nat} (h : wT T) (hr : exq T n L < T 0 0 1 ∨ T 0 0 1 < 60) (hn : n ≤ 30) (hL : ∀ i, i < n → L i < 128) (hg : ∀ i, g i ≤ 1) : wT (tEx T L n g) := by
  obtain ⟨⟨h1, h2, h3, h4, h5, h6⟩, h7, h8⟩ := h
  have hq := exq_le (T := T) (n := n) (L := L)
  have e0 : ∀ a b c, ¬ (a = 4 ∨ a = 5 ∨ a = 6) → ¬ (a = 0 ∧ b = 0 ∧ c = 1) → tEx T L n g a b c = T a b c := fun a b c z1 z2 => tEx_x (fun z => z1 z.1) z2
  refine ⟨⟨by rw [e0 _ _ _ (by omega) (by omega)]; exact h1, ?_, by rw [e0 _ _ _ (by omega) (by omega)]; exact h3, by rw [e0 _ _ _ (by omega) (by omega)]; exact h4, by rw [e0 _ _ _ (by omega) (by omega)]; exact h5, by rw [e0 _ _ _ (by omega) (by omega)]; exact h6⟩, fun p hp => ?_, fun e he => ?_⟩
  · rw [tEx_1]
    by_cases z : exq T n L < T 0 0 1
    · rw [if_pos z]; exact h2
    · rw [if_neg z]; omega
  · rw [e0 _ _ _ (by omega) (by omega)] at hp
    have z := h7 p hp
    unfold ld at z ⊢
    rw [e0 1 _ _ (by omega) (by omega), e0 3 _ _ (by omega) (by omega)]
    exact ⟨z.1, fun i hi => by rw [e0 _ _ _ (by omega) (by omega)]; exact z.2.1 i hi, fun i hi => by rw [e0 _ _ _ (by omega) (by omega)]; exact z.2.2.1 i hi, fun y => by rw [e0 _ _ _ (by omega) (by omega)]; exact z.2.2.2.1 y, fun i i1 i2 => by rw [e0 _ _ _ (by omega) (by omega)]; exact z.2.2.2.2 i i1 i2⟩
  · by_cases ee : e = exq T n L
    · rw [ee, tEx_6]
      exact ⟨hn, fun i hi => by rw [tEx_4]; exact hL i hi, fun i => by rw [tEx_5]; exact hg i⟩
    · rw [tEx_1] at he
      have he2 : e < T 0 0 1 := by
        by_cases z : exq T n L < T 0 0 1
        · rw [if_pos z] at he; exact he
        · rw [if_neg z] at he; omega
      have z := h8 e he2
      rw [tEx_x (by omega) (by omega)]
      exact ⟨z.1, fun i hi => by rw [tEx_x (by omega) (by omega)]; exact z.2.1 i hi, fun i => by rw [tEx_x (by omega) (by omega)]; exact z.2.2 i⟩
theorem wT.pt {s g : Nat → Nat} {n : Nat} (h : wT T) (hr : pxq T s n < T 0 0 0 ∨ T 0 0 0 < 300) (hn : 1 + (if s 0 = 46 then 1 else 0) ≤ n ∧ n ≤ 14) (hs : ∀ i, i < n → s i < 128) (hg : ∀ i, g i ≤ 9) (h0 : s 0 = 46 → g 0 = 0) (hz : ∀ i, 12 + (if s 0 = 46 then 1 else 0) < i → i ≤ n → g i = 0) : wT (tPt T s n g) := by
  obtain ⟨⟨h1, h2, h3, h4, h5, h6⟩, h7, h8⟩ := h
  have hq := pxq_le (T := T) (n := n) (s := s)
  have e0 : ∀ a b c, ¬ (a = 1 ∨ a = 2 ∨ a = 3) → ¬ (a = 0 ∧ b = 0 ∧ c = 0) → tPt T s n g a b c = T a b c := fun a b c z1 z2 => tPt_x (fun z => z1 z.1) z2
  refine ⟨⟨?_, by rw [e0 _ _ _ (by omega) (by omega)]; exact h2, by rw [e0 _ _ _ (by omega) (by omega)]; exact h3, by rw [e0 _ _ _ (by omega) (by omega)]; exact h4, by rw [e0 _ _ _ (by omega) (by omega)]; exact h5, by rw [e0 _ _ _ (by omega) (by omega)]; exact h6⟩, fun p hp => ?_, fun e he => ?_⟩
  · rw [tPt_0]
    by_cases z : pxq T s n < T 0 0 0
    · rw [if_pos z]; exact h1
    · rw [if_neg z]; omega
  · by_cases ep : p = pxq T s n
    · rw [ep]
      unfold ld
      rw [tPt_1, tPt_3]
      refine ⟨hn, fun i hi => by rw [tPt_1]; exact hs i hi, fun i hi => by rw [tPt_2]; exact hg i, fun y => ?_, fun i i1 i2 => by rw [tPt_2]; exact hz i i1 i2⟩
      rw [tPt_2]
      by_cases z : s 0 = 46
      · exact h0 z
      · rw [if_neg z] at y; omega
    · rw [tPt_0] at hp
      have hp2 : p < T 0 0 0 := by
        by_cases z : pxq T s n < T 0 0 0
        · rw [if_pos z] at hp; exact hp
        · rw [if_neg z] at hp; omega
      have z := h7 p hp2
      unfold ld at z ⊢
      rw [tPt_x (a := 1) (c := 0) (by omega) (by omega), tPt_x (a := 3) (by omega) (by omega)]
      exact ⟨z.1, fun i hi => by rw [tPt_x (by omega) (by omega)]; exact z.2.1 i hi, fun i hi => by rw [tPt_x (by omega) (by omega)]; exact z.2.2.1 i hi, fun y => by rw [tPt_x (by omega) (by omega)]; exact z.2.2.2.1 y, fun i i1 i2 => by rw [tPt_x (by omega) (by omega)]; exact z.2.2.2.2 i i1 i2⟩
  · rw [e0 _ _ _ (by omega) (by omega)] at he
    have z := h8 e he
    exact ⟨by rw [e0 _ _ _ (by omega) (by omega)]; exact z.1, fun i hi => by rw [e0 _ _ _ (by omega) (by omega)] at hi ⊢; exact z.2.1 i hi, fun i => by rw [e0 _ _ _ (by omega) (by omega)]; exact z.2.2 i⟩
def p67 (x0 : Nat) : Nat → Nat → Prop := fun a k => a = x0 ∧ k = 10 ∨ x0 + 6 ≤ a ∧ a ≤ x0 + 8
theorem s67 {M : sm_M} {L g : Nat → Nat} {n : Nat} {x3 : Int32} (hS : SH M) (hx : fH x0) (hT : wT T) (hn : n ≤ 30) (hs : ∀ i, i < n → sl (L i) = true) (hL : ∀ j, j < n → iV M 35 j = Int32.ofNat (L j)) (hTr : cTr M x0 T) (hb : ∀ k, k < 30 → ((x3 >>> (Int32.ofNat k &&& 31)) &&& (1 : Int32) = 1 ↔ g k = 1)) : sm_cI 67 [.ref x0, .ref 35, .int (Int32.ofNat n), .int (x3)] M (fun v M2 => ((v = 1 ∧ (exq T n L < T 0 0 1 ∨ T 0 0 1 < 60) ∧ cTr M2 x0 (tEx T L n g)) ∨ (v = 0 ∧ ¬ (exq T n L < T 0 0 1 ∨ T 0 0 1 < 60))) ∧ Fr (p67 x0) M M2) := by
  have hxx := fH_s hx
  have hE := hT.1
  obtain ⟨N, par, sg, nd, hC, hG, hp0⟩ := hTr
  have hq := exq_le (T := T) (n := n) (L := L)
  have a35 : sA 35 1 30 := ⟨rfl, rfl⟩
  refine g67_0 hS hx a35 ((s68 (f := 0) hS hx a35 hT (by omega) (by omega) hG fun i hi => ⟨(sml_sl (hs i hi)).2, by rw [Nat.zero_add]; exact hL i hi⟩).mono fun v2 M1 k1 s1 => ?_)
  obtain ⟨k11, k12⟩ := k1
  subst k12
  have e0 : ∀ a b c, ¬ (a = 4 ∨ a = 5 ∨ a = 6) → ¬ (a = 0 ∧ b = 0 ∧ c = 1) → tEx T L n g a b c = T a b c := fun a b c z1 z2 => tEx_x (fun z => z1 z.1) z2
  have dkx : ∀ p k, dk (tEx T L n g) p k = dk T p k := fun p k => by
    unfold dk ld
    rw [e0 _ _ _ (by omega) (by omega), e0 _ _ _ (by omega) (by omega), e0 _ _ _ (by omega) (by omega)]
  -- the rest of the table
  have rest : ∀ M5, (∀ a k, ¬ p67 x0 a k → iV M5 a k = iV M1 a k) → (∀ a k, jV M5 a k = jV M1 a k) → iV M5 x0 10 = Int32.ofNat (tEx T L n g 0 0 1) → (∀ e, e < tEx T L n g 0 0 1 → iV M5 (x0 + 7) e = Int32.ofNat (tEx T L n g 6 e 0) ∧ (∀ i, i < tEx T L n g 6 e 0 → iV M5 (x0 + 6) (30 * e + i) = Int32.ofNat (tEx T L n g 4 e i)) ∧ ∀ k, k < 30 → ((iV M5 (x0 + 8) e >>> (Int32.ofNat k &&& 31)) &&& (1 : Int32) = 1 ↔ tEx T L n g 5 e k = 1)) → cTr M5 x0 (tEx T L n g) := fun M5 i5 j5 h10 hex => by
    obtain ⟨⟨g1, g2, g3, g4⟩, ⟨g5, g6⟩, g7, g8, g9⟩ := hG
    have ii : ∀ a k, ¬ (a = x0 ∧ k = 10) → x0 ≤ a → a ≤ x0 + 5 → iV M5 a k = iV M1 a k := fun a k z1 z2 z3 => i5 a k (by unfold p67; omega)
    refine ⟨N, par, sg, nd, ⟨hC.1, by rw [ii _ _ (by omega) (by omega) (by omega)]; exact hC.2.1, fun z hz => by rw [ii _ _ (by omega) (by omega) (by omega)]; exact hC.2.2.1 z hz, fun z z1 z2 => by rw [ii _ _ (by omega) (by omega) (by omega), ii _ _ (by omega) (by omega) (by omega)]; exact hC.2.2.2.1 z z1 z2, hC.2.2.2.2⟩, ⟨⟨?_, h10, ?_, ?_⟩, ⟨?_, ?_⟩, fun y hy => ?_, fun p hp => ?_, hex⟩, hp0⟩
    · rw [e0 _ _ _ (by omega) (by omega), ii _ _ (by omega) (by omega) (by omega)]; exact g1
    · rw [e0 _ _ _ (by omega) (by omega), ii _ _ (by omega) (by omega) (by omega)]; exact g3
    · rw [e0 _ _ _ (by omega) (by omega), ii _ _ (by omega) (by omega) (by omega)]; exact g4
    · rw [e0 _ _ _ (by omega) (by omega)]; exact g5
    · rw [e0 _ _ _ (by omega) (by omega)]; exact g6
    · rw [e0 _ _ _ (by omega) (by omega), ii _ _ (by omega) (by omega) (by omega)]; exact g7 y hy
    · rw [e0 _ _ _ (by omega) (by omega)] at hp
      obtain ⟨u1, u2, u3⟩ := g8 p hp
      refine ⟨u1, ?_, fun k hk => by rw [dkx, j5]; exact u3 k hk⟩
      rw [e0 _ _ _ (by omega) (by omega), wk_c _ (fun i _ => e0 _ _ _ (by omega) (by omega))]
      exact u2
  have h10 := hG.1.2.1
  have old : ∀ e, e < T 0 0 1 → ¬ e = exq T n L → ∀ M5, (∀ a k, (a = x0 + 7 ∨ a = x0 + 8) → ¬ k = exq T n L → iV M5 a k = iV M1 a k) → (∀ k, ¬ (30 * exq T n L ≤ k ∧ k < 30 * exq T n L + n) → iV M5 (x0 + 6) k = iV M1 (x0 + 6) k) → iV M5 (x0 + 7) e = Int32.ofNat (tEx T L n g 6 e 0) ∧ (∀ i, i < tEx T L n g 6 e 0 → iV M5 (x0 + 6) (30 * e + i) = Int32.ofNat (tEx T L n g 4 e i)) ∧ ∀ k, k < 30 → ((iV M5 (x0 + 8) e >>> (Int32.ofNat k &&& 31)) &&& (1 : Int32) = 1 ↔ tEx T L n g 5 e k = 1) := fun e he hne M5 i5 l5 => by
    obtain ⟨u1, u2, u3⟩ := hG.2.2.2.2 e he
    have w6 := (hT.2.2 e he).1
    rw [tEx_x (by omega) (by omega)]
    refine ⟨by rw [i5 _ _ (Or.inl rfl) hne]; exact u1, fun i hi => ?_, fun k hk => ?_⟩
    · rw [tEx_x (by omega) (by omega), l5 _ (by omega)]; exact u2 i hi
    · rw [tEx_x (by omega) (by omega), i5 _ _ (Or.inr rfl) hne]; exact u3 k hk
  by_cases cq : exq T n L < T 0 0 1
  · rw [if_pos cq] at k11
    rw [k11]
    refine ⟨fun _ => ⟨(o_in (by omega)).mpr (by omega), fun M5 s5 e5 => ?_⟩, fun c => absurd (Int32.not_lt.mp (o_nn (by omega))) c⟩
    rw [o_cl (by omega)] at e5
    obtain ⟨m1, m2⟩ := exq_is cq
    refine ⟨Or.inl ⟨rfl, Or.inl cq, rest M5 (fun a k z => by rw [e5, iV_wI, if_neg (fun y => z (Or.inr ⟨by omega, by omega⟩))]) (fun a k => by rw [e5, jV_wI]) ?_ fun e he => ?_⟩, by rw [e5]; exact (Fr.rf _ _).wI (Or.inr ⟨by omega, by omega⟩)⟩
    · rw [tEx_1, if_pos cq, e5, iV_wI, if_neg (by omega)]; exact h10
    · rw [tEx_1, if_pos cq] at he
      by_cases ee : e = exq T n L
      · obtain ⟨u1, u2, u3⟩ := hG.2.2.2.2 e he
        rw [ee] at u1 u2 ⊢
        rw [m1] at u1 u2
        rw [tEx_6]
        refine ⟨by rw [e5, iV_wI, if_neg (by omega)]; exact u1, fun i hi => ?_, fun k hk => ?_⟩
        · rw [tEx_4, e5, iV_wI, if_neg (by omega), u2 i hi, m2 i hi, (sml_sl (hs i hi)).1]
        · rw [tEx_5, e5, iV_wI, if_pos ⟨rfl, rfl⟩]; exact hb k hk
      · exact old e he ee M5 (fun a k z1 z2 => by rw [e5, iV_wI, if_neg (fun y => z2 y.2)]) fun k _ => by rw [e5, iV_wI, if_neg (by omega)]
  · rw [if_neg cq] at k11
    have eq : exq T n L = T 0 0 1 := by omega
    rw [k11, h10]
    refine ⟨fun c => absurd c (by decide), fun _ => ⟨fun c => ⟨Or.inr ⟨rfl, fun z => ?_⟩, Fr.rf _ _⟩, fun c => ⟨fun _ M7 s7 e7 => ?_, fun c2 => absurd ((o_le (m := 30) (by omega) (by omega)).mpr hn) c2⟩⟩⟩
    · have c60 := (o_le (n := 60) (by omega) (by omega)).mp c
      rcases z with z | z <;> omega
    · have c60 : T 0 0 1 < 60 := by
        rcases Nat.lt_or_ge (T 0 0 1) 60 with z | z
        · exact z
        · exact absurd ((o_le (n := 60) (by omega) (by omega)).mpr z) c
      rw [o_s] at e7
      rw [show Int32.ofNat (T 0 0 1) * 30 = Int32.ofNat (30 * T 0 0 1) from by rw [Nat.mul_comm]; exact (Int32.ofNat_mul _ 30).symm, o_cl (n := n) (by omega), o_cl (n := 30 * T 0 0 1) (by omega), o_cl (n := T 0 0 1) (by omega), show (0 : Int32).toNatClampNeg = 0 from rfl]
      refine ⟨⟨by omega, by decide, o_nn (by omega), o_nn (by omega), by omega, by omega, fun i hi => ?_⟩, fun M10 s10 e10 => ⟨(o_in (by omega)).mpr c60, fun M13 s13 e13 => ⟨(o_in (by omega)).mpr c60, fun M16 s16 e16 => ?_⟩⟩⟩
      · rw [Nat.zero_add, e7, iV_wI, if_neg (by omega), hL i hi]
        exact fits_b (sml_sl (hs i hi)).2
      · have i16 : ∀ a k, ¬ (a = x0 ∧ k = 10) → ¬ (a = x0 + 6 ∧ 30 * T 0 0 1 ≤ k ∧ k < 30 * T 0 0 1 + n) → ¬ ((a = x0 + 7 ∨ a = x0 + 8) ∧ k = T 0 0 1) → iV M16 a k = iV M1 a k := fun a k z1 z2 z3 => by
          rw [e16, iV_wI, if_neg (by omega), e13, iV_wI, if_neg (by omega), e10, iV_cp, if_neg (by omega), e7, iV_wI, if_neg (by omega)]
        refine ⟨Or.inl ⟨rfl, Or.inr c60, rest M16 (fun a k z => i16 a k (fun y => z (Or.inl y)) (fun y => z (Or.inr ⟨by omega, by omega⟩)) (fun y => z (Or.inr ⟨by omega, by omega⟩))) (fun a k => by rw [e16, jV_wI, e13, jV_wI, e10, jV_cp, e7, jV_wI]) ?_ fun e he => ?_⟩, by rw [e16, e13, e10, e7]; exact ((((Fr.rf _ _).wI (Or.inl ⟨rfl, rfl⟩)).cp (fun k => Or.inr ⟨by omega, by omega⟩)).wI (Or.inr ⟨by omega, by omega⟩)).wI (Or.inr ⟨by omega, by omega⟩)⟩
        · rw [tEx_1, if_neg cq, e16, iV_wI, if_neg (by omega), e13, iV_wI, if_neg (by omega), e10, iV_cp, if_neg (by omega), e7, iV_wI, if_pos ⟨rfl, rfl⟩]
        · rw [tEx_1, if_neg cq] at he
          by_cases ee : e = exq T n L
          · rw [ee, tEx_6]
            refine ⟨?_, fun i hi => ?_, fun k hk => ?_⟩
            · rw [eq, e16, iV_wI, if_neg (by omega), e13, iV_wI, if_pos ⟨rfl, rfl⟩]
            · rw [tEx_4, eq, e16, iV_wI, if_neg (by omega), e13, iV_wI, if_neg (by omega), e10, iV_cp, if_pos ⟨rfl, by omega, by omega⟩, show 0 + (30 * T 0 0 1 + i - 30 * T 0 0 1) = i from by omega, e7, iV_wI, if_neg (by omega)]
              exact hL i hi
            · rw [tEx_5, eq, e16, iV_wI, if_pos ⟨rfl, rfl⟩]; exact hb k hk
          · exact old e (by omega) ee M16 (fun a k z1 z2 => i16 a k (by omega) (by omega) (by omega)) fun k z => i16 _ _ (by omega) (by omega) (by omega)
end EXC
