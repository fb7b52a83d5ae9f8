/-! NUMBERS AND MEMORIES: what the hand-made contracts use. -/
theorem o_ti {n : Nat} (h : n < 2147483648) : (Int32.ofNat n).toInt = (n : Int) := Int32.toInt_ofNat_of_lt h
theorem o_cl {n : Nat} (h : n < 2147483648) : (Int32.ofNat n).toNatClampNeg = n := Int32.toNatClampNeg_ofNat_of_lt h
theorem o_lt {n m : Nat} (hn : n < 2147483648) (hm : m < 2147483648) : Int32.ofNat n < Int32.ofNat m ↔ n < m := Int32.ofNat_lt_iff_lt hn hm
theorem o_le {n m : Nat} (hn : n < 2147483648) (hm : m < 2147483648) : Int32.ofNat n ≤ Int32.ofNat m ↔ n ≤ m := Int32.ofNat_le_iff_le hn hm
theorem o_eq {n m : Nat} (hn : n < 2147483648) (hm : m < 2147483648) : Int32.ofNat n = Int32.ofNat m ↔ n = m := by
  rw [← Int32.toInt_inj, o_ti hn, o_ti hm]
  omega
theorem o_s (n : Nat) : Int32.ofNat n + 1 = Int32.ofNat (n + 1) := (Int32.ofNat_add n 1).symm
theorem o_nn {n : Nat} (h : n < 2147483648) : ¬ Int32.ofNat n < 0 := by
  rw [Int32.lt_iff_toInt_lt, o_ti h]
  show ¬ (n : Int) < 0
  omega
theorem o_in {n L : Nat} (h : n < 2147483648) : vp_in (Int32.ofNat n) L ↔ n < L := by
  unfold vp_in
  rw [o_cl h]
  constructor
  · intro z
    exact Nat.lt_of_not_le (fun w => z (Or.inr w))
  · intro z w
    rcases w with w | w
    · exact absurd w (o_nn h)
    · omega
theorem z_lt {x y : Int32} : x < y ↔ x.toInt < y.toInt := Int32.lt_iff_toInt_lt
theorem z_le {x y : Int32} : x ≤ y ↔ x.toInt ≤ y.toInt := Int32.le_iff_toInt_le
theorem z_eq {x y : Int32} : x = y ↔ x.toInt = y.toInt := Int32.toInt_inj.symm
theorem z_bm {a : Int} (h1 : -2147483648 ≤ a) (h2 : a < 2147483648) : a.bmod (2 ^ 32) = a := Int.bmod_eq_of_le (by omega) (by omega)
theorem z_add {x y : Int32} (h1 : -2147483648 ≤ x.toInt + y.toInt) (h2 : x.toInt + y.toInt < 2147483648) : (x + y).toInt = x.toInt + y.toInt := by
  rw [Int32.toInt_add, z_bm h1 h2]
theorem z_sub {x y : Int32} (h1 : -2147483648 ≤ x.toInt - y.toInt) (h2 : x.toInt - y.toInt < 2147483648) : (x - y).toInt = x.toInt - y.toInt := by
  rw [Int32.toInt_sub, z_bm h1 h2]
theorem z_mul {x y : Int32} (h1 : -2147483648 ≤ x.toInt * y.toInt) (h2 : x.toInt * y.toInt < 2147483648) : (x * y).toInt = x.toInt * y.toInt := by
  rw [Int32.toInt_mul, z_bm h1 h2]
theorem z_of {x : Int32} (h : 0 ≤ x.toInt) : ∃ n : Nat, n < 2147483648 ∧ x = Int32.ofNat n := by
  refine ⟨x.toInt.toNat, ?_, ?_⟩
  · have := x.toInt_lt
    omega
  · have h2 := x.toInt_lt
    rw [z_eq, o_ti (by omega)]
    omega
theorem z_ps {x : Int32} (h : ¬ x < 0) : ∃ n : Nat, n < 2147483648 ∧ x = Int32.ofNat n := z_of (by
  rw [z_lt] at h
  have : (0 : Int32).toInt = 0 := rfl
  omega)
theorem y_lt {x y : Int64} : x < y ↔ x.toInt < y.toInt := Int64.lt_iff_toInt_lt
theorem y_le {x y : Int64} : x ≤ y ↔ x.toInt ≤ y.toInt := Int64.le_iff_toInt_le
theorem y_eq {x y : Int64} : x = y ↔ x.toInt = y.toInt := Int64.toInt_inj.symm
theorem y_bm {a : Int} (h1 : -9223372036854775808 ≤ a) (h2 : a < 9223372036854775808) : a.bmod (2 ^ 64) = a := Int.bmod_eq_of_le (by omega) (by omega)
theorem y_add {x y : Int64} (h1 : -9223372036854775808 ≤ x.toInt + y.toInt) (h2 : x.toInt + y.toInt < 9223372036854775808) : (x + y).toInt = x.toInt + y.toInt := by
  rw [Int64.toInt_add, y_bm h1 h2]
theorem y_sub {x y : Int64} (h1 : -9223372036854775808 ≤ x.toInt - y.toInt) (h2 : x.toInt - y.toInt < 9223372036854775808) : (x - y).toInt = x.toInt - y.toInt := by
  rw [Int64.toInt_sub, y_bm h1 h2]
theorem y_mul {x y : Int64} (h1 : -9223372036854775808 ≤ x.toInt * y.toInt) (h2 : x.toInt * y.toInt < 9223372036854775808) : (x * y).toInt = x.toInt * y.toInt := by
  rw [Int64.toInt_mul, y_bm h1 h2]
theorem iV_wI (M : sm_M) (r k : Nat) (x : Int32) (a b : Nat) : iV (sm_wI M r k x) a b = if a = r ∧ b = k then x else iV M a b := by
  show va_up (sm_iv M) r (va_up (sm_iv M r) k x) a b = _
  unfold va_up
  by_cases h : a = r
  · subst h
    by_cases h2 : b = k
    · rw [if_pos rfl, if_pos h2, if_pos ⟨rfl, h2⟩]
    · rw [if_pos rfl, if_neg h2, if_neg (fun z => h2 z.2)]; rfl
  · rw [if_neg h, if_neg (fun z => h z.1)]; rfl
theorem jV_wI (M : sm_M) (r k : Nat) (x : Int32) (a b : Nat) : jV (sm_wI M r k x) a b = jV M a b := rfl
theorem jV_wJ (M : sm_M) (r k : Nat) (x : Int64) (a b : Nat) : jV (sm_wJ M r k x) a b = if a = r ∧ b = k then x else jV M a b := by
  show va_up (sm_jv M) r (va_up (sm_jv M r) k x) a b = _
  unfold va_up
  by_cases h : a = r
  · subst h
    by_cases h2 : b = k
    · rw [if_pos rfl, if_pos h2, if_pos ⟨rfl, h2⟩]
    · rw [if_pos rfl, if_neg h2, if_neg (fun z => h2 z.2)]; rfl
  · rw [if_neg h, if_neg (fun z => h z.1)]; rfl
theorem iV_wJ (M : sm_M) (r k : Nat) (x : Int64) (a b : Nat) : iV (sm_wJ M r k x) a b = iV M a b := rfl
theorem iV_cp (M : sm_M) (s d sp dp n a b : Nat) : iV (sm_cp M s d sp dp n) a b = if a = d ∧ dp ≤ b ∧ b < dp + n then iV M s (sp + (b - dp)) else iV M a b := by
  show va_up (sm_iv M) d (va_cpy (sm_iv M s) (sm_iv M d) sp dp n) a b = _
  unfold va_up va_cpy
  by_cases h : a = d
  · subst h
    by_cases h2 : dp ≤ b ∧ b < dp + n
    · rw [if_pos rfl, if_pos h2, if_pos ⟨rfl, h2⟩]; rfl
    · rw [if_pos rfl, if_neg h2, if_neg (fun z => h2 z.2)]; rfl
  · rw [if_neg h, if_neg (fun z => h z.1)]; rfl
theorem jV_cp (M : sm_M) (s d sp dp n a b : Nat) : jV (sm_cp M s d sp dp n) a b = jV M a b := rfl
theorem iV_new (M : sm_M) (k n a b : Nat) (h : a < M.1) : iV (sm_new M k n) a b = iV M a b := by
  show va_up (sm_iv M) M.1 (fun _ => 0) a b = _
  unfold va_up
  rw [if_neg (Nat.ne_of_lt h)]; rfl
theorem jV_new (M : sm_M) (k n a b : Nat) (h : a < M.1) : jV (sm_new M k n) a b = jV M a b := by
  show va_up (sm_jv M) M.1 (fun _ => 0) a b = _
  unfold va_up
  rw [if_neg (Nat.ne_of_lt h)]; rfl
/-- nothing has changed but the places that p names -/
def Fr (p : Nat → Nat → Prop) (A B : sm_M) : Prop := sm_sh A B ∧ (∀ a k, ¬ p a k → iV B a k = iV A a k) ∧ (∀ a k, ¬ p a k → jV B a k = jV A a k)
theorem Fr.rf (p : Nat → Nat → Prop) (A : sm_M) : Fr p A A := ⟨sm_sh.rf A, fun _ _ _ => rfl, fun _ _ _ => rfl⟩
theorem Fr.tr {p : Nat → Nat → Prop} {A B C : sm_M} (h : Fr p A B) (k : Fr p B C) : Fr p A C := ⟨h.1.tr k.1, fun a i z => (k.2.1 a i z).trans (h.2.1 a i z), fun a i z => (k.2.2 a i z).trans (h.2.2 a i z)⟩
theorem Fr.mono {p q : Nat → Nat → Prop} {A B : sm_M} (h : Fr p A B) (k : ∀ a i, p a i → q a i) : Fr q A B := ⟨h.1, fun a i z => h.2.1 a i (fun w => z (k a i w)), fun a i z => h.2.2 a i (fun w => z (k a i w))⟩
theorem Fr.wI {p : Nat → Nat → Prop} {A B : sm_M} (h : Fr p A B) {r k : Nat} {x : Int32} (hp : p r k) : Fr p A (sm_wI B r k x) := ⟨h.1, fun a i z => by
  rw [iV_wI, if_neg (fun w => z (by rw [w.1, w.2]; exact hp))]
  exact h.2.1 a i z, fun a i z => h.2.2 a i z⟩
theorem Fr.wJ {p : Nat → Nat → Prop} {A B : sm_M} (h : Fr p A B) {r k : Nat} {x : Int64} (hp : p r k) : Fr p A (sm_wJ B r k x) := ⟨h.1, fun a i z => h.2.1 a i z, fun a i z => by
  rw [jV_wJ, if_neg (fun w => z (by rw [w.1, w.2]; exact hp))]
  exact h.2.2 a i z⟩
theorem Fr.cp {p : Nat → Nat → Prop} {A B : sm_M} (h : Fr p A B) {s d sp dp n : Nat} (hp : ∀ k, p d k) : Fr p A (sm_cp B s d sp dp n) := ⟨h.1, fun a i z => by
  rw [iV_cp, if_neg (fun w => z (by rw [w.1]; exact hp i))]
  exact h.2.1 a i z, fun a i z => h.2.2 a i z⟩
theorem Fr.SH {p : Nat → Nat → Prop} {A B : sm_M} (h : Fr p A B) (s : SH A) : SH B := s.sh h.1
