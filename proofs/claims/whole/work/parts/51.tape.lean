/-! THE TAPE AND OUT: rows of bytes. -/
def bN (x : Int32) : Nat := x.toBitVec.toNat % 256
theorem bN_lt (x : Int32) : bN x < 256 := Nat.mod_lt _ (by decide)
theorem bN_and (x : Int32) : x &&& 255 = Int32.ofNat (bN x) := by
  apply Int32.toBitVec_inj.mp
  rw [Int32.toBitVec_and]
  apply BitVec.eq_of_toNat_eq
  rw [BitVec.toNat_and]
  show x.toBitVec.toNat &&& 255 = (BitVec.ofNat 32 (bN x)).toNat
  rw [BitVec.toNat_ofNat, show (255 : Nat) = 2 ^ 8 - 1 from rfl, Nat.and_two_pow_sub_one_eq_mod]
  unfold bN
  omega
theorem bN_b (x : Int32) : (Int32.ofNat (bN x)).toInt8 = x.toInt8 := by
  apply Int8.toBitVec_inj.mp
  rw [Int32.toBitVec_toInt8, Int32.toBitVec_toInt8, BitVec.signExtend_eq_setWidth_of_le _ (by decide), BitVec.signExtend_eq_setWidth_of_le _ (by decide)]
  apply BitVec.eq_of_toNat_eq
  rw [BitVec.toNat_setWidth, BitVec.toNat_setWidth]
  show (BitVec.ofNat 32 (bN x)).toNat % 2 ^ 8 = _
  rw [BitVec.toNat_ofNat]
  unfold bN
  omega
/-- a byte as Java keeps it -/
def sb (n : Nat) : Int32 := (Int32.ofNat n).toInt8.toInt32
theorem sb_x (x : Int32) : x.toInt8.toInt32 = sb (bN x) := by
  unfold sb
  rw [bN_b]
theorem sb_xx (x : Int32) : x.toInt8.toInt32.toInt8.toInt32 = sb (bN x) := by
  rw [← sb_x]
  simp
theorem sb_and {n : Nat} (h : n < 256) : sb n &&& 255 = Int32.ofNat n := sc_k8 n h
theorem sb_lo {n : Nat} (h : n < 128) : sb n = Int32.ofNat n := (show ∀ n, n < 128 → sb n = Int32.ofNat n from by decide +kernel) n h
theorem sb_hi {n : Nat} (h : n < 256) (h2 : 128 ≤ n) : sb n < 0 := (show ∀ n, n < 256 → 128 ≤ n → sb n < 0 from by decide +kernel) n h h2
theorem cB_le (o : Nat) : cB o ≤ 8192 := by
  unfold cB
  split <;> omega
/-- the bytes of the row at o -/
def cY (M : sm_M) (o : Nat) (tb : Nat → Nat) (tn : Nat) : Prop := tn ≤ cB o ∧ iV M o 1 = Int32.ofNat tn ∧ ∀ i, i < tn → tb i < 256 ∧ iV M (o + 1) i = sb (tb i)
def mT (M : sm_M) (tb : Nat → Nat) (tn : Nat) : Prop := iV M 116 3 = Int32.ofNat tn ∧ ∀ i, i < tn → iV M 117 i = Int32.ofNat (tb i)
def tp (tb : Nat → Nat) (n b : Nat) : Nat → Nat := fun i => if i = n then b else tb i
def pY (o : Nat) : Nat → Nat → Prop := fun a k => a = o ∧ k = 1 ∨ a = o + 1
theorem s20 {M : sm_M} {o : Nat} {tb : Nat → Nat} {tn : Nat} {x : Int32} (hS : SH M) (ho : fB o) (hT : cY M o tb tn) (hr : tn < cB o) : sm_cV 20 [.ref o, .int (x)] M (fun M2 => cY M2 o (tp tb tn (bN x)) (tn + 1) ∧ Fr (pY o) M M2) := by
  obtain ⟨h1, h2, h3⟩ := hT
  have hc := cB_le o
  refine g20_0 hS ho ?_
  rw [h2]
  refine ⟨fun c => absurd c (o_nn (by omega)), fun _ => ⟨fun c => ?_, fun _ => ⟨(o_in (by omega)).mpr hr, fun M2 s2 e2 M4 s4 e4 => ?_⟩⟩⟩
  · rw [o_le (by omega) (by omega)] at c
    omega
  · rw [o_cl (by omega)] at e2
    have e5 : iV M2 o 1 = Int32.ofNat tn := by rw [e2, iV_wI, if_neg (by omega)]; exact h2
    rw [e5, o_s] at e4
    subst e4
    subst e2
    refine ⟨⟨by omega, ?_, fun i hi => ?_⟩, ((Fr.rf _ M).wI (Or.inr rfl)).wI (Or.inl ⟨rfl, rfl⟩)⟩
    · rw [iV_wI, if_pos ⟨rfl, rfl⟩]
    · rw [iV_wI, if_neg (by omega), iV_wI]
      unfold tp
      by_cases hh : i = tn
      · rw [if_pos hh, if_pos ⟨rfl, hh⟩]
        exact ⟨bN_lt x, sb_xx x⟩
      · rw [if_neg hh, if_neg (by omega)]
        exact h3 i (by omega)
def tq4 (tb : Nat → Nat) (n : Nat) (x : Int32) : Nat → Nat := tp (tp (tp (tp tb n (bN (x >>> ((24 : Int32) &&& 31)))) (n + 1) (bN (x >>> ((16 : Int32) &&& 31)))) (n + 2) (bN (x >>> ((8 : Int32) &&& 31)))) (n + 3) (bN x)
theorem s19 {M : sm_M} {o : Nat} {tb : Nat → Nat} {tn : Nat} {x : Int32} (hS : SH M) (ho : fB o) (hT : cY M o tb tn) (hr : tn + 4 ≤ cB o) : sm_cV 19 [.ref o, .int (x)] M (fun M2 => cY M2 o (tq4 tb tn x) (tn + 4) ∧ Fr (pY o) M M2) := by
  refine g19_0 hS ho ?_
  refine (s20 hS ho hT (by omega)).mono fun M1 k1 s1 => ?_
  refine (s20 s1 ho k1.1 (by omega)).mono fun M2 k2 s2 => ?_
  refine (s20 s2 ho k2.1 (by omega)).mono fun M3 k3 s3 => ?_
  refine (s20 s3 ho k3.1 (by omega)).mono fun M4 k4 s4 => ?_
  exact ⟨k4.1, ((k1.2.tr k2.2).tr k3.2).tr k4.2⟩
def pm3 : Nat → Nat → Prop := fun a k => a = 116 ∧ k = 3 ∨ a = 117
theorem s164_1 {M : sm_M} {tb : Nat → Nat} {tn : Nat} {x y : Int32} {K : sm_M → Prop} (hS : SH M) (hT : mT M tb tn) (hr : tn < 8192) (hy : ¬ y < 0) (k : ∀ M4, SH M4 → mT M4 (tp tb tn (bN (x >>> (y &&& 31)))) (tn + 1) → Fr pm3 M M4 → sm_w 164 (3, [some (.ref 116), some (.int (x)), some (.int (y + (-8 : Int32)))], []) M4 (rV K)) : sm_w 164 (3, [some (.ref 116), some (.int (x)), some (.int (y))], []) M (rV K) := by
  obtain ⟨h1, h2⟩ := hT
  refine g164_1 hS ?_
  rw [h1]
  refine ⟨fun c => absurd c hy, fun _ => ⟨(o_in (by omega)).mpr hr, fun M2 s2 e2 M4 s4 e4 => ?_⟩⟩
  rw [o_cl (by omega)] at e2
  have e5 : iV M2 116 3 = Int32.ofNat tn := by rw [e2, iV_wI, if_neg (by omega)]; exact h1
  rw [e5, o_s] at e4
  refine k M4 s4 ⟨?_, fun i hi => ?_⟩ ?_
  · rw [e4, iV_wI, if_pos ⟨rfl, rfl⟩]
  · rw [e4, iV_wI, if_neg (by omega), e2, iV_wI]
    unfold tp
    by_cases hh : i = tn
    · rw [if_pos hh, if_pos ⟨rfl, hh⟩]
      exact bN_and _
    · rw [if_neg hh, if_neg (by omega)]
      exact h2 i (by omega)
  · subst e4
    subst e2
    exact ((Fr.rf _ M).wI (Or.inr rfl)).wI (Or.inl ⟨rfl, rfl⟩)
theorem s164 {M : sm_M} {tb : Nat → Nat} {tn : Nat} {x : Int32} (hS : SH M) (hT : mT M tb tn) (hr : tn + 4 ≤ 8192) : sm_cV 164 [.ref 116, .int (x)] M (fun M2 => mT M2 (tq4 tb tn x) (tn + 4) ∧ Fr pm3 M M2) := by
  refine g164_0 hS ?_
  refine s164_1 hS hT (by omega) (by decide) fun M1 s1 k1 f1 => ?_
  refine s164_1 s1 k1 (by omega) (by decide) fun M2 s2 k2 f2 => ?_
  refine s164_1 s2 k2 (by omega) (by decide) fun M3 s3 k3 f3 => ?_
  refine s164_1 s3 k3 (by omega) (by decide) fun M4 s4 k4 f4 => ?_
  refine g164_1 s4 ⟨fun _ => ⟨?_, ((f1.tr f2).tr f3).tr f4⟩, fun c => absurd (by decide) c⟩
  rw [show ((24 : Int32) + (-8)) = 16 from by decide, show ((16 : Int32) + (-8)) = 8 from by decide, show ((8 : Int32) + (-8)) = 0 from by decide, sb_shr0] at k4
  exact k4
/-- feed -/
def tq20 (tb : Nat → Nat) (n : Nat) (a b c d e : Int32) : Nat → Nat := tq4 (tq4 (tq4 (tq4 (tq4 tb n a) (n + 4) b) (n + 8) c) (n + 12) d) (n + 16) e
theorem s18 {M : sm_M} {tb : Nat → Nat} {tn : Nat} {a b c d e : Int32} (hS : SH M) (hT : cY M 24 tb tn) : sm_xI 18 [.ref 23, .int (a), .int (b), .int (c), .int (d), .int (e)] M (fun r M2 => 8192 < tn + 20 ∧ r = M.1 ∧ M2 = sm_new M 51 6) (fun v M2 => tn + 20 ≤ 8192 ∧ v = Int32.ofNat (tn + 20) ∧ cY M2 24 (tq20 tb tn a b c d e) (tn + 20) ∧ Fr (pY 24) M M2) := by
  have h1 : tn ≤ 8192 := hT.1
  have h2 := hT.2.1
  refine g18_0 hS ?_
  rw [h2]
  have e0 : Int32.ofNat tn + (20 : Int32) = Int32.ofNat (tn + 20) := (Int32.ofNat_add tn 20).symm
  rw [e0, show (8192 : Int32) = Int32.ofNat 8192 from rfl, o_le (by omega) (by omega)]
  refine ⟨fun c => ?_, fun c => ⟨by omega, rfl, rfl⟩⟩
  refine (s19 hS fB_24 hT (by show _ ≤ 8192; omega)).mono fun M1 k1 s1 => ?_
  refine (s19 s1 fB_24 k1.1 (by show _ ≤ 8192; omega)).mono fun M2 k2 s2 => ?_
  refine (s19 s2 fB_24 k2.1 (by show _ ≤ 8192; omega)).mono fun M3 k3 s3 => ?_
  refine (s19 s3 fB_24 k3.1 (by show _ ≤ 8192; omega)).mono fun M4 k4 s4 => ?_
  refine (s19 s4 fB_24 k4.1 (by show _ ≤ 8192; omega)).mono fun M5 k5 s5 => ?_
  exact ⟨c, k5.1.2.1, k5.1, (((k1.2.tr k2.2).tr k3.2).tr k4.2).tr k5.2⟩
def pm03 : Nat → Nat → Prop := fun a k => a = 116 ∧ (k = 3 ∨ k = 0) ∨ a = 117
theorem s162 {M : sm_M} {tb : Nat → Nat} {tn : Nat} {a b c d e : Int32} (hS : SH M) (hn : tn ≤ 8192) (hT : mT M tb tn) : sm_cI 162 [.ref 116, .int (a), .int (b), .int (c), .int (d), .int (e)] M (fun v M2 => (tn + 20 ≤ 8192 ∧ iV M2 116 0 = 0 ∧ v = Int32.ofNat (tn + 20) ∧ mT M2 (tq20 tb tn a b c d e) (tn + 20) ∨ 8192 < tn + 20 ∧ iV M2 116 0 = 1 ∧ mT M2 tb tn) ∧ Fr pm03 M M2) := by
  have h2 := hT.1
  have e0 : Int32.ofNat tn + (20 : Int32) = Int32.ofNat (tn + 20) := (Int32.ofNat_add tn 20).symm
  refine g162_0 hS ?_
  rw [h2, e0, show (8192 : Int32) = Int32.ofNat 8192 from rfl, o_le (by omega) (by omega)]
  have hp : ∀ a k, pm3 a k → pm03 a k := fun a k z => by unfold pm3 at z; unfold pm03; omega
  refine ⟨fun c M0 s0 e0 => ?_, fun c M0 s0 e0 => ⟨Or.inr ⟨by omega, ?_, ?_, ?_⟩, ?_⟩⟩
  · have hT0 : mT M0 tb tn := ⟨by rw [e0, iV_wI, if_neg (by omega)]; exact h2, fun i hi => by rw [e0, iV_wI, if_neg (by omega)]; exact hT.2 i hi⟩
    have f0 : Fr pm03 M M0 := by rw [e0]; exact (Fr.rf _ M).wI (Or.inl ⟨rfl, Or.inr rfl⟩)
    have t0 : iV M0 116 0 = 0 := by rw [e0, iV_wI, if_pos ⟨rfl, rfl⟩]
    refine (s164 s0 hT0 (by omega)).mono fun M1 k1 s1 => ?_
    refine (s164 s1 k1.1 (by omega)).mono fun M2 k2 s2 => ?_
    refine (s164 s2 k2.1 (by omega)).mono fun M3 k3 s3 => ?_
    refine (s164 s3 k3.1 (by omega)).mono fun M4 k4 s4 => ?_
    refine (s164 s4 k4.1 (by omega)).mono fun M5 k5 s5 => ?_
    have ff := (((k1.2.tr k2.2).tr k3.2).tr k4.2).tr k5.2
    exact ⟨Or.inl ⟨c, by rw [ff.2.1 116 0 (by unfold pm3; omega)]; exact t0, k5.1.1, k5.1⟩, f0.tr (ff.mono hp)⟩
  · rw [e0, iV_wI, if_pos ⟨rfl, rfl⟩]
  · rw [e0, iV_wI, if_neg (by omega)]; exact h2
  · intro i hi
    rw [e0, iV_wI, if_neg (by omega)]; exact hT.2 i hi
  · rw [e0]; exact (Fr.rf _ M).wI (Or.inl ⟨rfl, Or.inr rfl⟩)
