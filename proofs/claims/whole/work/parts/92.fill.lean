/-! SET: the kind fills its breaks. -/
def ki (n : Nat) : Int32 := if n = 4 then -1 else Int32.ofNat n
theorem ki_m {n : Nat} (h : n ≤ 4) : ki n = -1 ↔ n = 4 := by
  unfold ki
  split
  · exact ⟨fun _ => by assumption, fun _ => rfl⟩
  · rename_i e
    constructor
    · intro z
      rw [z_eq, o_ti (by omega)] at z
      have : (-1 : Int32).toInt = -1 := rfl
      omega
    · intro z
      exact absurd z e
theorem ki_1 {n : Nat} (h : ¬ n = 4) : ki n = Int32.ofNat n := if_neg h
def cMk (M : sm_M) (x0 : Nat) (k : Nat → Nat) (pn : Nat) : Prop := iV M x0 1 = Int32.ofNat pn ∧ ∀ p, p ≤ pn → iV M (x0 + 2) p = ki (k p)
theorem s96_1 {M : sm_M} {x0 pn : Nat} {k : Nat → Nat} (hS : SH M) (hx : fK x0) (hn : pn ≤ 4000) (hk : ∀ q, q ≤ pn → k q ≤ 4) (h0 : k 0 = 4) (hM : cMk M x0 k pn) : ∀ (d p : Nat), pn - p = d → p ≤ pn → sm_w 96 (4, [some (.ref x0), some (.int (Int32.ofNat (un k p))), some (.int (Int32.ofNat (p + 1)))], []) M (rI (fun v M2 => v = Int32.ofNat (un k pn) ∧ M2 = M)) := by
  intro d
  induction d with
  | zero =>
    intro p hd hp
    have e : p = pn := by omega
    subst e
    refine g96_1 hS hx ?_
    rw [hM.1]
    exact ⟨fun _ => ⟨rfl, rfl⟩, fun c => absurd ((o_lt (by omega) (by omega)).mpr (by omega)) c⟩
  | succ d ih =>
    intro p hd hp
    have ih := ih (p + 1) (by omega) (by omega)
    refine g96_1 hS hx ?_
    rw [hM.1]
    refine ⟨fun c => absurd ((o_lt (by omega) (by omega)).mp c) (by omega), fun _ => ⟨(o_in (by omega)).mpr (by omega), ?_⟩⟩
    rw [o_cl (by omega), hM.2 (p + 1) (by omega), ki_m (hk (p + 1) (by omega)), o_s, o_s]
    refine ⟨fun c => ?_, fun c => ?_⟩
    · rw [un_s, if_pos c] at ih; exact ih
    · rw [un_s, if_neg c] at ih; exact ih
theorem s96 {M : sm_M} {x0 pn : Nat} {k : Nat → Nat} (hS : SH M) (hx : fK x0) (hn : pn ≤ 4000) (hk : ∀ q, q ≤ pn → k q ≤ 4) (h0 : k 0 = 4) (hM : cMk M x0 k pn) : sm_cI 96 [.ref x0] M (fun v M2 => v = Int32.ofNat (un k pn) ∧ M2 = M) := by
  refine g96_0 hS hx (g96_1 hS hx ?_)
  rw [hM.1]
  refine ⟨fun c => absurd ((o_lt (n := pn) (m := 0) (by omega) (by omega)).mp c) (by omega), fun _ => ⟨(o_in (n := 0) (by omega)).mpr (by omega), ?_⟩⟩
  rw [show ((0 : Int32).toNatClampNeg) = 0 from rfl, hM.2 0 (by omega), ki_m (by omega)]
  exact ⟨fun _ => s96_1 hS hx hn hk h0 hM pn 0 (by omega) (by omega), fun c => absurd h0 c⟩
def pAB (x0 n : Nat) : Nat → Nat → Prop := fun a i => a = x0 ∧ (i = 3 ∨ i = 12) ∨ x0 + 3 ≤ a ∧ a ≤ x0 + 10 ∧ i = n
theorem s102 {M : sm_M} {x0 n : Nat} {x1 x2 x5 : Int32} {x3 : Int64} (hS : SH M) (hx : fK x0) (hn : n < 600) (h3 : iV M x0 3 = Int32.ofNat n) : sm_cV 102 [.ref x0, .int (x1), .int (x2), .long (x3), .int (x5)] M (fun M2 => iV M2 x0 3 = Int32.ofNat (n + 1) ∧ iV M2 (x0 + 3) (n + 1) = x1 ∧ iV M2 (x0 + 4) (n + 1) = x2 ∧ iV M2 (x0 + 5) (n + 1) = x5 ∧ iV M2 (x0 + 6) (n + 1) = iV M (x0 + 6) n ∧ jV M2 (x0 + 7) (n + 1) = jV M (x0 + 7) n + x3 ∧ jV M2 (x0 + 8) (n + 1) = jV M (x0 + 8) n ∧ jV M2 (x0 + 9) (n + 1) = jV M (x0 + 9) n ∧ jV M2 (x0 + 10) (n + 1) = jV M (x0 + 10) n ∧ jV M2 x0 12 = (if (x3 + x5.toInt64) < (jV M x0 12) then (jV M x0 12) else (x3 + x5.toInt64)) ∧ Fr (pAB x0 (n + 1)) M M2) := by
  refine g102_0 hS hx ?_
  rw [h3]
  refine ⟨fun c M1 s1 e1 => ?_, fun c => absurd ((o_lt (m := 600) (by omega) (by omega)).mpr hn) c⟩
  rw [o_s] at e1
  have a1 : iV M1 x0 3 = Int32.ofNat (n + 1) := by rw [e1, iV_wI, if_pos ⟨rfl, rfl⟩]
  have f1 : Fr (pAB x0 (n + 1)) M M1 := by rw [e1]; exact (Fr.rf _ _).wI (Or.inl ⟨rfl, Or.inl rfl⟩)
  have oi : vp_in (Int32.ofNat (n + 1)) 601 := (o_in (by omega)).mpr (by omega)
  have ol : vp_in (Int32.ofNat (n + 1) - 1) 601 := by rw [o_p (by omega)]; exact (o_in (by omega)).mpr (by omega)
  have oc : (Int32.ofNat (n + 1)).toNatClampNeg = n + 1 := o_cl (by omega)
  have ok : (Int32.ofNat (n + 1) - 1).toNatClampNeg = n := by rw [o_p (by omega)]; exact o_cl (by omega)
  rw [a1, oc]
  refine ⟨oi, fun M4 s4 e4 => ?_⟩
  have a4 : iV M4 x0 3 = Int32.ofNat (n + 1) := by rw [e4, iV_wI, if_neg (by omega)]; exact a1
  have f4 : Fr (pAB x0 (n + 1)) M M4 := by rw [e4]; exact f1.wI (Or.inr ⟨by omega, by omega, rfl⟩)
  rw [a4, oc]
  refine ⟨oi, fun M7 s7 e7 => ?_⟩
  have a7 : iV M7 x0 3 = Int32.ofNat (n + 1) := by rw [e7, iV_wI, if_neg (by omega)]; exact a4
  have f7 : Fr (pAB x0 (n + 1)) M M7 := by rw [e7]; exact f4.wI (Or.inr ⟨by omega, by omega, rfl⟩)
  rw [a7, oc]
  refine ⟨oi, fun M10 s10 e10 => ?_⟩
  have a10 : iV M10 x0 3 = Int32.ofNat (n + 1) := by rw [e10, iV_wI, if_neg (by omega)]; exact a7
  have f10 : Fr (pAB x0 (n + 1)) M M10 := by rw [e10]; exact f7.wI (Or.inr ⟨by omega, by omega, rfl⟩)
  rw [a10, oc, ok]
  refine ⟨ol, oi, fun M14 s14 e14 => ?_⟩
  have a14 : iV M14 x0 3 = Int32.ofNat (n + 1) := by rw [e14, iV_wI, if_neg (by omega)]; exact a10
  have f14 : Fr (pAB x0 (n + 1)) M M14 := by rw [e14]; exact f10.wI (Or.inr ⟨by omega, by omega, rfl⟩)
  rw [a14, oc, ok]
  refine ⟨ol, oi, fun M18 s18 e18 => ?_⟩
  have a18 : iV M18 x0 3 = Int32.ofNat (n + 1) := by rw [e18, iV_wJ]; exact a14
  have f18 : Fr (pAB x0 (n + 1)) M M18 := by rw [e18]; exact f14.wJ (Or.inr ⟨by omega, by omega, rfl⟩)
  rw [a18, oc, ok]
  refine ⟨ol, oi, fun M22 s22 e22 => ?_⟩
  have a22 : iV M22 x0 3 = Int32.ofNat (n + 1) := by rw [e22, iV_wJ]; exact a18
  have f22 : Fr (pAB x0 (n + 1)) M M22 := by rw [e22]; exact f18.wJ (Or.inr ⟨by omega, by omega, rfl⟩)
  rw [a22, oc, ok]
  refine ⟨ol, oi, fun M26 s26 e26 => ?_⟩
  have a26 : iV M26 x0 3 = Int32.ofNat (n + 1) := by rw [e26, iV_wJ]; exact a22
  have f26 : Fr (pAB x0 (n + 1)) M M26 := by rw [e26]; exact f22.wJ (Or.inr ⟨by omega, by omega, rfl⟩)
  rw [a26, oc, ok]
  refine ⟨ol, oi, fun M30 s30 e30 M32 s32 e32 => ?_⟩
  have a30 : iV M30 x0 3 = Int32.ofNat (n + 1) := by rw [e30, iV_wJ]; exact a26
  have f30 : Fr (pAB x0 (n + 1)) M M30 := by rw [e30]; exact f26.wJ (Or.inr ⟨by omega, by omega, rfl⟩)
  have f32 : Fr (pAB x0 (n + 1)) M M32 := by rw [e32]; exact f30.wJ (Or.inl ⟨rfl, Or.inr rfl⟩)
  have w12 : jV M30 x0 12 = jV M x0 12 := by
    rw [e30, jV_wJ, if_neg (by omega), e26, jV_wJ, if_neg (by omega), e22, jV_wJ, if_neg (by omega), e18, jV_wJ, if_neg (by omega), e14, jV_wI, e10, jV_wI, e7, jV_wI, e4, jV_wI, e1, jV_wI]
  rw [w12] at e32
  have k7 : ∀ a i, ¬ a = x0 + 6 → iV M32 a i = iV M10 a i := fun a i z => by rw [e32, iV_wJ, e30, iV_wJ, e26, iV_wJ, e22, iV_wJ, e18, iV_wJ, e14, iV_wI, if_neg (by omega)]
  refine ⟨by rw [e32, iV_wJ]; exact a30, ?_, ?_, ?_, ?_, ?_, ?_, ?_, ?_, ?_, f32⟩
  · rw [k7 _ _ (by omega), e10, iV_wI, if_neg (by omega), e7, iV_wI, if_neg (by omega), e4, iV_wI, if_pos ⟨rfl, rfl⟩]
  · rw [k7 _ _ (by omega), e10, iV_wI, if_neg (by omega), e7, iV_wI, if_pos ⟨rfl, rfl⟩]
  · rw [k7 _ _ (by omega), e10, iV_wI, if_pos ⟨rfl, rfl⟩]
  · rw [e32, iV_wJ, e30, iV_wJ, e26, iV_wJ, e22, iV_wJ, e18, iV_wJ, e14, iV_wI, if_pos ⟨rfl, rfl⟩]
    exact f10.2.1 _ _ (by unfold pAB; omega)
  · rw [e32, jV_wJ, if_neg (by omega), e30, jV_wJ, if_neg (by omega), e26, jV_wJ, if_neg (by omega), e22, jV_wJ, if_neg (by omega), e18, jV_wJ, if_pos ⟨rfl, rfl⟩, f14.2.2 _ _ (by unfold pAB; omega)]
  · rw [e32, jV_wJ, if_neg (by omega), e30, jV_wJ, if_neg (by omega), e26, jV_wJ, if_neg (by omega), e22, jV_wJ, if_pos ⟨rfl, rfl⟩, f18.2.2 _ _ (by unfold pAB; omega)]
  · rw [e32, jV_wJ, if_neg (by omega), e30, jV_wJ, if_neg (by omega), e26, jV_wJ, if_pos ⟨rfl, rfl⟩, f22.2.2 _ _ (by unfold pAB; omega)]
  · rw [e32, jV_wJ, if_neg (by omega), e30, jV_wJ, if_pos ⟨rfl, rfl⟩, f26.2.2 _ _ (by unfold pAB; omega)]
  · rw [e32, jV_wJ, if_pos ⟨rfl, rfl⟩]
/-- the rows of the breaks up to n -/
def cRw (M : sm_M) (x0 n : Nat) (D : Nat → Nat → Nat) : Prop := iV M x0 3 = Int32.ofNat n ∧ (∀ b, b ≤ n → iV M (x0 + 3) b = Int32.ofNat (D 0 b) ∧ iV M (x0 + 4) b = Int32.ofNat (D 1 b) ∧ iV M (x0 + 6) b = Int32.ofNat (D 7 b) ∧ jV M (x0 + 7) b = Int64.ofNat (D 2 b) ∧ jV M (x0 + 8) b = Int64.ofNat (D 3 b) ∧ jV M (x0 + 9) b = Int64.ofNat (D 4 b) ∧ jV M (x0 + 10) b = Int64.ofNat (D 5 b)) ∧ (∀ b, 1 ≤ b → b ≤ n → iV M (x0 + 5) b = Int32.ofNat (D 6 b))
