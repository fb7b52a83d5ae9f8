/-! SET: the reference makes its breaks. -/
theorem s97 {M : sm_M} {pb ps w k : Nat → Nat} {kf jf : Nat → Nat → Int32} {pn pw x0 fn : Nat} (hS : SH M) (hx : fK x0) (hfn : fF fn) (hP : wP pb ps pn pw) (hw : wF w kf jf) (hk : ∀ q, q ≤ pn → (k q = 3 ↔ q = pn) ∧ k q ≤ 4) (h6 : un k pn ≤ 600) (hM : cMk M x0 k pn) (hT : ∀ i, i < pn → iV M (x0 + 1) i = Int32.ofNat (pb i) ∧ iV M 32 i = Int32.ofNat (ps i)) (hF : cF M fn w kf jf) (h0 : iV M (x0 + 3) 0 = 0 ∧ iV M (x0 + 4) 0 = 0 ∧ iV M (x0 + 6) 0 = 0 ∧ jV M (x0 + 7) 0 = 0 ∧ jV M (x0 + 8) 0 = 0 ∧ jV M (x0 + 9) 0 = 0 ∧ jV M (x0 + 10) 0 = 0) : sm_cV 97 [.ref x0, .ref 32, .ref fn] M (fun M2 => cRw M2 x0 (un k pn) (uD k (uW pn pb ps w kf jf) (ug pn ps w) (uh pn ps w) pn) ∧ jV M2 x0 12 = Int64.ofNat (ux k (uW pn pb ps w kf jf) (uh pn ps w) pn) ∧ Fr (pfi x0) M M2) := by
  obtain ⟨xt, xm, x89⟩ := fK_t hx
  have hf2 : fn = 42 ∨ fn = 55 := hfn
  refine g97_0 hS hx a_32 hfn fun M1 s1 e1 M3 s3 e3 => ?_
  have f3 : Fr (pfi x0) M M3 := by rw [e3, e1]; exact ((Fr.rf _ _).wI (Or.inl ⟨rfl, Or.inl rfl⟩)).wJ (Or.inl ⟨rfl, Or.inr rfl⟩)
  have i3 : ∀ a i, ¬ (a = x0 ∧ i = 3) → iV M3 a i = iV M a i := fun a i z => by rw [e3, iV_wJ, e1, iV_wI, if_neg z]
  have j3 : ∀ a i, ¬ (a = x0 ∧ i = 12) → jV M3 a i = jV M a i := fun a i z => by rw [e3, jV_wJ, if_neg z, e1, jV_wI]
  refine s97_1 (pw := pw) hx hfn hP hw hk h6 pn 0 (by omega) (by omega) M3 s3 ⟨by rw [i3 _ _ (by omega)]; exact hM.1, fun q hq => by rw [i3 _ _ (by omega)]; exact hM.2 q hq⟩ (fun i hi => by rw [i3 _ _ (by omega), i3 _ _ (by omega)]; exact hT i hi) (hF.eq fun a i h1 h2 => i3 a i (by omega)) ⟨by rw [e3, iV_wJ, e1, iV_wI, if_pos ⟨rfl, rfl⟩]; rfl, fun b hb => ?_, fun b b1 hb => ?_⟩ (by rw [e3, jV_wJ, if_pos ⟨rfl, rfl⟩]; rfl) f3
  · have hb : b ≤ 0 := hb
    have eb : b = 0 := by omega
    subst eb
    rw [i3 _ _ (by omega), i3 _ _ (by omega), i3 _ _ (by omega), j3 _ _ (by omega), j3 _ _ (by omega), j3 _ _ (by omega), j3 _ _ (by omega)]
    exact h0
  · have hb : b ≤ 0 := hb
    omega
section MBR
variable {pb ps w k : Nat → Nat} {kf jf : Nat → Nat → Int32} {pn pw : Nat} {H : Nat → Bool}
/-- the hyphens' places that the reference marked -/
def mH (M : sm_M) (H : Nat → Bool) (pn : Nat) : Prop := ∀ p, p ≤ pn → iV M 157 p = if H p = true then 1 else 0
theorem P204 {M : sm_M} {p : Nat} (hP : wP pb ps pn pw) (hM : mP M pb ps pn pw) (hH : mH M H pn) (hp : p ≤ pn) : p204_0 M (Int32.ofNat p) = ki (uk H pb pn p) ∧ q204_0 M (Int32.ofNat p) := by
  have hn := hP.1
  unfold p204_0 q204_0
  rw [hM.1, o_cl (by omega), hH p hp]
  unfold uk
  by_cases e : p = pn
  · rw [if_pos ((o_eq (by omega) (by omega)).mpr e), if_pos e]
    exact ⟨rfl, fun _ => trivial, fun z => absurd ((o_eq (by omega) (by omega)).mpr e) z⟩
  · have e' : ¬ Int32.ofNat p = Int32.ofNat pn := fun z => e ((o_eq (by omega) (by omega)).mp z)
    obtain ⟨b1, b2, b3, b4⟩ := hP.2.1 p (by omega)
    rw [if_neg e', if_neg e, (hM.2.2 p (by omega)).1]
    have oi1 : vp_in (Int32.ofNat p) 4001 := (o_in (by omega)).mpr (by omega)
    have oi2 : vp_in (Int32.ofNat p) 4002 := (o_in (by omega)).mpr (by omega)
    by_cases e2 : pb p = 32
    · rw [e2, if_pos rfl, if_pos (show Int32.ofNat 32 = 32 from rfl)]
      exact ⟨rfl, fun z => absurd z e', fun _ => ⟨oi1, fun _ => trivial, fun z => absurd rfl z⟩⟩
    · have e2' : ¬ Int32.ofNat (pb p) = 32 := fun z => e2 ((o_eq (m := 32) (by omega) (by omega)).mp z)
      rw [if_neg e2', if_neg e2]
      by_cases e3 : H p = true
      · rw [if_pos e3, if_pos e3, if_neg (by decide)]
        exact ⟨rfl, fun z => absurd z e', fun _ => ⟨oi1, fun z => absurd z e2', fun _ => ⟨oi2, fun z => absurd z (by decide), fun _ => trivial⟩⟩⟩
      · rw [if_neg e3, if_neg e3, if_pos rfl]
        by_cases e4 : p = 0
        · subst e4
          rw [if_pos (by decide), if_neg (by omega)]
          exact ⟨rfl, fun z => absurd z e', fun _ => ⟨oi1, fun z => absurd z e2', fun _ => ⟨oi2, fun _ => ⟨fun _ => trivial, fun z => absurd (by decide) z⟩, fun z => absurd rfl z⟩⟩⟩
        · have e4' : ¬ Int32.ofNat p ≤ 0 := fun z => e4 ((o_le0 (by omega)).mp z)
          rw [if_neg e4', o_p (by omega), o_cl (by omega), (hM.2.2 (p - 1) (by omega)).1]
          obtain ⟨c1, c2, c3, c4⟩ := hP.2.1 (p - 1) (by omega)
          have oi3 : vp_in (Int32.ofNat (p - 1)) 4001 := (o_in (by omega)).mpr (by omega)
          by_cases e5 : pb (p - 1) = 45
          · rw [e5, if_pos (show Int32.ofNat 45 = 45 from rfl), if_neg e2', if_pos ⟨by omega, rfl⟩]
            exact ⟨rfl, fun z => absurd z e', fun _ => ⟨oi1, fun z => absurd z e2', fun _ => ⟨oi2, fun _ => ⟨fun z => absurd z e4', fun _ => ⟨oi3, fun _ => oi1, fun z => absurd rfl z⟩⟩, fun z => absurd rfl z⟩⟩⟩
          · have e5' : ¬ Int32.ofNat (pb (p - 1)) = 45 := fun z => e5 ((o_eq (m := 45) (by omega) (by omega)).mp z)
            rw [if_neg e5', if_neg (fun z => e5 z.2)]
            exact ⟨rfl, fun z => absurd z e', fun _ => ⟨oi1, fun z => absurd z e2', fun _ => ⟨oi2, fun _ => ⟨fun z => absurd z e4', fun _ => ⟨oi3, fun z => absurd z e5', fun _ => trivial⟩⟩, fun z => absurd rfl z⟩⟩⟩
theorem ki_l {n : Nat} (h : n ≤ 4) : (ki n < 0 ↔ n = 4) ∧ (0 ≤ ki n ↔ ¬ n = 4) ∧ (ki n = 0 ↔ n = 0) ∧ (ki n = 1 ↔ n = 1) := (show ∀ n, n < 5 → (ki n < 0 ↔ n = 4) ∧ (0 ≤ ki n ↔ ¬ n = 4) ∧ (ki n = 0 ↔ n = 0) ∧ (ki n = 1 ↔ n = 1) from by decide) n (by omega)
theorem s203_1 {M : sm_M} (hS : SH M) (hP : wP pb ps pn pw) (hM : mP M pb ps pn pw) (hH : mH M H pn) : ∀ (d p : Nat), pn - p = d → p ≤ pn → sm_w 203 (4, [some (.ref 116), some (.int (Int32.ofNat (un (uk H pb pn) p))), some (.int (Int32.ofNat (p + 1)))], []) M (rI (fun v M2 => v = Int32.ofNat (un (uk H pb pn) pn) ∧ M2 = M)) := by
  have hn := hP.1
  intro d
  induction d with
  | zero =>
    intro p hd hp
    have e : p = pn := by omega
    subst e
    refine g203_1 hS ?_
    rw [hM.1]
    exact ⟨fun _ => ⟨rfl, rfl⟩, fun c => absurd ((o_lt (by omega) (by omega)).mpr (by omega)) c⟩
  | succ d ih =>
    intro p hd hp
    have ih := ih (p + 1) (by omega) (by omega)
    obtain ⟨y1, y2⟩ := P204 hP hM hH (p := p + 1) (by omega)
    have hk := (uk_3 (H := H) (pb := pb) (pn := pn) (p + 1)).2
    refine g203_1 hS ?_
    rw [hM.1, y1, (ki_l hk).1]
    refine ⟨fun c => absurd ((o_lt (by omega) (by omega)).mp c) (by omega), fun _ => ⟨y2, ?_⟩⟩
    rw [o_s, o_s]
    refine ⟨fun c => ?_, fun c => ?_⟩
    · rw [un_s, if_pos c] at ih
      rw [show ∀ x : Int32, x + 0 = x from fun x => Int32.add_zero x]
      exact ih
    · rw [un_s, if_neg c] at ih; exact ih
theorem s203 {M : sm_M} (hS : SH M) (hP : wP pb ps pn pw) (hM : mP M pb ps pn pw) (hH : mH M H pn) : sm_cI 203 [.ref 116] M (fun v M2 => v = Int32.ofNat (un (uk H pb pn) pn) ∧ M2 = M) := g203_0 hS (s203_1 hS hP hM hH pn 0 (by omega) (by omega))
/-- the rows of the reference's breaks up to n -/
def mRw (M : sm_M) (n : Nat) (D : Nat → Nat → Nat) : Prop := iV M 116 63 = Int32.ofNat n ∧ (∀ b, b ≤ n → jV M 152 b = Int64.ofNat (D 2 b) ∧ jV M 153 b = Int64.ofNat (D 3 b) ∧ jV M 154 b = Int64.ofNat (D 4 b) ∧ jV M 155 b = Int64.ofNat (D 5 b)) ∧ (∀ b, 1 ≤ b → b ≤ n → iV M 150 b = Int32.ofNat (D 0 b) ∧ iV M 151 b = Int32.ofNat (D 1 b) ∧ jV M 156 b = Int64.ofNat (D 9 b))
def pmk : Nat → Nat → Prop := fun a i => a = 116 ∧ (i = 63 ∨ i = 67) ∨ 150 ≤ a ∧ a ≤ 156
/-- the next break's rows -/
theorem mRw_s {g h : Nat → Nat} {W : Nat → Nat → Nat} {M M2 : sm_M} {p : Nat} (e : ¬ k (p + 1) = 4) (hR : mRw M (un k p) (uD k W g h p)) (h3 : iV M2 116 63 = Int32.ofNat (un k p + 1)) (hF : ∀ a i, 150 ≤ a → a ≤ 156 → i ≤ un k p → iV M2 a i = iV M a i ∧ jV M2 a i = jV M a i) (hn : iV M2 150 (un k p + 1) = Int32.ofNat (k (p + 1)) ∧ iV M2 151 (un k p + 1) = Int32.ofNat (p + 1) ∧ jV M2 152 (un k p + 1) = Int64.ofNat (uD k W g h p 2 (un k p) + W (us k p) (p + 1)) ∧ jV M2 153 (un k p + 1) = Int64.ofNat (uD k W g h p 3 (un k p) + (if k (p + 1) = 0 then g (p + 1) else 0)) ∧ jV M2 154 (un k p + 1) = Int64.ofNat (uD k W g h p 4 (un k p) + (if k (p + 1) = 0 then g (p + 1) / 2 else 0)) ∧ jV M2 155 (un k p + 1) = Int64.ofNat (uD k W g h p 5 (un k p) + (if k (p + 1) = 0 then g (p + 1) / 3 else 0)) ∧ jV M2 156 (un k p + 1) = Int64.ofNat (if k (p + 1) = 0 then g (p + 1) else if k (p + 1) = 1 then h (p + 1) else 0)) : mRw M2 (un k (p + 1)) (uD k W g h (p + 1)) := by
  obtain ⟨r1, r2, r3⟩ := hR
  rw [un_s, if_neg e]
  obtain ⟨n1, n2, n4, n5, n6, n7, n8⟩ := hn
  refine ⟨h3, fun b hb => ?_, fun b b1 hb => ?_⟩
  · rcases Nat.lt_or_ge b (un k p + 1) with z | z
    · rw [uD_o (by omega), uD_o (by omega), uD_o (by omega), uD_o (by omega), (hF 152 b (by omega) (by omega) (by omega)).2, (hF 153 b (by omega) (by omega) (by omega)).2, (hF 154 b (by omega) (by omega) (by omega)).2, (hF 155 b (by omega) (by omega) (by omega)).2]
      exact r2 b (by omega)
    · have eb : b = un k p + 1 := by omega
      subst eb
      rw [uD_n e, uD_n e, uD_n e, uD_n e]
      exact ⟨n4, n5, n6, n7⟩
  · rcases Nat.lt_or_ge b (un k p + 1) with z | z
    · rw [uD_o (by omega), uD_o (by omega), uD_o (by omega), (hF 150 b (by omega) (by omega) (by omega)).1, (hF 151 b (by omega) (by omega) (by omega)).1, (hF 156 b (by omega) (by omega) (by omega)).2]
      exact r3 b b1 (by omega)
    · have eb : b = un k p + 1 := by omega
      subst eb
      rw [uD_n e, uD_n e, uD_n e]
      exact ⟨n1, n2, n8⟩
end MBR
