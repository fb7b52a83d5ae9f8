/-! A FONT IS READ: the entries. -/
theorem z_neg {x : Int32} (h : -2147483648 < x.toInt) : (-x).toInt = -x.toInt := by
  have := x.toInt_lt
  rw [Int32.toInt_neg, z_bm (by omega) (by omega)]
section FRD
variable {tb : Nat → Nat} {tn : Nat}
theorem nt_nt {i : Nat} (h : i ≤ tn) : nt tb tn (nt tb tn i) = nt tb tn i := by
  obtain ⟨b1, b2⟩ := nt_b (tb := tb) h
  rcases Nat.lt_or_ge (nt tb tn i) tn with z | z
  · have e := nt_n h z
    conv => lhs; unfold nt
    exact fs_t (p := fun j => !(bk (tb j))) z (by show (!(bk (tb (nt tb tn i)))) = true; rw [e]; rfl)
  · have e : nt tb tn i = tn := by omega
    rw [e]
    unfold nt
    exact fs_e (Nat.le_refl _)
noncomputable def eW3 (tb : Nat → Nat) (tn p : Nat) (G : Fn) (b v : Nat) : Nat ⊕ (Nat × Fn) := @ite _ (kS tb tn p 59) (Classical.propDecidable _) (Sum.inr (p + 1, tW G b v)) (Sum.inl p)
noncomputable def eW2 (tb : Nat → Nat) (tn p : Nat) (G : Fn) (b : Nat) : Nat ⊕ (Nat × Fn) := @ite _ (kNu tb tn p 5000) (Classical.propDecidable _) (eW3 tb tn (nt tb tn (dr tb tn p)) G b (dv tb p (dr tb tn p - p))) (Sum.inl p)
noncomputable def eW (tb : Nat → Nat) (tn p : Nat) (G : Fn) : Nat ⊕ (Nat × Fn) := @ite _ (kB tb tn (nt tb tn p)) (Classical.propDecidable _) (eW2 tb tn (nt tb tn (nt tb tn p + 3)) G (tb (nt tb tn p + 1))) (Sum.inl (nt tb tn p))
noncomputable def eP5 (tb : Nat → Nat) (tn p : Nat) (Q : Pq) (a b : Nat) (v : Int32) : Nat ⊕ (Nat × Pq) := @ite _ (kS tb tn p 59) (Classical.propDecidable _) (Sum.inr (p + 1, tQ Q a b v)) (Sum.inl p)
noncomputable def eP4 (tb : Nat → Nat) (tn p mx : Nat) (Q : Pq) (a b : Nat) (ng : Bool) : Nat ⊕ (Nat × Pq) := @ite _ (kNu tb tn p mx) (Classical.propDecidable _) (eP5 tb tn (nt tb tn (dr tb tn p)) Q a b (if ng = true then -Int32.ofNat (dv tb p (dr tb tn p - p)) else Int32.ofNat (dv tb p (dr tb tn p - p)))) (Sum.inl p)
noncomputable def eP3 (tb : Nat → Nat) (tn p : Nat) (sg : Bool) (mx : Nat) (Q : Pq) (a b : Nat) : Nat ⊕ (Nat × Pq) := @ite _ (sg = true ∧ kS tb tn p 45) (Classical.propDecidable _) (eP4 tb tn (nt tb tn (p + 1)) mx Q a b true) (eP4 tb tn p mx Q a b false)
noncomputable def eP2 (tb : Nat → Nat) (tn p : Nat) (sg : Bool) (mx lim : Nat) (Q : Pq) (a : Nat) : Nat ⊕ (Nat × Pq) := @ite _ (kB tb tn p ∧ room lim Q a (tb (p + 1))) (Classical.propDecidable _) (eP3 tb tn (nt tb tn (p + 3)) sg mx Q a (tb (p + 1))) (Sum.inl p)
noncomputable def eP (tb : Nat → Nat) (tn p : Nat) (sg : Bool) (mx lim : Nat) (Q : Pq) : Nat ⊕ (Nat × Pq) := @ite _ (kB tb tn (nt tb tn p)) (Classical.propDecidable _) (eP2 tb tn (nt tb tn (nt tb tn p + 3)) sg mx lim Q (tb (nt tb tn p + 1))) (Sum.inl (nt tb tn p))
def mpK (G : Fn) (r : Nat ⊕ (Nat × Pq)) : Nat ⊕ (Nat × Fn) := match r with
  | Sum.inl e => Sum.inl e
  | Sum.inr z => Sum.inr (z.1, (G.1, G.2.1, G.2.2.1, z.2, G.2.2.2.2))
def mpJ (G : Fn) (r : Nat ⊕ (Nat × Pq)) : Nat ⊕ (Nat × Fn) := match r with
  | Sum.inl e => Sum.inl e
  | Sum.inr z => Sum.inr (z.1, (G.1, G.2.1, G.2.2.1, G.2.2.2.1, z.2))
noncomputable def fE (tb : Nat → Nat) (tn s : Nat) (G : Fn) : Nat ⊕ (Nat × Fn) := @ite _ (kW tb tn s 1) (Classical.propDecidable _) (eW tb tn (s + 5) G) (@ite _ (kW tb tn s 3) (Classical.propDecidable _) (mpK G (eP tb tn (s + 4) true 500 200 G.2.2.2.1)) (@ite _ (kW tb tn s 5) (Classical.propDecidable _) (mpJ G (eP tb tn (s + 4) false 5000 60 G.2.2.2.2)) (Sum.inl s)))
/-- the whole text from i on -/
noncomputable def fR (tb : Nat → Nat) (tn : Nat) : Nat → Nat → Fn → Nat ⊕ Fn
  | 0, _, G => Sum.inr G
  | d + 1, i, G => if tn ≤ nt tb tn i then Sum.inr G else match fE tb tn (nt tb tn i) G with
    | Sum.inl e => Sum.inl e
    | Sum.inr z => fR tb tn d z.1 z.2
/-- what holds of a result -/
def okRr (tn i lim : Nat) (lo hi : Int) (r : Nat ⊕ (Nat × Pq)) : Prop := match r with
  | Sum.inl e => e ≤ tn
  | Sum.inr z => i < z.1 ∧ z.1 ≤ tn ∧ wQ lim lo hi z.2
def okE (tn i : Nat) (r : Nat ⊕ (Nat × Fn)) : Prop := match r with
  | Sum.inl e => e ≤ tn
  | Sum.inr z => i < z.1 ∧ z.1 ≤ tn ∧ wG z.2
theorem kN_v {p m : Nat} (h : kNu tb tn p m) : dv tb p (dr tb tn p - p) ≤ m := h.2.2
theorem eW_ok {p i : Nat} {G : Fn} (hp : p ≤ tn) (hi : i ≤ p) (hG : wG G) : okE tn i (eW tb tn p G) := by
  obtain ⟨b1, b2⟩ := nt_b (tb := tb) hp
  unfold eW
  by_cases c1 : kB tb tn (nt tb tn p)
  · rw [if_pos c1]
    have l1 := c1.1
    obtain ⟨b3, b4⟩ := nt_b (tb := tb) (i := nt tb tn p + 3) (tn := tn) (by omega)
    unfold eW2
    by_cases c2 : kNu tb tn (nt tb tn (nt tb tn p + 3)) 5000
    · rw [if_pos c2]
      obtain ⟨b5, b6⟩ := dr_b (tb := tb) b4
      obtain ⟨b7, b8⟩ := nt_b (tb := tb) b6
      unfold eW3
      by_cases c3 : kS tb tn (nt tb tn (dr tb tn (nt tb tn (nt tb tn p + 3)))) 59
      · rw [if_pos c3]
        have l3 := c3.1
        refine ⟨?_, ?_, fun b hb => ?_, hG.2⟩
        · show i < nt tb tn (dr tb tn (nt tb tn (nt tb tn p + 3))) + 1
          omega
        · show nt tb tn (dr tb tn (nt tb tn (nt tb tn p + 3))) + 1 ≤ tn
          omega
        · show tp G.1 (tb (nt tb tn p + 1)) (dv tb _ _) b ≤ 5000
          by_cases e : b = tb (nt tb tn p + 1)
          · rw [e, tp_e]; exact kN_v c2
          · rw [tp_o _ _ _ e]; exact hG.1 b hb
      · rw [if_neg c3]; exact b8
    · rw [if_neg c2]; exact b4
  · rw [if_neg c1]; exact b2
theorem eP4_ok {p mx a b lim i : Nat} {ng : Bool} {Q : Pq} {lo hi : Int} (hp : p ≤ tn) (hi2 : i ≤ p) (hm : mx ≤ 5000) (hlo : lo ≤ 0) (hng : ng = true → lo ≤ -(mx : Int)) (hhi : (mx : Int) ≤ hi) (hQ : wQ lim lo hi Q) (ha : a < 128) (hb : b < 128) (hr : room lim Q a b) : okRr tn i lim lo hi (eP4 tb tn p mx Q a b ng) := by
  unfold eP4
  by_cases c2 : kNu tb tn p mx
  · rw [if_pos c2]
    obtain ⟨b5, b6⟩ := dr_b (tb := tb) hp
    obtain ⟨b7, b8⟩ := nt_b (tb := tb) b6
    unfold eP5
    by_cases c3 : kS tb tn (nt tb tn (dr tb tn p)) 59
    · rw [if_pos c3]
      have l3 := c3.1
      have v2 := kN_v c2
      refine ⟨?_, ?_, tQ_w hQ ha hb hr ?_ ?_⟩
      · show i < nt tb tn (dr tb tn p) + 1
        omega
      · show nt tb tn (dr tb tn p) + 1 ≤ tn
        omega
      · cases ng with
        | true =>
          have := hng rfl
          rw [if_pos rfl, z_neg (by rw [o_ti (by omega)]; omega), o_ti (by omega)]
          omega
        | false =>
          rw [if_neg (by decide), o_ti (by omega)]
          omega
      · cases ng with
        | true =>
          rw [if_pos rfl, z_neg (by rw [o_ti (by omega)]; omega), o_ti (by omega)]
          omega
        | false =>
          rw [if_neg (by decide), o_ti (by omega)]
          omega
    · rw [if_neg c3]; exact b8
  · rw [if_neg c2]; exact hp
theorem eP_ok {p mx lim i : Nat} {sg : Bool} {Q : Pq} {lo hi : Int} (hp : p ≤ tn) (hi2 : i ≤ p) (hm : mx ≤ 5000) (hlo : lo ≤ 0) (hsg : sg = true → lo ≤ -(mx : Int)) (hhi : (mx : Int) ≤ hi) (hQ : wQ lim lo hi Q) : okRr tn i lim lo hi (eP tb tn p sg mx lim Q) := by
  obtain ⟨b1, b2⟩ := nt_b (tb := tb) hp
  unfold eP
  by_cases c1 : kB tb tn (nt tb tn p)
  · rw [if_pos c1]
    have l1 := c1.1
    have la := c1.2.2.2.2.1
    obtain ⟨b3, b4⟩ := nt_b (tb := tb) (i := nt tb tn p + 3) (tn := tn) (by omega)
    unfold eP2
    by_cases c2 : kB tb tn (nt tb tn (nt tb tn p + 3)) ∧ room lim Q (tb (nt tb tn p + 1)) (tb (nt tb tn (nt tb tn p + 3) + 1))
    · rw [if_pos c2]
      have l2 := c2.1.1
      have lb := c2.1.2.2.2.2.1
      obtain ⟨b5, b6⟩ := nt_b (tb := tb) (i := nt tb tn (nt tb tn p + 3) + 3) (tn := tn) (by omega)
      unfold eP3
      by_cases c3 : sg = true ∧ kS tb tn (nt tb tn (nt tb tn (nt tb tn p + 3) + 3)) 45
      · rw [if_pos c3]
        have l3 := c3.2.1
        obtain ⟨b7, b8⟩ := nt_b (tb := tb) (i := nt tb tn (nt tb tn (nt tb tn p + 3) + 3) + 1) (tn := tn) (by omega)
        exact eP4_ok b8 (by omega) hm hlo (fun _ => hsg c3.1) hhi hQ (by omega) (by omega) c2.2
      · rw [if_neg c3]
        exact eP4_ok b6 (by omega) hm hlo (fun z => absurd z (by decide)) hhi hQ (by omega) (by omega) c2.2
    · rw [if_neg c2]; exact b4
  · rw [if_neg c1]; exact b2
theorem kH_l {s x : Nat} (h : kH tb tn s x) : s + cN x ≤ tn := by
  have h5 := cN_b (x := x)
  have := (h (cN x - 1) (by omega)).1
  omega
theorem fE_ok {s : Nat} {G : Fn} (hs : s ≤ tn) (hG : wG G) : okE tn s (fE tb tn s G) := by
  unfold fE
  by_cases c1 : kW tb tn s 1
  · rw [if_pos c1]
    exact eW_ok (by have := kH_l c1.1; rw [show cN 1 = 5 from rfl] at this; omega) (by omega) hG
  · rw [if_neg c1]
    by_cases c2 : kW tb tn s 3
    · rw [if_pos c2]
      have z := eP_ok (tb := tb) (tn := tn) (i := s) (p := s + 4) (sg := true) (mx := 500) (lo := -500) (hi := 500) (by have := kH_l c2.1; rw [show cN 3 = 4 from rfl] at this; omega) (by omega) (by omega) (by omega) (fun _ => by omega) (by omega) hG.2.1
      cases e : eP tb tn (s + 4) true 500 200 G.2.2.2.1 with
      | inl x => rw [e] at z; exact z
      | inr x => rw [e] at z; exact ⟨z.1, z.2.1, hG.1, z.2.2, hG.2.2⟩
    · rw [if_neg c2]
      by_cases c3 : kW tb tn s 5
      · rw [if_pos c3]
        have z := eP_ok (tb := tb) (tn := tn) (i := s) (p := s + 4) (sg := false) (mx := 5000) (lo := 0) (hi := 5000) (by have := kH_l c3.1; rw [show cN 5 = 4 from rfl] at this; omega) (by omega) (by omega) (by omega) (fun z => absurd z (by decide)) (by omega) hG.2.2
        cases e : eP tb tn (s + 4) false 5000 60 G.2.2.2.2 with
        | inl x => rw [e] at z; exact z
        | inr x => rw [e] at z; exact ⟨z.1, z.2.1, hG.1, hG.2.1, z.2.2⟩
      · rw [if_neg c3]; exact hs
def okL (tn : Nat) (r : Nat ⊕ Fn) : Prop := match r with
  | Sum.inl e => e ≤ tn
  | Sum.inr G2 => wG G2
theorem fR_b (tb : Nat → Nat) (tn : Nat) : ∀ (d i : Nat) (G : Fn), i ≤ tn → wG G → okL tn (fR tb tn d i G)
  | 0, i, G, _, hw => hw
  | d + 1, i, G, hi, hw => by
    obtain ⟨b1, b2⟩ := nt_b (tb := tb) hi
    have ok := fE_ok (tb := tb) b2 hw
    unfold fR
    by_cases c : tn ≤ nt tb tn i
    · rw [if_pos c]; exact hw
    · rw [if_neg c]
      cases e : fE tb tn (nt tb tn i) G with
      | inl p => rw [e] at ok; exact ok
      | inr z => rw [e] at ok; exact fR_b tb tn d z.1 z.2 ok.2.1 ok.2.2
def pfo (x : Nat) : Nat → Nat → Prop := fun a k => a = 33 ∧ (k = 1 ∨ k = 2) ∨ x ≤ a ∧ a ≤ x + 12
/-- what an entry's reading leaves -/
def cEn (A : sm_M) (tn x : Nat) (r : Nat ⊕ (Nat × Fn)) (v : Int32) (M2 : sm_M) : Prop := (match r with
  | Sum.inl e => v = 0 ∧ iV M2 33 2 = Int32.ofNat e ∧ ∃ j, j ≤ tn ∧ iV M2 33 1 = Int32.ofNat j
  | Sum.inr z => v = 1 ∧ cL M2 z.1 (-1) ∧ cFn M2 x z.2) ∧ Fr (pfo x) A M2
theorem f33 {x : Nat} {A B : sm_M} (f : Fr p33 A B) : Fr (pfo x) A B := f.mono fun a k z => Or.inl z
theorem cY.f33 {M M2 : sm_M} {x : Nat} (hx : fF x) (h : cY M 24 tb tn) (f : Fr (pfo x) M M2) : cY M2 24 tb tn := by
  have := (fF_s hx).1
  exact h.fr f ⟨by unfold pfo; omega, fun k => by unfold pfo; omega⟩
theorem cFn.f33 {M M2 : sm_M} {x : Nat} {G : Fn} (hx : fF x) (h : cFn M x G) (f : Fr p33 M M2) : cFn M2 x G := by
  have := (fF_s hx).1
  exact h.eq fun a k z1 z2 => f.2.1 _ _ (by unfold p33; omega)
theorem s43 {M : sm_M} {x p : Nat} {G : Fn} (hS : SH M) (hx : fF x) (hY : cY M 24 tb tn) (hn : tn ≤ 8192) (hp : p ≤ tn) (hL : cL M p (-1)) (hG : cFn M x G) : sm_cI 43 [.ref 33, .ref x] M (cEn M tn x (eW tb tn p G)) := by
  have hxx := (fF_s hx).1
  obtain ⟨b1, b2⟩ := nt_b (tb := tb) hp
  refine g43_0 hS hx ((s44 hS hY hn hp hL).mono fun v2 M1 k1 s1 => ?_)
  obtain ⟨k11, f1⟩ := k1
  unfold eW
  rcases k11 with ⟨y1, y2, y3⟩ | ⟨y1, y2, y3⟩
  · rw [if_pos y2]
    have l1 := y2.1
    have lb := y2.2.2.2.2.1
    refine ⟨fun _ => ?_, fun c => absurd (by rw [y1]; exact Int32.not_lt.mp (o_nn (by omega))) c⟩
    obtain ⟨b3, b4⟩ := nt_b (tb := tb) (i := nt tb tn p + 3) (tn := tn) (by omega)
    have Y1 := hY.f33 hx (f33 f1)
    refine (s46 (m := 5000) s1 Y1 hn (by omega) (by omega) y3).mono fun v5 M4 k4 s4 => ?_
    obtain ⟨k41, f4⟩ := k4
    unfold eW2
    rcases k41 with ⟨z1, z2, z3⟩ | ⟨z1, z2, z3⟩
    · rw [if_pos z2]
      have vb := kN_v z2
      obtain ⟨b5, b6⟩ := dr_b (tb := tb) b4
      refine ⟨fun _ => ?_, fun c => absurd (by rw [z1]; exact Int32.not_lt.mp (o_nn (by omega))) c⟩
      have Y4 := Y1.f33 hx (f33 f4)
      refine (s48 (c := 59) s4 Y4 hn b6 (by omega) z3).mono fun v8 M7 k7 s7 => ?_
      obtain ⟨k71, f7⟩ := k7
      unfold eW3
      rcases k71 with ⟨u1, u2, u3⟩ | ⟨u1, u2, u3⟩
      · rw [if_pos u2]
        refine ⟨fun c => absurd c (by rw [u1]; decide), fun _ => ?_⟩
        rw [y1, z1]
        refine (s49 s7 hx (hG.f33 hx (f1.tr (f4.tr f7))) (by omega)).mono fun M10 k10 s10 => ?_
        obtain ⟨k101, f10⟩ := k10
        exact ⟨⟨rfl, ⟨by rw [f10.2.1 _ _ (by unfold pfn; omega)]; exact u3.1, by rw [f10.2.1 _ _ (by unfold pfn; omega)]; exact u3.2⟩, k101⟩, (f33 (f1.tr (f4.tr f7))).tr (f10.mono fun a k z => Or.inr z)⟩
      · rw [if_neg u2, u3.1]
        obtain ⟨b7, b8⟩ := nt_b (tb := tb) b6
        exact ⟨fun _ M14 s14 e14 => ⟨Or.inl rfl, ⟨rfl, by rw [e14, iV_wI, if_pos ⟨rfl, rfl⟩], _, b8, by rw [e14, iV_wI, if_neg (by omega)]; exact u3.1⟩, by rw [e14]; exact f33 ((f1.tr (f4.tr f7)).wI ⟨rfl, Or.inr rfl⟩)⟩, fun c => absurd u1 c⟩
    · rw [if_neg z2]
      exact ⟨fun c => absurd c (by rw [z1]; decide), fun _ => ⟨⟨rfl, z3.2, _, b4, z3.1⟩, f33 (f1.tr f4)⟩⟩
  · rw [if_neg y2]
    exact ⟨fun c => absurd c (by rw [y1]; decide), fun _ => ⟨⟨rfl, y3.2, _, b2, y3.1⟩, f33 f1⟩⟩
/-- what a pair's reading leaves -/
def cPn (A : sm_M) (tn q : Nat) (r : Nat ⊕ (Nat × Pq)) (v : Int32) (M2 : sm_M) : Prop := (match r with
  | Sum.inl e => v = 0 ∧ iV M2 33 2 = Int32.ofNat e ∧ ∃ j, j ≤ tn ∧ iV M2 33 1 = Int32.ofNat j
  | Sum.inr z => v = 1 ∧ cL M2 z.1 (-1) ∧ cPt M2 q z.2) ∧ Fr (fun a k => p33 a k ∨ pQ q a k) A M2
theorem p33Q {q : Nat} {A B : sm_M} (f : Fr p33 A B) : Fr (fun a k => p33 a k ∨ pQ q a k) A B := f.mono fun a k z => Or.inl z
theorem cPt.f33 {M M2 : sm_M} {q : Nat} {Q : Pq} (hq : fQ q) (h : cPt M q Q) (f : Fr p33 M M2) : cPt M2 q Q := by
  have := (fQ_s hq).1
  exact h.eq fun a k z1 z2 => f.2.1 _ _ (by unfold p33; omega)
theorem cYp {M M2 : sm_M} (h : cY M 24 tb tn) (f : Fr p33 M M2) : cY M2 24 tb tn := h.fr f ⟨by unfold p33; omega, fun k => by unfold p33; omega⟩
theorem s50_e {A M : sm_M} {q p p2 mx a b : Nat} {ng : Bool} {Q : Pq} {K : Int32 → sm_M → Prop} (hS : SH M) (hq : fQ q) (hY : cY M 24 tb tn) (hn : tn ≤ 8192) (hp : p ≤ tn) (hm : mx ≤ 5000) (hL : cL M p (-1)) (hQ : cPt M q Q) (hd : dQ Q.1 Q.2.1 Q.2.2.1) (ha : a < 128) (hb : b < 128) (hr : room (cQ q) Q a b) (hA : Fr p33 A M) (en : nt tb tn p = p2) (hk : ∀ v M2, SH M2 → cPn A tn q (eP4 tb tn p2 mx Q a b ng) v M2 → K v M2) : sm_cI 46 [.ref 33, .int (Int32.ofNat mx)] M (fun v2 M1 => SH M1 → ((0 ≤ v2 → sm_cI 48 [.ref 33, .int ((59 : Int32))] M1 (fun v5 M4 => SH M4 → ((v5 = 0 → ∀ M11, SH M11 → M11 = sm_wI M4 33 2 (iV M4 33 1) → ((0 : Int32) = 0 ∨ (0 : Int32) = 1) ∧ K (0 : Int32) M11) ∧ (¬ v5 = 0 → sm_cV 53 [.ref q, .int (Int32.ofNat a), .int (Int32.ofNat b), .int (if ng = true then -v2 else v2)] M4 (fun M13 => SH M13 → K (1 : Int32) M13))))) ∧ (¬ 0 ≤ v2 → K (0 : Int32) M1))) := by
  subst en
  have hqq := (fQ_s hq).1
  obtain ⟨b3, b4⟩ := nt_b (tb := tb) hp
  refine (s46 hS hY hn hp (by omega) hL).mono fun v2 M1 k1 s1 => ?_
  obtain ⟨k11, f1⟩ := k1
  unfold eP4 at hk
  rcases k11 with ⟨y1, y2, y3⟩ | ⟨y1, y2, y3⟩
  · rw [if_pos y2] at hk
    have vb := kN_v y2
    obtain ⟨b5, b6⟩ := dr_b (tb := tb) b4
    refine ⟨fun _ => ?_, fun c => absurd (by rw [y1]; exact Int32.not_lt.mp (o_nn (by omega))) c⟩
    refine (s48 (c := 59) s1 (cYp hY f1) hn b6 (by omega) y3).mono fun v5 M4 k4 s4 => ?_
    obtain ⟨k41, f4⟩ := k4
    unfold eP5 at hk
    rcases k41 with ⟨u1, u2, u3⟩ | ⟨u1, u2, u3⟩
    · rw [if_pos u2] at hk
      refine ⟨fun c => absurd c (by rw [u1]; decide), fun _ => ?_⟩
      rw [y1]
      refine (s53 s4 hq (hQ.f33 hq (f1.tr f4)) hd ha hb hr).mono fun M7 k7 s7 => hk _ _ s7 ?_
      obtain ⟨k71, f7⟩ := k7
      exact ⟨⟨rfl, ⟨by rw [f7.2.1 _ _ (by unfold pQ; omega)]; exact u3.1, by rw [f7.2.1 _ _ (by unfold pQ; omega)]; exact u3.2⟩, k71⟩, (p33Q (hA.tr (f1.tr f4))).tr (f7.mono fun a k z => Or.inr z)⟩
    · rw [if_neg u2] at hk
      rw [u3.1]
      obtain ⟨b7, b8⟩ := nt_b (tb := tb) b6
      exact ⟨fun _ M11 s11 e11 => ⟨Or.inl rfl, hk _ _ s11 ⟨⟨rfl, by rw [e11, iV_wI, if_pos ⟨rfl, rfl⟩], _, b8, by rw [e11, iV_wI, if_neg (by omega)]; exact u3.1⟩, by rw [e11]; exact p33Q ((hA.tr (f1.tr f4)).wI ⟨rfl, Or.inr rfl⟩)⟩⟩, fun c => absurd u1 c⟩
  · rw [if_neg y2] at hk
    exact ⟨fun c => absurd c (by rw [y1]; decide), fun _ => hk _ _ s1 ⟨⟨rfl, y3.2, _, b4, y3.1⟩, p33Q (hA.tr f1)⟩⟩
theorem s50 {M : sm_M} {q p mx : Nat} {sg : Bool} {x2 : Int32} {Q : Pq} (hS : SH M) (hq : fQ q) (hY : cY M 24 tb tn) (hn : tn ≤ 8192) (hp : p ≤ tn) (hm : mx ≤ 5000) (hL : cL M p (-1)) (hQ : cPt M q Q) (hd : dQ Q.1 Q.2.1 Q.2.2.1) (hsg : x2 = 0 ∧ sg = false ∨ x2 = 1 ∧ sg = true) : sm_cI 50 [.ref 33, .ref q, .int (x2), .int (Int32.ofNat mx)] M (cPn M tn q (eP tb tn p sg mx (cQ q) Q)) := by
  have hqq := (fQ_s hq).1
  obtain ⟨b1, b2⟩ := nt_b (tb := tb) hp
  refine g50_0 hS hq ((s44 hS hY hn hp hL).mono fun v2 M1 k1 s1 => ?_)
  obtain ⟨k11, f1⟩ := k1
  unfold eP
  rcases k11 with ⟨y1, y2, y3⟩ | ⟨y1, y2, y3⟩
  · rw [if_pos y2]
    have l1 := y2.1
    have la := y2.2.2.2.2.1
    refine ⟨fun _ => ?_, fun c => absurd (by rw [y1]; exact Int32.not_lt.mp (o_nn (by omega))) c⟩
    obtain ⟨b3, b4⟩ := nt_b (tb := tb) (i := nt tb tn p + 3) (tn := tn) (by omega)
    have Y1 := cYp hY f1
    rw [y3.1]
    refine (s29 s1 (Or.inl rfl) Y1 hn (by omega)).mono fun v28 M27 k27 s27 M30 s30 e30 => ?_
    obtain ⟨k271, k272⟩ := k27
    subst k272
    rw [k271] at e30
    have f30 : Fr p33 M M30 := by rw [e30]; exact f1.wI ⟨rfl, Or.inl rfl⟩
    have L30 : cL M30 (nt tb tn (nt tb tn p + 3)) (-1) := ⟨by rw [e30, iV_wI, if_pos ⟨rfl, rfl⟩], by rw [e30, iV_wI, if_neg (by omega)]; exact y3.2⟩
    have Y30 := cYp hY f30
    have nn := nt_nt (tb := tb) (tn := tn) (i := nt tb tn p + 3) (by omega)
    refine (s44 s30 Y30 hn b4 L30).mono fun v8 M7 k7 s7 => ?_
    rw [nn] at k7
    obtain ⟨k71, f7⟩ := k7
    unfold eP2
    rcases k71 with ⟨z1, z2, z3⟩ | ⟨z1, z2, z3⟩
    · have l2 := z2.1
      have lb := z2.2.2.2.2.1
      refine ⟨fun _ => ?_, fun c => absurd (by rw [z1]; exact Int32.not_lt.mp (o_nn (by omega))) c⟩
      have F7 := f30.tr f7
      have Y7 := cYp hY F7
      rw [y1, z1]
      refine (s51 s7 hq (hQ.f33 hq F7) hd (by omega) (by omega)).mono fun v11 M10 k10 s10 => ?_
      obtain ⟨k101, k102⟩ := k10
      subst k102
      rcases k101 with ⟨w1, w2⟩ | ⟨w1, w2⟩
      · rw [if_pos ⟨z2, w2⟩, w1]
        refine ⟨fun c => absurd c (by decide), fun _ => ?_⟩
        obtain ⟨b5, b6⟩ := nt_b (tb := tb) (i := nt tb tn (nt tb tn p + 3) + 3) (tn := tn) (by omega)
        unfold eP3
        have plain : ∀ B, SH B → Fr p33 M B → cL B (nt tb tn (nt tb tn (nt tb tn p + 3) + 3)) (-1) ∨ cL B (nt tb tn (nt tb tn p + 3) + 3) (-1) → sm_w 50 (72, [some (.ref 33), some (.ref q), none, some (.int (Int32.ofNat mx)), some (.int (Int32.ofNat (tb (nt tb tn p + 1)))), none, some (.int (Int32.ofNat (tb (nt tb tn (nt tb tn p + 3) + 1)))), none, none], []) B (rI (cPn M tn q (eP4 tb tn (nt tb tn (nt tb tn (nt tb tn p + 3) + 3)) mx Q (tb (nt tb tn p + 1)) (tb (nt tb tn (nt tb tn p + 3) + 1)) false))) := fun B sB fB hB => by
          refine g50_1 sB hq ?_
          rcases hB with hB | hB
          · exact s50_e (ng := false) sB hq (cYp hY fB) hn b6 hm hB (hQ.f33 hq fB) hd (by omega) (by omega) w2 fB (nt_nt (by omega)) fun v M2 s2 k2 => k2
          · exact s50_e (ng := false) sB hq (cYp hY fB) hn (by omega) hm hB (hQ.f33 hq fB) hd (by omega) (by omega) w2 fB rfl fun v M2 s2 k2 => k2
        rcases hsg with ⟨e1, e2⟩ | ⟨e1, e2⟩
        · rw [if_neg (fun z => absurd z.1 (by rw [e2]; decide)), e1]
          exact ⟨fun _ => plain M10 s10 F7 (Or.inr z3), fun c => absurd rfl c⟩
        · rw [e1]
          refine ⟨fun c => absurd c (by decide), fun _ => ?_⟩
          refine (s48 (c := 45) s10 Y7 hn (by omega) (by omega) z3).mono fun v16 M15 k15 s15 => ?_
          obtain ⟨k151, f15⟩ := k15
          have F15 := F7.tr f15
          rcases k151 with ⟨t1, t2, t3⟩ | ⟨t1, t2, t3⟩
          · rw [if_pos ⟨e2, t2⟩, t1]
            have l3 := t2.1
            refine ⟨fun c => absurd c (by decide), fun _ => ?_⟩
            exact s50_e (ng := true) s15 hq (cYp hY F15) hn (by omega) hm t3 (hQ.f33 hq F15) hd (by omega) (by omega) w2 F15 rfl fun v M2 s2 k2 => k2
          · rw [if_neg (fun z => t2 z.2), t1]
            exact ⟨fun _ => plain M15 s15 F15 (Or.inl t3), fun c => absurd rfl c⟩
      · rw [if_neg (fun z => w2 z.2), w1, L30.1]
        refine ⟨fun _ M13 s13 e13 => ⟨⟨rfl, by rw [e13, iV_wI, if_pos ⟨rfl, rfl⟩], _, (by omega : nt tb tn (nt tb tn p + 3) + 3 ≤ tn), by rw [e13, iV_wI, if_neg (by omega)]; exact z3.1⟩, ?_⟩, fun c => absurd rfl c⟩
        rw [e13]
        exact p33Q (F7.wI ⟨rfl, Or.inr rfl⟩)
    · rw [if_neg (fun z => z2 z.1)]
      exact ⟨fun c => absurd c (by rw [z1]; decide), fun _ => ⟨⟨rfl, z3.2, _, b4, z3.1⟩, p33Q (f30.tr f7)⟩⟩
  · rw [if_neg y2]
    exact ⟨fun c => absurd c (by rw [y1]; decide), fun _ => ⟨⟨rfl, y3.2, _, b2, y3.1⟩, p33Q f1⟩⟩
theorem s32 {M : sm_M} {x s : Nat} {G : Fn} (hS : SH M) (hN : NM M) (hx : fF x) (hY : cY M 24 tb tn) (hn : tn ≤ 8192) (hs : s ≤ tn) (hL : cL M s (-1)) (hG : cFn M x G) (hw : wG G) : sm_cI 32 [.ref 33, .ref x] M (cEn M tn x (fE tb tn s G)) := by
  obtain ⟨x1, x2, x3, x4, x5, x6, x7⟩ := fF_s hx
  have kp : ∀ (i : Nat) (M1 : sm_M), M1 = sm_wI M 33 1 (Int32.ofNat i) → Fr p33 M M1 ∧ cL M1 i (-1) := fun i M1 e => ⟨by rw [e]; exact (Fr.rf _ _).wI ⟨rfl, Or.inl rfl⟩, by rw [e, iV_wI, if_pos ⟨rfl, rfl⟩], by rw [e, iV_wI, if_neg (by omega)]; exact hL.2⟩
  have b01 : ∀ {r : Nat ⊕ (Nat × Fn)} {v : Int32} {M2 : sm_M}, cEn M tn x r v M2 → v = 0 ∨ v = 1 := fun {r v M2} k => by
    cases r with
    | inl e => exact Or.inl k.1.1
    | inr e => exact Or.inr k.1.1
  unfold fE
  refine g32_0 hS hx ((s33 hS hN (Or.inl rfl) hY hn hs hL.1).mono fun v2 M1 k1 s1 => ?_)
  rcases k1 with ⟨y1, y2, y3⟩ | ⟨y1, y2, y3⟩
  · rw [if_pos y2, y1]
    refine ⟨fun c => absurd c (by decide), fun _ => ?_⟩
    obtain ⟨f1, L1⟩ := kp _ _ y3
    rw [show cN 1 = 5 from rfl] at L1
    refine (s43 s1 hx (cYp hY f1) hn (by have := kH_l y2.1; rw [show cN 1 = 5 from rfl] at this; omega) L1 (hG.f33 hx f1)).mono fun v25 M24 k24 s24 => ?_
    have k24' : cEn M tn x (eW tb tn (s + 5) G) v25 M24 := ⟨k24.1, (f33 f1).tr k24.2⟩
    exact ⟨b01 k24', k24'⟩
  · rw [if_neg y2, y1]
    subst y3
    refine ⟨fun _ => ?_, fun c => absurd rfl c⟩
    refine (s33 s1 hN (Or.inr (Or.inl rfl)) hY hn hs hL.1).mono fun v5 M4 k4 s4 => ?_
    rcases k4 with ⟨z1, z2, z3⟩ | ⟨z1, z2, z3⟩
    · rw [if_pos z2, z1]
      refine ⟨fun c => absurd c (by decide), fun _ => ?_⟩
      obtain ⟨f1, L1⟩ := kp _ _ z3
      rw [show cN 3 = 4 from rfl] at L1
      have h50 := s50 (sg := true) (mx := 500) s4 x4 (cYp hY f1) hn (by have := kH_l z2.1; rw [show cN 3 = 4 from rfl] at this; omega) (by omega) L1 (hG.2.2.2.1.f33 x4 f1) hw.2.1.2.1 (Or.inr ⟨rfl, rfl⟩)
      rw [x6] at h50
      refine h50.mono fun v21 M20 k20 s20 => ?_
      have k20' : cEn M1 tn x (mpK G (eP tb tn (s + 4) true 500 200 G.2.2.2.1)) v21 M20 := by
        have fr : Fr (pfo x) M1 M20 := (f33 f1).tr (k20.2.mono fun a k z => by rcases z with z | z; exact Or.inl z; right; unfold pQ at z; omega)
        refine ⟨?_, fr⟩
        have k1 := k20.1
        cases e : eP tb tn (s + 4) true 500 200 G.2.2.2.1 with
        | inl u => rw [e] at k1; exact k1
        | inr u =>
          rw [e] at k1
          obtain ⟨w1, w2, w3⟩ := k1
          refine ⟨w1, w2, fun b hb => ?_, fun b hb => ?_, ?_, w3, ?_⟩
          · rw [k20.2.2.1 _ _ (by unfold p33 pQ; omega), f1.2.1 _ _ (by unfold p33; omega)]; exact hG.1 b hb
          · rw [k20.2.2.1 _ _ (by unfold p33 pQ; omega), f1.2.1 _ _ (by unfold p33; omega)]; exact hG.2.1 b hb
          · rw [k20.2.2.1 _ _ (by unfold p33 pQ; omega), f1.2.1 _ _ (by unfold p33; omega)]; exact hG.2.2.1
          · exact (hG.2.2.2.2.f33 x5 f1).eq fun a k a1 a2 => k20.2.2.1 _ _ (by unfold p33 pQ; omega)
      exact ⟨b01 k20', k20'⟩
    · rw [if_neg z2, z1]
      subst z3
      refine ⟨fun _ => ?_, fun c => absurd rfl c⟩
      refine (s33 s4 hN (Or.inr (Or.inr (Or.inl rfl))) hY hn hs hL.1).mono fun v8 M7 k7 s7 => ?_
      rcases k7 with ⟨t1, t2, t3⟩ | ⟨t1, t2, t3⟩
      · rw [if_pos t2, t1]
        refine ⟨fun c => absurd c (by decide), fun _ => ?_⟩
        obtain ⟨f1, L1⟩ := kp _ _ t3
        rw [show cN 5 = 4 from rfl] at L1
        have h50 := s50 (sg := false) (mx := 5000) s7 x5 (cYp hY f1) hn (by have := kH_l t2.1; rw [show cN 5 = 4 from rfl] at this; omega) (by omega) L1 (hG.2.2.2.2.f33 x5 f1) hw.2.2.2.1 (Or.inl ⟨rfl, rfl⟩)
        rw [x7] at h50
        refine h50.mono fun v17 M16 k16 s16 => ?_
        have k16' : cEn M4 tn x (mpJ G (eP tb tn (s + 4) false 5000 60 G.2.2.2.2)) v17 M16 := by
          have fr : Fr (pfo x) M4 M16 := (f33 f1).tr (k16.2.mono fun a k z => by rcases z with z | z; exact Or.inl z; right; unfold pQ at z; omega)
          refine ⟨?_, fr⟩
          have k1 := k16.1
          cases e : eP tb tn (s + 4) false 5000 60 G.2.2.2.2 with
          | inl u => rw [e] at k1; exact k1
          | inr u =>
            rw [e] at k1
            obtain ⟨w1, w2, w3⟩ := k1
            refine ⟨w1, w2, fun b hb => ?_, fun b hb => ?_, ?_, ?_, w3⟩
            · rw [k16.2.2.1 _ _ (by unfold p33 pQ; omega), f1.2.1 _ _ (by unfold p33; omega)]; exact hG.1 b hb
            · rw [k16.2.2.1 _ _ (by unfold p33 pQ; omega), f1.2.1 _ _ (by unfold p33; omega)]; exact hG.2.1 b hb
            · rw [k16.2.2.1 _ _ (by unfold p33 pQ; omega), f1.2.1 _ _ (by unfold p33; omega)]; exact hG.2.2.1
            · exact (hG.2.2.2.1.f33 x4 f1).eq fun a k a1 a2 => k16.2.2.1 _ _ (by unfold p33 pQ; omega)
        exact ⟨b01 k16', k16'⟩
      · rw [if_neg t2, t1]
        subst t3
        refine ⟨fun _ M14 s14 e14 => ?_, fun c => absurd rfl c⟩
        rw [hL.1] at e14
        exact ⟨Or.inl rfl, ⟨rfl, by rw [e14, iV_wI, if_pos ⟨rfl, rfl⟩], s, hs, by rw [e14, iV_wI, if_neg (by omega)]; exact hL.1⟩, by rw [e14]; exact (Fr.rf _ _).wI (Or.inl ⟨rfl, Or.inr rfl⟩)⟩
/-- what the reading leaves -/
def cRd (A : sm_M) (x : Nat) (r : Nat ⊕ Fn) (v : Int32) (M2 : sm_M) : Prop := (match r with
  | Sum.inl e => v = Int32.ofNat e
  | Sum.inr G => v = -1 ∧ wG G ∧ cFn M2 x G) ∧ Fr (pfo x) A M2
theorem s25_1 {A : sm_M} {x : Nat} (hx : fF x) (hN : NM A) (hY : cY A 24 tb tn) (hn : tn ≤ 8192) : ∀ (d i st : Nat) (G : Fn), tn - i < d → i ≤ tn → st ≤ i → wG G → ∀ M, SH M → cL M (nt tb tn i) (-1) → cFn M x G → Fr (pfo x) A M → sm_w 25 (22, [some (.ref 33), some (.ref x), some (.int ((1 : Int32))), some (.int (Int32.ofNat st))], []) M (rI (cRd A x (fR tb tn d i G))) := by
  obtain ⟨x1, x2, x3, x4, x5, x6, x7⟩ := fF_s hx
  intro d
  induction d with
  | zero =>
    intro i st G hd
    omega
  | succ d ih =>
    intro i st G hd hi hst hw M hS hL hG hA
    obtain ⟨b1, b2⟩ := nt_b (tb := tb) hi
    have Y := hY.f33 hx hA
    refine g25_1 hS hx ?_
    rw [Y.2.1, hL.1, hL.2]
    have done : tn ≤ nt tb tn i → cRd A x (fR tb tn (d + 1) i G) (-1) M := fun z => by
      show cRd A x (if tn ≤ nt tb tn i then Sum.inr G else _) (-1) M
      rw [if_pos z]
      exact ⟨⟨rfl, hw, hG⟩, hA⟩
    refine ⟨fun c => done (by have := (o_le (by omega) (by omega)).mp c; omega), fun c1 => ⟨fun c => absurd c (by decide), fun _ => ⟨fun c => done ((o_le (by omega) (by omega)).mp c), fun c2 => ?_⟩⟩⟩
    have hlt : ¬ tn ≤ nt tb tn i := fun z => c2 ((o_le (by omega) (by omega)).mpr z)
    show sm_cI 32 _ M (fun v2 M1 => SH M1 → sm_cI 29 _ M1 (fun v8 M7 => SH M7 → ∀ M10, SH M10 → M10 = sm_wI M7 33 1 v8 → sm_w 25 _ M10 (rI (cRd A x (if tn ≤ nt tb tn i then Sum.inr G else match fE tb tn (nt tb tn i) G with
      | Sum.inl e => Sum.inl e
      | Sum.inr z => fR tb tn d z.1 z.2)))))
    rw [if_neg hlt]
    refine (s32 hS (hN.eq fun a k z => hA.2.1 _ _ (by unfold pfo; omega)) hx Y hn b2 hL hG hw).mono fun v2 M1 k1 s1 => ?_
    have ok := fE_ok (tb := tb) b2 hw
    obtain ⟨k11, f1⟩ := k1
    have Y1 := Y.f33 hx f1
    cases e : fE tb tn (nt tb tn i) G with
    | inl p =>
      rw [e] at k11
      obtain ⟨w1, w2, j, w3, w4⟩ := k11
      rw [w4]
      refine (s29 s1 (Or.inl rfl) Y1 hn w3).mono fun v8 M7 k7 s7 M10 s10 e10 => ?_
      obtain ⟨k71, k72⟩ := k7
      subst k72
      have h102 : iV M10 33 2 = Int32.ofNat p := by rw [e10, iV_wI, if_neg (by omega)]; exact w2
      have R : cRd A x (Sum.inl p) (Int32.ofNat p) M10 := ⟨rfl, by rw [e10]; exact (hA.tr f1).wI (Or.inl ⟨rfl, Or.inl rfl⟩)⟩
      refine g25_1 s10 hx ?_
      rw [h102, w1]
      exact ⟨fun _ => R, fun _ => ⟨fun _ => R, fun c => absurd rfl c⟩⟩
    | inr z =>
      rw [e] at k11 ok
      obtain ⟨w1, w2, w3⟩ := k11
      obtain ⟨o1, o2, o3⟩ := ok
      rw [w2.1]
      refine (s29 s1 (Or.inl rfl) Y1 hn o2).mono fun v8 M7 k7 s7 M10 s10 e10 => ?_
      obtain ⟨k71, k72⟩ := k7
      subst k72
      rw [k71] at e10
      rw [w1, o_s]
      refine ih z.1 (st + 1) z.2 (by omega) o2 (by omega) o3 M10 s10 ⟨by rw [e10, iV_wI, if_pos ⟨rfl, rfl⟩], by rw [e10, iV_wI, if_neg (by omega)]; exact w2.2⟩ (w3.eq fun a k a1 a2 => by rw [e10, iV_wI, if_neg (by omega)]) (by rw [e10]; exact (hA.tr f1).wI (Or.inl ⟨rfl, Or.inl rfl⟩))
/-- the text as a font -/
noncomputable def fRd (tb : Nat → Nat) (tn : Nat) : Nat ⊕ Fn := fR tb tn (tn + 1) 0 G0
theorem s25 {M : sm_M} {x : Nat} (hS : SH M) (hx : fF x) (hN : NM M) (hY : cY M 24 tb tn) (hn : tn ≤ 8192) : sm_cI 25 [.ref 33, .ref x] M (cRd M x (fRd tb tn)) := by
  obtain ⟨x1, x2, x3, x4, x5, x6, x7⟩ := fF_s hx
  refine g25_0 hS hx ((s26 hS hx).mono fun M1 k1 s1 M4 s4 e4 M6 s6 e6 => ?_)
  obtain ⟨k11, f1⟩ := k1
  have f6 : Fr (pfo x) M M6 := by rw [e6, e4]; exact ((f1.mono (q := pfo x) fun a k z => Or.inr z).wI (Or.inl ⟨rfl, Or.inl rfl⟩)).wI (Or.inl ⟨rfl, Or.inr rfl⟩)
  have p6 : iV M6 33 1 = Int32.ofNat 0 := by rw [e6, iV_wI, if_neg (by omega), e4, iV_wI, if_pos ⟨rfl, rfl⟩]; rfl
  rw [p6]
  refine (s29 s6 (Or.inl rfl) (hY.f33 hx f6) hn (Nat.zero_le _)).mono fun v12 M11 k11b s11 M14 s14 e14 => ?_
  obtain ⟨k111, k112⟩ := k11b
  subst k112
  rw [k111] at e14
  exact s25_1 hx hN hY hn (tn + 1) 0 0 G0 (by omega) (Nat.zero_le _) (Nat.le_refl _) wG0 M14 s14 ⟨by rw [e14, iV_wI, if_pos ⟨rfl, rfl⟩], by rw [e14, iV_wI, if_neg (by omega), e6, iV_wI, if_pos ⟨rfl, rfl⟩]⟩ (k11.eq fun a k a1 a2 => by rw [e14, iV_wI, if_neg (by omega), e6, iV_wI, if_neg (by omega), e4, iV_wI, if_neg (by omega)]) (by rw [e14]; exact f6.wI (Or.inl ⟨rfl, Or.inl rfl⟩))
end FRD
