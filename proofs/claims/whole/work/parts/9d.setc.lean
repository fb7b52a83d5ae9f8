/-! SET: what it leaves; the kind. -/
theorem z_cl {x : Int32} (h : ¬ x < 0) : Int32.ofNat x.toNatClampNeg = x ∧ x.toNatClampNeg < 2147483648 := by
  obtain ⟨n, h1, h2⟩ := z_ps h
  subst h2
  rw [o_cl h1]
  exact ⟨rfl, h1⟩
noncomputable def sD (D : Nat → Nat → Nat) (h : Nat) : Nat → Nat → Nat := fun r i => if r = 10 then rE D (D 12 0, h) i else if r = 11 then rK D (D 12 0, h) i else if r = 12 ∧ i = 6 then ck D (D 12 0, h) else if r = 12 ∧ i = 7 then nL D (D 12 0, h) else D r i
theorem wK.sD {D : Nat → Nat → Nat} (h : wK D) (t : Nat) : wK (sD D t) := h
theorem cK.sD {M : sm_M} {o : Nat} {D : Nat → Nat → Nat} (h : cK M o D) (t : Nat) : cK M o (sD D t) := h
theorem mK.sD {M : sm_M} {D : Nat → Nat → Nat} (h : mK M D) (t : Nat) : mK M (sD D t) := h
noncomputable def hb (D : Nat → Nat → Nat) : Nat := (bstF (Ent D (D 12 0)) 4).getD 0
theorem hb_is {D : Nat → Nat → Nat} {h : Nat} (e : bstF (Ent D (D 12 0)) 4 = some h) : hb D = h := by unfold hb; rw [e]; rfl
theorem hb_v {D : Nat → Nat → Nat} {h : Nat} (e : bstF (Ent D (D 12 0)) 4 = some h) : vx D (D 12 0, h) := by
  obtain ⟨b1, b2⟩ := (bstF_s (Ent D (D 12 0)) 4).1 h e
  exact ⟨Nat.le_refl _, by show h ≤ 3; omega, b2⟩
theorem pa_e {D : Nat → Nat → Nat} {x : Nat × Nat} {n : Nat} (h : 1 ≤ n) : pa D x n = pre D (pa D x (n - 1)) := by
  obtain ⟨m, rfl⟩ : ∃ m, n = m + 1 := ⟨n - 1, by omega⟩
  rfl
theorem sD_lf {D : Nat → Nat → Nat} {x : Nat × Nat} (hw : wK D) (hx : vx D x) {j : Nat} (hj : j < nL D x) : (if j = 0 then 0 else rE D x (j - 1)) = (pre D (pa D x (nL D x - 1 - j))).1 ∧ (pre D (pa D x (nL D x - 1 - j))).1 < rE D x j ∧ rE D x j ≤ D 12 0 := by
  obtain ⟨v1, v2⟩ := pa_v hw hx (nL D x - 1 - j) (by omega)
  have y1 : 1 ≤ (pa D x (nL D x - 1 - j)).1 := by
    rcases Nat.eq_zero_or_pos (pa D x (nL D x - 1 - j)).1 with z | z
    · rw [nL_0 z] at v2
      omega
    · exact z
  obtain ⟨u1, u2, u3⟩ := pre_v hw v1 y1
  refine ⟨?_, u2, v1.1⟩
  by_cases ej : j = 0
  · subst ej
    rw [if_pos rfl, Nat.sub_zero, ← pa_e (by omega)]
    obtain ⟨q1, q2⟩ := pa_v hw hx (nL D x) (Nat.le_refl _)
    rcases Nat.eq_zero_or_pos (pa D x (nL D x)).1 with z | z
    · exact z.symm
    · rw [nL_s hw q1 z] at q2
      omega
  · rw [if_neg ej]
    unfold rE
    rw [pa_e (n := nL D x - 1 - (j - 1)) (by omega), show nL D x - 1 - (j - 1) - 1 = nL D x - 1 - j from by omega]
theorem sD_w {D : Nat → Nat → Nat} {h : Nat} (hw : wK D) (e : bstF (Ent D (D 12 0)) 4 = some h) (h1 : D 12 1 ≤ 4000) (h8 : ∀ i, i < D 12 1 → D 8 i < 128) (hb1 : ∀ b, b ≤ D 12 0 → D 1 b ≤ D 12 1) (h5 : D 12 5 ≤ 10001) : wL (sD D h) := by
  have hx := hb_v e
  have n1 := nL_s hw hx hw.1.1
  have n2 : nL D (D 12 0, h) ≤ D 12 0 := nl_le hw _ _ hx
  have n3 := hw.1.2
  refine ⟨⟨?_, ?_⟩, fun j hj => ?_, h1, h8, hb1, h5⟩
  · show 1 ≤ nL D (D 12 0, h)
    omega
  · show nL D (D 12 0, h) ≤ 600
    omega
  · obtain ⟨a1, a2, a3⟩ := sD_lf hw hx (j := j) hj
    refine ⟨?_, a3⟩
    show (if j = 0 then 0 else rE D (D 12 0, h) (j - 1)) < rE D (D 12 0, h) j
    rw [a1]
    exact a2
theorem ft_le {D : Nat → Nat → Nat} {t : Nat} (h : t ≤ 10000) : ft D t ≤ 10001 := by
  unfold ft
  by_cases a : rch D t
  · rw [if_pos a]; omega
  · rw [if_neg a]
    by_cases b : rch D 10000
    · rw [if_pos b]; omega
    · rw [if_neg b]; omega
section SETC
variable {pb ps w : Nat → Nat} {kf jf : Nat → Nat → Int32} {pn pw : Nat} {T : Nat → Nat → Nat → Nat}
/-- the breaks and the shape -/
noncomputable def d0 (T : Nat → Nat → Nat → Nat) (pb ps : Nat → Nat) (pn : Nat) (w : Nat → Nat) (kf jf : Nat → Nat → Int32) (hy wi ind al : Nat) : Nat → Nat → Nat := uF (uk (hyB T pb pn hy) pb pn) (uW pn pb ps w kf jf) (ug pn ps w) (uh pn ps w) pb pn wi ind al
noncomputable def d1 (D : Nat → Nat → Nat) (t : Nat) : Nat → Nat → Nat := wt D (ft D t)
noncomputable def d2 (D : Nat → Nat → Nat) (t : Nat) : Nat → Nat → Nat := sD (d1 D t) (hb (d1 D t))
def okS (x1 x2 x3 x4 x5 : Int32) : Prop := (¬ x1 < 1000 ∧ x1 ≤ 1000000) ∧ (¬ x2 < 0 ∧ x2 ≤ 500000) ∧ (¬ x3 < 0 ∧ x3 ≤ 3) ∧ (¬ x4 < 0 ∧ x4 ≤ 1) ∧ ¬ x5 < 1 ∧ x5 ≤ 10000
theorem okS_n {x1 x2 x3 x4 x5 : Int32} (h : okS x1 x2 x3 x4 x5) : (Int32.ofNat x1.toNatClampNeg = x1 ∧ 1000 ≤ x1.toNatClampNeg ∧ x1.toNatClampNeg ≤ 1000000) ∧ (Int32.ofNat x2.toNatClampNeg = x2 ∧ x2.toNatClampNeg ≤ 500000) ∧ (Int32.ofNat x3.toNatClampNeg = x3 ∧ x3.toNatClampNeg ≤ 3) ∧ (Int32.ofNat x4.toNatClampNeg = x4 ∧ x4.toNatClampNeg ≤ 1) ∧ Int32.ofNat x5.toNatClampNeg = x5 ∧ 1 ≤ x5.toNatClampNeg ∧ x5.toNatClampNeg ≤ 10000 := by
  obtain ⟨⟨a1, a2⟩, ⟨b1, b2⟩, ⟨c1, c2⟩, ⟨e1, e2⟩, f1, f2⟩ := h
  have lo : ∀ {x : Int32} {n : Nat}, n < 2147483648 → ¬ x < Int32.ofNat n → Int32.ofNat x.toNatClampNeg = x ∧ n ≤ x.toNatClampNeg ∧ x.toNatClampNeg < 2147483648 := fun {x n} hn hx => by
    have h0 : ¬ x < 0 := fun z => hx (Int32.lt_of_lt_of_le z (Int32.not_lt.mp (o_nn hn)))
    obtain ⟨z1, z2⟩ := z_cl h0
    refine ⟨z1, ?_, z2⟩
    rw [← z1, o_lt z2 hn] at hx
    omega
  have up : ∀ {x : Int32} {n : Nat}, n < 2147483648 → Int32.ofNat x.toNatClampNeg = x → x.toNatClampNeg < 2147483648 → x ≤ Int32.ofNat n → x.toNatClampNeg ≤ n := fun {x n} hn hx h2 h3 => by
    rw [← hx] at h3
    exact (o_le h2 hn).mp h3
  obtain ⟨a3, a4, a5⟩ := lo (n := 1000) (by omega) a1
  obtain ⟨b3, b4, b5⟩ := lo (n := 0) (by omega) b1
  obtain ⟨c3, c4, c5⟩ := lo (n := 0) (by omega) c1
  obtain ⟨e3, e4, e5⟩ := lo (n := 0) (by omega) e1
  obtain ⟨f3, f4, f5⟩ := lo (n := 1) (by omega) f1
  exact ⟨⟨a3, a4, up (n := 1000000) (by omega) a3 a5 a2⟩, ⟨b3, up (n := 500000) (by omega) b3 b5 b2⟩, ⟨c3, up (n := 3) (by omega) c3 c5 c2⟩, ⟨e3, up (n := 1) (by omega) e3 e5 e2⟩, f3, f4, up (n := 10000) (by omega) f3 f5 f2⟩
theorem d0_w {hy wi ind al : Nat} (hP : wP pb ps pn pw) (hF : wF w kf jf) (h1 : ¬ pn = 0) (h6 : un (uk (hyB T pb pn hy) pb pn) pn ≤ 600) (hp : 1000 ≤ wi ∧ wi ≤ 1000000 ∧ ind ≤ 500000 ∧ al ≤ 3) : wK (d0 T pb ps pn w kf jf hy wi ind al) ∧ ∀ b, b ≤ un (uk (hyB T pb pn hy) pb pn) pn → d0 T pb ps pn w kf jf hy wi ind al 1 b ≤ pn :=
  uF_w (fun a b h => uW_b hP hF a b h) (fun q => ug_b hP hF q) (fun q => uh_b hP hF q) (by omega) hP.1 h6 (fun q _ => uk_3 q) hp
theorem d2_w {hy wi ind al t : Nat} (hP : wP pb ps pn pw) (hF : wF w kf jf) (h1 : ¬ pn = 0) (h6 : un (uk (hyB T pb pn hy) pb pn) pn ≤ 600) (hp : 1000 ≤ wi ∧ wi ≤ 1000000 ∧ ind ≤ 500000 ∧ al ≤ 3) (ht : t ≤ 10000) {h : Nat} (e : bstF (Ent (d1 (d0 T pb ps pn w kf jf hy wi ind al) t) (d1 (d0 T pb ps pn w kf jf hy wi ind al) t 12 0)) 4 = some h) : wK (d2 (d0 T pb ps pn w kf jf hy wi ind al) t) ∧ wL (d2 (d0 T pb ps pn w kf jf hy wi ind al) t) := by
  obtain ⟨k1, k2⟩ := d0_w (T := T) (hy := hy) hP hF h1 h6 hp
  refine ⟨(k1.wt _).sD _, ?_⟩
  unfold d2
  rw [hb_is e]
  exact sD_w (k1.wt _) e hP.1 (fun i hi => by have := (hP.2.1 i hi).2.1; show pb i < 128; omega) k2 (ft_le ht)
def zS (M : sm_M) (o : Nat) : Prop := iV M (o + 1 + 3) 0 = 0 ∧ iV M (o + 1 + 4) 0 = 0 ∧ iV M (o + 1 + 6) 0 = 0 ∧ jV M (o + 1 + 7) 0 = 0 ∧ jV M (o + 1 + 8) 0 = 0 ∧ jV M (o + 1 + 9) 0 = 0 ∧ jV M (o + 1 + 10) 0 = 0
theorem zS.ofK {M : sm_M} {o : Nat} {D : Nat → Nat → Nat} (h : cK M o D) (hw : wK D) : zS M o := by
  obtain ⟨a1, a2, a3, a4, a5, a6, a7⟩ := h.2.1 0 (Nat.zero_le _)
  obtain ⟨b1, b2, b3, b4, b5, b6, b7⟩ := hw.2.2.2.2.1
  rw [b1] at a1; rw [b2] at a2; rw [b7] at a3; rw [b3] at a4; rw [b4] at a5; rw [b5] at a6; rw [b6] at a7
  exact ⟨a1, a2, a3, a4, a5, a6, a7⟩
theorem zS.fr {M M2 : sm_M} {p : Nat → Nat → Prop} {o : Nat} (h : zS M o) (f : Fr p M M2) (hp : ∀ a, o + 4 ≤ a → a ≤ o + 11 → ¬ p a 0) : zS M2 o := by
  obtain ⟨a1, a2, a3, a4, a5, a6, a7⟩ := h
  exact ⟨by rw [f.2.1 _ _ (hp _ (by omega) (by omega))]; exact a1, by rw [f.2.1 _ _ (hp _ (by omega) (by omega))]; exact a2, by rw [f.2.1 _ _ (hp _ (by omega) (by omega))]; exact a3, by rw [f.2.2 _ _ (hp _ (by omega) (by omega))]; exact a4, by rw [f.2.2 _ _ (hp _ (by omega) (by omega))]; exact a5, by rw [f.2.2 _ _ (hp _ (by omega) (by omega))]; exact a6, by rw [f.2.2 _ _ (hp _ (by omega) (by omega))]; exact a7⟩
def pset (o x2 : Nat) : Nat → Nat → Prop := fun a _ => o ≤ a ∧ a ≤ o + 13 ∨ a = x2 + 9 ∨ 37 ≤ a ∧ a ≤ 40
def K86 (M : sm_M) (o o2 x2 : Nat) (D : Nat → Nat → Nat) (v : Int32) (M2 : sm_M) : Prop := v = Int32.ofNat (D 12 7) ∧ wK D ∧ wL D ∧ cK M2 o2 D ∧ cLn M2 o2 D ∧ ∃ M1, Fr (pset o2 x2) M M1 ∧ M2 = sm_wI (sm_wR (sm_wR M1 23 13 (some o2)) 23 14 (some o)) 23 15 1
theorem rv_wR (M : sm_M) (r k : Nat) (x : Option Nat) (a b : Nat) : sm_rv (sm_wR M r k x) a b = if a = r ∧ b = k then x else sm_rv M a b := by
  show va_up (sm_rv M) r (va_up (sm_rv M r) k x) a b = _
  unfold va_up
  by_cases h : a = r
  · subst h
    by_cases h2 : b = k
    · rw [if_pos rfl, if_pos h2, if_pos ⟨rfl, h2⟩]
    · rw [if_pos rfl, if_neg h2, if_neg (fun z => h2 z.2)]
  · rw [if_neg h, if_neg (fun z => h z.1)]
theorem s86_1 {M A : sm_M} {x1 x2 x3 x5 : Int32} {o o2 th fn hy : Nat} {X : Nat → sm_M → Prop} {K : Int32 → sm_M → Prop} (hS : SH M) (ho : fS o) (ho2 : fS o2) (hth : fH th) (hfn : fF fn) (hP : wP pb ps pn pw) (hF : wF w kf jf) (hw : wT T) (h1 : ¬ pn = 0) (r13 : sm_rv A 23 13 = some o) (r14 : sm_rv A 23 14 = some o2) (r9 : sm_rv A 23 9 = some fn) (hcP : cP A pb ps pn pw) (hcF : cF A fn w kf jf) (hz : zS A o2) (hQ : Q87 A (o2 + 1) th T pb pn hy M) (q1 : Int32.ofNat x1.toNatClampNeg = x1 ∧ 1000 ≤ x1.toNatClampNeg ∧ x1.toNatClampNeg ≤ 1000000) (q2 : Int32.ofNat x2.toNatClampNeg = x2 ∧ x2.toNatClampNeg ≤ 500000) (q3 : Int32.ofNat x3.toNatClampNeg = x3 ∧ x3.toNatClampNeg ≤ 3) (q5 : Int32.ofNat x5.toNatClampNeg = x5 ∧ 1 ≤ x5.toNatClampNeg ∧ x5.toNatClampNeg ≤ 10000) (hX : 600 < un (uk (hyB T pb pn hy) pb pn) pn → X M.1 (sm_new M 51 6)) (hK : un (uk (hyB T pb pn hy) pb pn) pn ≤ 600 → ∀ v M2, SH M2 → K86 A o o2 th (d2 (d0 T pb ps pn w kf jf hy x1.toNatClampNeg x2.toNatClampNeg x3.toNatClampNeg) x5.toNatClampNeg) v M2 → K v M2) : sm_w 86 (95, [some (.ref 23), some (.int (x1)), some (.int (x2)), some (.int (x3)), none, some (.int (x5)), some (.ref (o2 + 1)), none], []) M (yI X K) := by
  have hoo : o2 = 88 ∨ o2 = 102 := ho2
  have hoo1 : o = 88 ∨ o = 102 := ho
  have hff : fn = 42 ∨ fn = 55 := hfn
  have hhh := fH_s hth
  have hx6 : fK (o2 + 1) := by rcases hoo with e | e <;> subst e; exact Or.inl rfl; exact Or.inr rfl
  have hn := hP.1
  obtain ⟨hM, hB, fM⟩ := hQ
  have h0 : uk (hyB T pb pn hy) pb pn 0 = 4 := by
    unfold uk
    rw [if_neg (by omega), if_neg (hP.2.2.2 (by omega)), if_neg, if_neg (by omega)]
    intro z
    obtain ⟨a, e, l1, l2, l3⟩ := (hyB_t.mp z).2
    have := l3.1
    have := hw.1.2.2.1
    omega
  have rM : ∀ {B : sm_M} {p : Nat → Nat → Prop}, Fr p A B → ∀ k, sm_rv B 23 k = sm_rv A 23 k := fun f k => by rw [f.1.2.2.2.2]
  refine g86_1 hS hx6 ((s96 hS hx6 hn (fun q _ => (uk_3 q).2) h0 hM).mono fun v M1 k1 s1 => ?_)
  obtain ⟨k11, k12⟩ := k1
  subst k12
  have hun := un_le (uk (hyB T pb pn hy) pb pn) pn
  rw [k11]
  refine ⟨fun c => ?_, fun c => hX ?_⟩
  · have h6 : un (uk (hyB T pb pn hy) pb pn) pn ≤ 600 := (o_le (m := 600) (by omega) (by omega)).mp c
    refine ⟨fn, by rw [rM fM]; exact r9, hfn, ?_⟩
    have T1 : ∀ i, i < pn → iV M1 (o2 + 1 + 1) i = Int32.ofNat (pb i) ∧ iV M1 32 i = Int32.ofNat (ps i) := fun i hi => ⟨hB i hi, by rw [fM.2.1 _ _ (by unfold p87; omega)]; exact (hcP.2.2 i hi).2⟩
    refine (s97 s1 hx6 hfn hP hF (fun q _ => uk_3 q) h6 hM T1 (hcF.eq fun a k a1 a2 => fM.2.1 _ _ (by unfold p87; omega)) (hz.fr fM fun a a1 a2 => by unfold p87; omega)).mono fun M7 k7 s7 => ?_
    obtain ⟨k71, k72, f7⟩ := k7
    have F7 : Fr (pset o2 th) A M7 := (fM.mono fun a k z => by unfold p87 at z; unfold pset; omega).tr (f7.mono fun a k z => by unfold pfi at z; unfold pset; omega)
    refine ⟨o2, by rw [rM F7]; exact r14, ho2, fun M37 s37 e37 M39 s39 e39 M41 s41 e41 => ?_⟩
    have F41 : Fr (pset o2 th) A M41 := by
      rw [e41, e39, e37]
      exact ((F7.wI (Or.inl ⟨by omega, by omega⟩)).wI (Or.inl ⟨by omega, by omega⟩)).wI (Or.inl ⟨by omega, by omega⟩)
    have i41 : ∀ a k, o2 < a → iV M41 a k = iV M7 a k := fun a k z => by rw [e41, iV_wI, if_neg (by omega), e39, iV_wI, if_neg (by omega), e37, iV_wI, if_neg (by omega)]
    have j41 : ∀ a k, jV M41 a k = jV M7 a k := fun a k => by rw [e41, jV_wI, e39, jV_wI, e37, jV_wI]
    have K41 : cK M41 o2 (d0 T pb ps pn w kf jf hy x1.toNatClampNeg x2.toNatClampNeg x3.toNatClampNeg) := by
      obtain ⟨a1, a2, a3⟩ := k71
      refine ⟨by rw [i41 _ _ (by omega)]; exact a1, fun b hb => ?_, fun b b1 b2 => by rw [i41 _ _ (by omega)]; exact a3 b b1 b2, ?_, ?_, ?_⟩
      · rw [i41 _ _ (by omega), i41 _ _ (by omega), i41 _ _ (by omega), j41, j41, j41, j41]
        exact a2 b hb
      · rw [e41, iV_wI, if_neg (by omega), e39, iV_wI, if_neg (by omega), e37, iV_wI, if_pos ⟨rfl, rfl⟩]; exact q1.1.symm
      · rw [e41, iV_wI, if_neg (by omega), e39, iV_wI, if_pos ⟨rfl, rfl⟩]; exact q2.1.symm
      · rw [e41, iV_wI, if_pos ⟨rfl, rfl⟩]; exact q3.1.symm
    have W := d0_w (T := T) (hy := hy) (wi := x1.toNatClampNeg) (ind := x2.toNatClampNeg) (al := x3.toNatClampNeg) hP hF h1 h6 ⟨q1.2.1, q1.2.2, q2.2, q3.2⟩
    refine ⟨o2, by rw [rM F41]; exact r14, ho2, ?_⟩
    rw [← q5.1]
    refine (s105 s41 ho2 W.1 (by omega) K41).mono fun M19 k19 s19 => ?_
    obtain ⟨⟨h, c0, c1, c2, c3, c4⟩, f19⟩ := k19
    have F19 : Fr (pset o2 th) A M19 := F41.tr (f19.mono fun a k z => by unfold pch at z; unfold pset; omega)
    refine ⟨o, by rw [rM F19]; exact r13, ho, o2, by rw [rM F19]; exact r14, ho2, fun M28 s28 e28 M30 s30 e30 M32 s32 e32 => ⟨o2, ?_, ho2, ?_⟩⟩
    · rw [e32]
      show sm_rv M30 23 13 = _
      rw [e30, rv_wR, if_neg (by omega), e28, rv_wR, if_pos ⟨rfl, rfl⟩]
    · have i32 : ∀ a k, ¬ a = 23 → iV M32 a k = iV M19 a k := fun a k z => by rw [e32, iV_wI, if_neg (by omega), e30, e28]; rfl
      have j32 : ∀ a k, jV M32 a k = jV M19 a k := fun a k => by rw [e32, jV_wI, e30, e28]; rfl
      have i19 : ∀ a k, o2 < a → a < o2 + 12 → iV M19 a k = iV M41 a k := fun a k z1 z2 => f19.2.1 a k (by unfold pch; omega)
      have j19 : ∀ a k, o2 < a → a < o2 + 12 → jV M19 a k = jV M41 a k := fun a k z1 z2 => f19.2.2 a k (by unfold pch; omega)
      have ehb := hb_is c0
      refine hK h6 _ M32 s32 ⟨?_, (d2_w (T := T) hP hF h1 h6 ⟨q1.2.1, q1.2.2, q2.2, q3.2⟩ q5.2.2 c0).1, (d2_w (T := T) hP hF h1 h6 ⟨q1.2.1, q1.2.2, q2.2, q3.2⟩ q5.2.2 c0).2, ?_, ?_, M19, F19, by rw [e32, e30, e28]⟩
      · rw [i32 _ _ (by omega), c3]
        unfold d2
        rw [show d1 (d0 T pb ps pn w kf jf hy x1.toNatClampNeg x2.toNatClampNeg x3.toNatClampNeg) x5.toNatClampNeg = wt (d0 T pb ps pn w kf jf hy x1.toNatClampNeg x2.toNatClampNeg x3.toNatClampNeg) (ft (d0 T pb ps pn w kf jf hy x1.toNatClampNeg x2.toNatClampNeg x3.toNatClampNeg) x5.toNatClampNeg) from rfl, ehb]
        rfl
      · refine (?_ : cK M32 o2 (d0 T pb ps pn w kf jf hy x1.toNatClampNeg x2.toNatClampNeg x3.toNatClampNeg))
        obtain ⟨a1, a2, a3, a4, a5, a6⟩ := K41
        refine ⟨by rw [i32 _ _ (by omega), i19 _ _ (by omega) (by omega)]; exact a1, fun b hb => ?_, fun b b1 b2 => by rw [i32 _ _ (by omega), i19 _ _ (by omega) (by omega)]; exact a3 b b1 b2, ?_, ?_, ?_⟩
        · rw [i32 _ _ (by omega), i19 _ _ (by omega) (by omega), i32 _ _ (by omega), i19 _ _ (by omega) (by omega), i32 _ _ (by omega), i19 _ _ (by omega) (by omega), j32, j19 _ _ (by omega) (by omega), j32, j19 _ _ (by omega) (by omega), j32, j19 _ _ (by omega) (by omega), j32, j19 _ _ (by omega) (by omega)]
          exact a2 b hb
        · rw [i32 _ _ (by omega), f19.2.1 _ _ (by unfold pch; omega)]; exact a4
        · rw [i32 _ _ (by omega), f19.2.1 _ _ (by unfold pch; omega)]; exact a5
        · rw [i32 _ _ (by omega), f19.2.1 _ _ (by unfold pch; omega)]; exact a6
      · unfold d2
        rw [show d1 (d0 T pb ps pn w kf jf hy x1.toNatClampNeg x2.toNatClampNeg x3.toNatClampNeg) x5.toNatClampNeg = wt (d0 T pb ps pn w kf jf hy x1.toNatClampNeg x2.toNatClampNeg x3.toNatClampNeg) (ft (d0 T pb ps pn w kf jf hy x1.toNatClampNeg x2.toNatClampNeg x3.toNatClampNeg) x5.toNatClampNeg) from rfl, ehb]
        refine ⟨by rw [i32 _ _ (by omega)]; exact c1, by rw [j32]; exact c2, by rw [i32 _ _ (by omega)]; exact c3, ?_, fun j hj => ?_, fun i hi => ?_⟩
        · rw [j32, j19 _ _ (by omega) (by omega), j41]; exact k72
        · rw [i32 _ _ (by omega), j32]; exact c4 j hj
        · rw [i32 _ _ (by omega), i19 _ _ (by omega) (by omega), i41 _ _ (by omega), f7.2.1 _ _ (by unfold pfi; omega)]; exact (T1 i hi).1
  · rcases Nat.lt_or_ge 600 (un (uk (hyB T pb pn hy) pb pn) pn) with z | z
    · exact z
    · exact absurd ((o_le (m := 600) (by omega) (by omega)).mpr z) c
def X86 (M : sm_M) (o2 th : Nat) (T : Nat → Nat → Nat → Nat) (pb : Nat → Nat) (pn : Nat) (x1 x2 x3 x4 x5 : Int32) (r : Nat) (M2 : sm_M) : Prop := ∃ M1, r = M1.1 ∧ Fr (pset o2 th) M M1 ∧ zS M1 o2 ∧ ((¬ okS x1 x2 x3 x4 x5 ∧ M2 = sm_new M1 48 6) ∨ (okS x1 x2 x3 x4 x5 ∧ pn = 0 ∧ M2 = sm_new M1 49 6) ∨ (okS x1 x2 x3 x4 x5 ∧ ¬ pn = 0 ∧ 600 < un (uk (hyB T pb pn x4.toNatClampNeg) pb pn) pn ∧ M2 = sm_new M1 51 6))
theorem s86 {M : sm_M} {x1 x2 x3 x4 x5 : Int32} {o o2 th fn : Nat} (hS : SH M) (ho : fS o) (ho2 : fS o2) (hth : fH th) (hfn : fF fn) (hP : wP pb ps pn pw) (hF : wF w kf jf) (hw : wT T) (r13 : sm_rv M 23 13 = some o) (r14 : sm_rv M 23 14 = some o2) (r9 : sm_rv M 23 9 = some fn) (r11 : sm_rv M 23 11 = some th) (hcP : cP M pb ps pn pw) (hcF : cF M fn w kf jf) (hT : cTb M th T) (hz : zS M o2) : sm_xI 86 [.ref 23, .int (x1), .int (x2), .int (x3), .int (x4), .int (x5)] M (X86 M o2 th T pb pn x1 x2 x3 x4 x5) (fun v M2 => SH M2 ∧ okS x1 x2 x3 x4 x5 ∧ ¬ pn = 0 ∧ un (uk (hyB T pb pn x4.toNatClampNeg) pb pn) pn ≤ 600 ∧ K86 M o o2 th (d2 (d0 T pb ps pn w kf jf x4.toNatClampNeg x1.toNatClampNeg x2.toNatClampNeg x3.toNatClampNeg) x5.toNatClampNeg) v M2) := by
  have hoo : o2 = 88 ∨ o2 = 102 := ho2
  have hx6 : fK (o2 + 1) := by rcases hoo with e | e <;> subst e; exact Or.inl rfl; exact Or.inr rfl
  have bad : ¬ okS x1 x2 x3 x4 x5 → X86 M o2 th T pb pn x1 x2 x3 x4 x5 M.1 (sm_new M 48 6) := fun z => ⟨M, rfl, Fr.rf _ _, hz, Or.inl ⟨z, rfl⟩⟩
  have hn := hP.1
  refine g86_0 hS ⟨fun c => bad fun z => z.1.1 c, fun a1 => ⟨fun a2 => ⟨fun c => bad fun z => z.2.1.1 c, fun b1 => ⟨fun b2 => ⟨fun c => bad fun z => z.2.2.1.1 c, fun c1 => ⟨fun c2 => ⟨fun c => bad fun z => z.2.2.2.1.1 c, fun e1 => ⟨fun e2 => ⟨fun c => bad fun z => z.2.2.2.2.1 c, fun f1 => ⟨fun f2 => ?_, fun c => bad fun z => c z.2.2.2.2.2⟩⟩, fun c => bad fun z => c z.2.2.2.1.2⟩⟩, fun c => bad fun z => c z.2.2.1.2⟩⟩, fun c => bad fun z => c z.2.1.2⟩⟩, fun c => bad fun z => c z.1.2⟩⟩
  have ok : okS x1 x2 x3 x4 x5 := ⟨⟨a1, a2⟩, ⟨b1, b2⟩, ⟨c1, c2⟩, ⟨e1, e2⟩, f1, f2⟩
  obtain ⟨q1, q2, q3, q4, q5⟩ := okS_n ok
  rw [hcP.1]
  refine ⟨fun c => ⟨M, rfl, Fr.rf _ _, hz, Or.inr (Or.inl ⟨ok, (o_eq (m := 0) (by omega) (by omega)).mp c, rfl⟩)⟩, fun c => ⟨o2, r14, ho2, fun c4 => ⟨th, r11, hth, ?_⟩, fun c4 => ?_⟩⟩
  · have hpn : ¬ pn = 0 := fun z => c (by rw [z]; rfl)
    have e4 : x4.toNatClampNeg = 1 := by rw [c4]; rfl
    refine (s87 hS hx6 hth hw hP hcP hT).mono fun M22 k22 s22 => ?_
    refine s86_1 (A := M) s22 ho ho2 hth hfn hP hF hw hpn r13 r14 r9 hcP hcF hz k22 q1 q2 q3 q5 (fun z => ⟨M22, rfl, k22.2.2.mono fun a k y => by unfold p87 at y; unfold pset; omega, hz.fr k22.2.2 fun a a1 a2 => by unfold p87; have := fH_s hth; omega, Or.inr (Or.inr ⟨ok, hpn, by rw [e4]; exact z, rfl⟩)⟩) fun z v M2 s2 k2 => ⟨s2, ok, hpn, by rw [e4]; exact z, by rw [e4]; exact k2⟩
  · have hpn : ¬ pn = 0 := fun z => c (by rw [z]; rfl)
    have e4 : x4.toNatClampNeg = 0 := by
      rcases Nat.eq_zero_or_pos x4.toNatClampNeg with z | z
      · exact z
      · exact absurd (by rw [← q4.1, show x4.toNatClampNeg = 1 from by have := q4.2; omega]; rfl) c4
    refine (s87n (T := T) hS hx6 hth hw hP hcP).mono fun M22 k22 s22 => ?_
    refine s86_1 (A := M) s22 ho ho2 hth hfn hP hF hw hpn r13 r14 r9 hcP hcF hz k22 q1 q2 q3 q5 (fun z => ⟨M22, rfl, k22.2.2.mono fun a k y => by unfold p87 at y; unfold pset; omega, hz.fr k22.2.2 fun a a1 a2 => by unfold p87; have := fH_s hth; omega, Or.inr (Or.inr ⟨ok, hpn, by rw [e4]; exact z, rfl⟩)⟩) fun z v M2 s2 k2 => ⟨s2, ok, hpn, by rw [e4]; exact z, by rw [e4]; exact k2⟩
end SETC
