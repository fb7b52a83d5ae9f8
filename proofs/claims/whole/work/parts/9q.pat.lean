/-! HYPHENS ARE READ: patterns, and all; one side. -/
section HRQ
variable {tb : Nat → Nat} {tn : Nat}
def Q71 (A : sm_M) (x0 : Nat) (T : Tt) (tb : Nat → Nat) (wf wt : Nat) (v : Int32) (M2 : sm_M) : Prop := ((v = 1 ∧ (okY tb wf wt ∧ rmP T (ySs tb wf wt) (ynn tb wf wt)) ∧ cTr M2 x0 (tPt T (ySs tb wf wt) (ynn tb wf wt) (yDd tb wf wt))) ∨ (v = 0 ∧ ¬ (okY tb wf wt ∧ rmP T (ySs tb wf wt) (ynn tb wf wt)))) ∧ Fr (fun a k => pAd a k ∨ p72 x0 a k) A M2
theorem pto {wf wt : Nat} (h : wf < wt) : wf + pld tb wf + plen tb wf wt = wt - pdb tb wf wt := by
  have l1 := pld_b tb wf
  unfold plen pdb
  by_cases c : wf + pld tb wf < wt ∧ tb (wt - 1) = 46
  · rw [if_pos c]
    have := c.1
    omega
  · rw [if_neg c]
    omega
/-- the digits as s72 wants them -/
theorem hd_y {wf wt : Nat} (h : okY tb wf wt) : ∀ k, k ≤ 12 → ((Int64.ofNat (yX tb (wf + pld tb wf) (plen tb wf wt)) >>> (((4 : Int32) * Int32.ofNat k).toInt64 &&& 63)).toInt32 &&& (15 : Int32)) = Int32.ofNat (dks (ySs tb wf wt) (ynn tb wf wt) (yDd tb wf wt) k) := fun k hk => by
  obtain ⟨q1, q2, q3, q4⟩ := ySs_i h
  obtain ⟨i1, i2, i3, i4, i5, i6⟩ := yX_i (l := pld tb wf) _ h.1
  have x12 := yg_x _ h.1
  have p13 : (16 : Nat) ^ (xl tb (wf + pld tb wf) (plen tb wf wt) + 1) ≤ 4503599627370496 := (show ∀ c, c < 13 → (16 : Nat) ^ (c + 1) ≤ 4503599627370496 from by decide) _ (by omega)
  rw [nib (by omega) hk, i3 k]
  unfold dks
  rw [q1]
  by_cases c : k + pld tb wf ≤ ynn tb wf wt
  · rw [if_pos c]; rfl
  · rw [if_neg c, i4 _ (by unfold ynn at c; omega)]
theorem s71_4 {A : sm_M} {x0 wf wt : Nat} {T : Tt} (hx : fH x0) (hT : wT T) (hY : cY A 24 tb tn) (hn : tn ≤ 8192) (h1 : wf < wt) (h2 : wt ≤ tn) (hTr : cTr A x0 T) : ∀ (d j : Nat), plen tb wf wt - j = d → j ≤ plen tb wf wt → yg tb (wf + pld tb wf) j → ∀ (x9 : Int32), (x9 = 1 ∧ ¬ lsd tb (wf + pld tb wf) j ∨ x9 = 0 ∧ lsd tb (wf + pld tb wf) j) → ∀ M, SH M → cLt M (yS tb (wf + pld tb wf) (pld tb wf) j) (pld tb wf + xl tb (wf + pld tb wf) j) → Fr pAd A M → sm_w 71 (124, [some (.ref 34), some (.ref x0), none, none, some (.int (Int32.ofNat (pdb tb wf wt))), some (.int (Int32.ofNat (wt - pdb tb wf wt))), some (.int (Int32.ofNat (pld tb wf))), some (.long (Int64.ofNat (yX tb (wf + pld tb wf) j))), none, some (.int (x9)), some (.int (Int32.ofNat (wf + pld tb wf + j))), none], []) M (rI (Q71 A x0 T tb wf wt)) := by
  have hxx := fH_s hx
  have l1 := pld_b tb wf
  have l2 := pdb_b tb wf wt
  have to := pto (tb := tb) h1
  have bad : ∀ M, Fr pAd A M → ¬ okY tb wf wt → Q71 A x0 T tb wf wt 0 M := fun M f z => ⟨Or.inr ⟨rfl, fun y => z y.1⟩, f.mono fun a k y => Or.inl y⟩
  intro d
  induction d with
  | zero =>
    intro j hd hj hg x9 h9 M hS hL hA
    have ej : j = plen tb wf wt := by omega
    subst ej
    have x12 := yg_x _ hg
    have Trf : ∀ {B : sm_M}, Fr pAd A B → cTr B x0 T := fun {B} f => hTr.eq (fun a k a1 a2 => f.2.1 _ _ (by unfold pAd; omega)) fun k => f.2.2 _ _ (by unfold pAd; omega)
    refine g71_4 hS hx ?_
    rw [hL.1]
    refine ⟨fun _ => ?_, fun c => absurd ((o_le (by omega) (by omega)).mpr (by omega)) c⟩
    rw [o_eq (by omega) (by omega)]
    refine ⟨fun c => bad M hA fun z => by have := z.2; omega, fun c => ?_⟩
    have ok : okY tb wf wt := ⟨hg, by omega⟩
    obtain ⟨q1, q2, q3, q4⟩ := ySs_i ok
    have fin : ∀ (B : sm_M), Fr pAd A B → ∀ v M2, Q72 B x0 T (ySs tb wf wt) (ynn tb wf wt) (yDd tb wf wt) v M2 → (v = 0 ∨ v = 1) ∧ Q71 A x0 T tb wf wt v M2 := fun B fB v M2 k => by
      have F : Fr (fun a k => pAd a k ∨ p72 x0 a k) A M2 := (fB.mono fun a k z => Or.inl z).tr (k.2.mono fun a k z => Or.inr z)
      rcases k.1 with ⟨z1, z2, z3⟩ | ⟨z1, z2⟩
      · exact ⟨Or.inr z1, Or.inl ⟨z1, ⟨ok, z2⟩, z3⟩, F⟩
      · exact ⟨Or.inl z1, Or.inr ⟨z1, fun y => z2 y.2⟩, F⟩
    by_cases cd : pdb tb wf wt = 1
    · have eS : ySs tb wf wt = tp (yS tb (wf + pld tb wf) (pld tb wf) (plen tb wf wt)) (pld tb wf + xl tb (wf + pld tb wf) (plen tb wf wt)) 46 := if_pos cd
      have eN : ynn tb wf wt = pld tb wf + xl tb (wf + pld tb wf) (plen tb wf wt) + 1 := by unfold ynn; omega
      refine ⟨fun z => absurd z (by rw [cd]; decide), fun _ => ?_⟩
      refine (s66 (c := 46) hS (by omega) (by omega) hL).mono fun v6 M5 k5 s5 => ?_
      obtain ⟨k51, k52, f5⟩ := k5
      rw [← eS, ← eN] at k52
      rw [k52.1]
      exact (s72 s5 hx hT q3 q2 k52.2 (Trf (hA.tr f5)) (hd_y ok)).mono fun v9 M8 k8 s8 => fin M5 (hA.tr f5) v9 M8 k8
    · have cd0 : pdb tb wf wt = 0 := by omega
      have eS : ySs tb wf wt = yS tb (wf + pld tb wf) (pld tb wf) (plen tb wf wt) := if_neg cd
      have eN : ynn tb wf wt = pld tb wf + xl tb (wf + pld tb wf) (plen tb wf wt) := by unfold ynn; omega
      refine ⟨fun _ => ?_, fun z => absurd (by rw [cd0]; rfl) z⟩
      rw [← eS, ← eN] at hL
      rw [← eN]
      exact (s72 hS hx hT q3 q2 hL.2 (Trf hA) (hd_y ok)).mono fun v9 M8 k8 s8 => fin M hA v9 M8 k8
  | succ d ih =>
    intro j hd hj hg x9 h9 M hS hL hA
    have Y : cY M 24 tb tn := hY.fr hA ⟨by unfold pAd; omega, fun k => by unfold pAd; omega⟩
    have x12 := yg_x _ hg
    have u : wf + pld tb wf + j < tn := by omega
    have hc := (hY.2.2 _ u).1
    have up : okY tb wf wt → yg tb (wf + pld tb wf) (j + 1) := fun z => yg_le (plen tb wf wt - (j + 1)) (j + 1) (by rw [show j + 1 + (plen tb wf wt - (j + 1)) = plen tb wf wt from by omega]; exact z.1)
    refine g71_4 hS hx ?_
    rw [hL.1, p30_Y Y (by omega), if_pos u, P42 M hc, o_s, show (12 : Int32) + Int32.ofNat (pld tb wf) = Int32.ofNat (12 + pld tb wf) from (Int32.ofNat_add 12 _).symm, ← Int32.ofNat_sub _ _ (by omega), show pld tb wf + xl tb (wf + pld tb wf) j - pld tb wf = xl tb (wf + pld tb wf) j from by omega]
    refine ⟨fun c => absurd ((o_le (by omega) (by omega)).mp c) (by omega), fun _ => ⟨q30_Y Y (by omega), fun c => ?_, fun c => ?_⟩⟩
    · refine (s65 (lim := 12 + pld tb wf) hS (by omega) (by omega) hc hL).mono fun v14 M13 k13 s13 => ?_
      obtain ⟨k131, f13⟩ := k13
      rcases k131 with ⟨y1, y2, y3⟩ | ⟨y1, y2⟩
      · rw [y1]
        refine ⟨fun z => absurd z (by decide), fun _ => ?_⟩
        have eS : yS tb (wf + pld tb wf) (pld tb wf) (j + 1) = tp (yS tb (wf + pld tb wf) (pld tb wf) j) (pld tb wf + xl tb (wf + pld tb wf) j) (tb (wf + pld tb wf + j)) := if_pos y2.1
        have eX : yX tb (wf + pld tb wf) (j + 1) = yX tb (wf + pld tb wf) j := if_neg c
        have z := ih (j + 1) (by omega) (by omega) ⟨hg, Or.inl ⟨y2.1, by omega⟩⟩ 1 (Or.inl ⟨rfl, fun w => c (lsd_s.mp w)⟩) M13 s13 (by rw [eS, xl_y y2.1]; exact y3) (hA.tr f13)
        rw [eX] at z
        exact z
      · rw [y1]
        refine ⟨fun _ => bad M13 (hA.tr f13) fun z => ?_, fun z => absurd rfl z⟩
        rcases (up z).2 with w | w
        · exact y2 ⟨w.1, by omega⟩
        · exact c w.1
    · have cdg := Classical.not_not.mp c
      have d9 := dg_48 cdg
      have ns : ¬ sl (tb (wf + pld tb wf + j)) = true := fun z => sl_dg z cdg
      rcases h9 with ⟨y1, y2⟩ | ⟨y1, y2⟩
      · rw [y1]
        refine ⟨fun z => absurd z (by decide), fun _ => ?_⟩
        have X1 := (yX_i (tb := tb) (b0 := wf + pld tb wf) (l := pld tb wf) j hg).2.1 y2
        have eS : yS tb (wf + pld tb wf) (pld tb wf) (j + 1) = yS tb (wf + pld tb wf) (pld tb wf) j := if_neg ns
        have eX : yX tb (wf + pld tb wf) (j + 1) = yX tb (wf + pld tb wf) j + (tb (wf + pld tb wf + j) - 48) * 16 ^ xl tb (wf + pld tb wf) j := if_pos cdg
        rw [show (48 : Int32) = Int32.ofNat 48 from rfl, ← Int32.ofNat_sub _ _ (by omega), or_add X1 x12 (by omega), ← eX]
        exact ih (j + 1) (by omega) (by omega) ⟨hg, Or.inr ⟨cdg, y2⟩⟩ 0 (Or.inr ⟨rfl, lsd_s.mpr cdg⟩) M hS (by rw [eS, xl_n ns]; exact hL) hA
      · rw [y1]
        refine ⟨fun _ => ?_, fun z => absurd rfl z⟩
        refine (s65 (lim := 12 + pld tb wf) hS (by omega) (by omega) hc hL).mono fun v17 M16 k16 s16 => ?_
        obtain ⟨k161, f16⟩ := k16
        rcases k161 with ⟨w1, w2, w3⟩ | ⟨w1, w2⟩
        · exact absurd w2.1 ns
        · rw [w1]
          refine ⟨fun _ => bad M16 (hA.tr f16) fun z => ?_, fun z => absurd rfl z⟩
          rcases (up z).2 with w | w
          · exact ns w.1
          · exact w.2 y2
theorem s71 {M : sm_M} {x0 wf wt : Nat} {T : Tt} (hS : SH M) (hx : fH x0) (hT : wT T) (hY : cY M 24 tb tn) (hn : tn ≤ 8192) (h1 : wf < wt) (h2 : wt ≤ tn) (hW : cWd M wf wt) (hTr : cTr M x0 T) : sm_cI 71 [.ref 34, .ref x0] M (Q71 M x0 T tb wf wt) := by
  have hxx := fH_s hx
  have l1 := pld_b tb wf
  have u : wf < tn := by omega
  have hb := (hY.2.2 _ u).1
  have key : ∀ B, SH B → Fr pAd M B → cLt B (yS tb (wf + pld tb wf) (pld tb wf) 0) (pld tb wf) → ∀ x4 x5 : Int32, x4 = Int32.ofNat (pdb tb wf wt) → x5 = Int32.ofNat (wt - pdb tb wf wt) → sm_w 71 (124, [some (.ref 34), some (.ref x0), none, none, some (.int (x4)), some (.int (x5)), some (.int (iV B 34 4)), some (.long ((0 : Int64))), none, some (.int ((1 : Int32))), some (.int (Int32.ofNat (wf + pld tb wf))), none], []) B (rI (Q71 M x0 T tb wf wt)) := fun B sB fB hL x4 x5 e4 e5 => by
    rw [e4, e5, hL.1]
    exact s71_4 (A := M) hx hT hY hn h1 h2 hTr _ 0 rfl (Nat.zero_le _) trivial 1 (Or.inl ⟨rfl, fun z => by have := z.1; omega⟩) B sB hL fB
  refine g71_0 hS hx fun M1 s1 e1 => ?_
  have f1 : Fr pAd M M1 := by rw [e1]; exact (Fr.rf _ _).wI (Or.inl ⟨rfl, rfl⟩)
  have Y1 : cY M1 24 tb tn := hY.fr f1 ⟨by unfold pAd; omega, fun k => by unfold pAd; omega⟩
  have w1 : iV M1 34 1 = Int32.ofNat wf := by rw [e1, iV_wI, if_neg (by omega)]; exact hW.1
  have w2 : iV M1 34 2 = Int32.ofNat wt := by rw [e1, iV_wI, if_neg (by omega)]; exact hW.2
  have L1 : cLt M1 (fun _ => 0) 0 := ⟨by rw [e1, iV_wI, if_pos ⟨rfl, rfl⟩]; rfl, fun i hi => absurd hi (Nat.not_lt_zero _)⟩
  -- behind the dot ahead
  have go : ∀ s0 : Int32, (s0 = Int32.ofNat (pld tb wf)) → sm_w 71 (26, [some (.ref 34), some (.ref x0), none, none, none, none, none, none, none, none, none, none], [.int (s0)]) M1 (rI (Q71 M x0 T tb wf wt)) := fun s0 hs0 => by
    have fin3 : ∀ x4 x5 : Int32, x4 = Int32.ofNat (pdb tb wf wt) → x5 = Int32.ofNat (wt - pdb tb wf wt) → ((s0 = 0 → sm_w 71 (124, [some (.ref 34), some (.ref x0), none, none, some (.int (x4)), some (.int (x5)), some (.int (iV M1 34 4)), some (.long ((0 : Int64))), none, some (.int ((1 : Int32))), some (.int (Int32.ofNat (wf + pld tb wf))), none], []) M1 (rI (Q71 M x0 T tb wf wt))) ∧ (¬ s0 = 0 → sm_cI 66 [.ref 34, .int ((46 : Int32))] M1 (fun v3 M2 => SH M2 → sm_w 71 (124, [some (.ref 34), some (.ref x0), none, none, some (.int (x4)), some (.int (x5)), some (.int (iV M2 34 4)), some (.long ((0 : Int64))), none, some (.int ((1 : Int32))), some (.int (Int32.ofNat (wf + pld tb wf))), none], []) M2 (rI (Q71 M x0 T tb wf wt))))) := fun x4 x5 e4 e5 => by
      refine ⟨fun c => ?_, fun c => ?_⟩
      · have e0 : pld tb wf = 0 := by
          rw [hs0] at c
          exact (o_eq (m := 0) (by omega) (by omega)).mp c
        refine key M1 s1 f1 ?_ x4 x5 e4 e5
        have eS : yS tb (wf + pld tb wf) (pld tb wf) 0 = fun _ => 0 := if_neg (by omega)
        rw [eS, e0]
        exact L1
      · have e0 : pld tb wf = 1 := by
          rcases Nat.lt_or_ge 0 (pld tb wf) with z | z
          · omega
          · exact absurd (by rw [hs0, show pld tb wf = 0 from by omega]; rfl) c
        refine (s66 (c := 46) s1 (by omega) (by omega) L1).mono fun v3 M2 k2 s2 => ?_
        obtain ⟨k21, k22, f2⟩ := k2
        refine key M2 s2 (f1.tr f2) ?_ x4 x5 e4 e5
        have eS : yS tb (wf + pld tb wf) (pld tb wf) 0 = tp (fun _ => 0) 0 46 := if_pos e0
        rw [eS, e0]
        exact k22
    have at44 : sm_w 71 (44, [some (.ref 34), some (.ref x0), some (.int (s0)), none, none, none, none, none, none, none, none, none], [.int (Int32.ofNat (wf + pld tb wf))]) M1 (rI (Q71 M x0 T tb wf wt)) := by
      have at75 : ¬ (wf + pld tb wf < wt ∧ tb (wt - 1) = 46) → sm_w 71 (75, [some (.ref 34), some (.ref x0), some (.int (s0)), some (.int (Int32.ofNat (wf + pld tb wf))), none, none, none, none, none, none, none, none], []) M1 (rI (Q71 M x0 T tb wf wt)) := fun hno => by
        have e : pdb tb wf wt = 0 := by unfold pdb; rw [if_neg hno]
        refine g71_3 s1 hx ?_
        rw [w2]
        exact fin3 0 (Int32.ofNat wt) (by rw [e]; rfl) (by rw [e]; rfl)
      refine g71_2 s1 hx ?_
      rw [w2, show (1 : Int32) = Int32.ofNat 1 from rfl, ← Int32.ofNat_sub wt 1 (by omega), p30_Y Y1 (by omega), if_pos (by omega : wt - 1 < tn)]
      have hb2 := (hY.2.2 (wt - 1) (by omega)).1
      refine ⟨fun c => at75 fun z => absurd ((o_le (by omega) (by omega)).mp c) (by omega), fun c => ⟨q30_Y Y1 (by omega), fun c2 => ?_, fun c2 => at75 fun z => c2 (by rw [z.2]; rfl)⟩⟩
      have c3 : wf + pld tb wf < wt := by
        rcases Nat.lt_or_ge (wf + pld tb wf) wt with z | z
        · exact z
        · exact absurd ((o_le (by omega) (by omega)).mpr z) c
      have e : pdb tb wf wt = 1 := by
        unfold pdb
        rw [if_pos ⟨c3, (o_eq (m := 46) (by omega) (by omega)).mp c2⟩]
      exact fin3 1 (Int32.ofNat (wt - 1)) (by rw [e]; rfl) (by rw [e])
    refine g71_1 s1 hx ?_
    rw [w1]
    refine ⟨fun c => ?_, fun c => ?_⟩
    · have e0 : pld tb wf = 0 := by
        rw [hs0] at c
        exact (o_eq (m := 0) (by omega) (by omega)).mp c
      rw [e0, Nat.add_zero] at at44
      exact at44
    · have e0 : pld tb wf = 1 := by
        rcases Nat.lt_or_ge 0 (pld tb wf) with z | z
        · omega
        · exact absurd (by rw [hs0, show pld tb wf = 0 from by omega]; rfl) c
      rw [e0] at at44
      rw [o_s]
      exact at44
  rw [w1, p30_Y Y1 (by omega), if_pos u]
  refine ⟨q30_Y Y1 (by omega), fun c => go 1 ?_, fun c => go 0 ?_⟩
  · unfold pld
    rw [if_pos ((o_eq (m := 46) (by omega) (by omega)).mp c)]
    rfl
  · unfold pld
    rw [if_neg (fun z => c (by rw [z]; rfl))]
    rfl
def Q60 (A : sm_M) (x0 : Nat) (r : Nat ⊕ (Nat × Tt)) (v : Int32) (M2 : sm_M) : Prop := (match r with
  | Sum.inl e => v = 0 ∧ iV M2 34 1 = Int32.ofNat e
  | Sum.inr z => v = 1 ∧ iV M2 34 2 = Int32.ofNat z.1 ∧ cTr M2 x0 z.2) ∧ Fr (phr x0) A M2
theorem s60 {M : sm_M} {x0 wf : Nat} {T : Tt} (hS : SH M) (hx : fH x0) (hN : NM M) (hT : wT T) (hY : cY M 24 tb tn) (hn : tn ≤ 8192) (h1 : wf < we tb tn wf) (h2 : wf ≤ tn) (hW : cWd M wf (we tb tn wf)) (hTr : cTr M x0 T) : sm_cI 60 [.ref 34, .ref x0] M (Q60 M x0 (hE tb tn wf (we tb tn wf) T)) := by
  have hxx := fH_s hx
  obtain ⟨w1, w2⟩ := we_b (tb := tb) h2
  have u : wf < tn := by omega
  have hb := (hY.2.2 _ u).1
  unfold hE
  refine g60_0 hS hx ((s61 hS hN hY hn w1 w2 hW).mono fun v2 M1 k1 s1 => ?_)
  obtain ⟨k11, k12⟩ := k1
  subst k12
  rcases k11 with ⟨y1, y2⟩ | ⟨y1, y2⟩
  · rw [if_pos y2, y1]
    refine ⟨fun c => absurd c (by decide), fun _ => ?_⟩
    obtain ⟨b3, b4⟩ := nt_b (tb := tb) w2
    obtain ⟨w3, w4⟩ := we_b (tb := tb) b4
    rw [hW.2]
    refine (s29 s1 (Or.inl rfl) hY hn w2).mono fun v21 M20 k20 s20 M23 s23 e23 => ?_
    obtain ⟨k201, k202⟩ := k20
    subst k202
    rw [k201] at e23
    have f23 : Fr (phr x0) M20 M23 := by rw [e23]; exact (Fr.rf _ _).wI (Or.inl rfl)
    have p23 : iV M23 34 1 = Int32.ofNat (nt tb tn (we tb tn wf)) := by rw [e23, iV_wI, if_pos ⟨rfl, rfl⟩]
    rw [p23]
    refine (s59 s23 (hY.fr f23 ⟨by unfold phr; omega, fun k => by unfold phr; omega⟩) hn b4).mono fun v26 M25 k25 s25 M28 s28 e28 => ?_
    obtain ⟨k251, k252⟩ := k25
    subst k252
    rw [k251] at e28
    have f28 : Fr (fun a k => a = 34 ∧ (k = 1 ∨ k = 2)) M20 M28 := by rw [e28, e23]; exact ((Fr.rf _ _).wI ⟨rfl, Or.inl rfl⟩).wI ⟨rfl, Or.inr rfl⟩
    have W28 : cWd M28 (nt tb tn (we tb tn wf)) (we tb tn (nt tb tn (we tb tn wf))) := ⟨by rw [e28, iV_wI, if_neg (by omega)]; exact p23, by rw [e28, iV_wI, if_pos ⟨rfl, rfl⟩]⟩
    refine (s62 s28 hx (hY.fr f28 ⟨by omega, fun k => by omega⟩) hn w3 w4 W28 (hTr.eq (fun a k a1 a2 => f28.2.1 _ _ (by omega)) fun k => f28.2.2 _ _ (by omega))).mono fun v17 M16 k16 s16 => ?_
    obtain ⟨k161, f16⟩ := k16
    have F16 : Fr (phr x0) M20 M16 := (f28.mono (q := phr x0) fun a k z => Or.inl z.1).tr (f16.mono fun a k z => by unfold phr; omega)
    rcases k161 with ⟨z1, z2, z3⟩ | ⟨z1, z2, z3⟩
    · rw [if_pos z2]
      exact ⟨Or.inr z1, ⟨z1, by rw [f16.2.1 _ _ (by omega)]; exact W28.2, z3⟩, F16⟩
    · rw [if_neg z2]
      exact ⟨Or.inl z1, ⟨z1, by rw [f16.2.1 _ _ (by omega)]; exact W28.1⟩, F16⟩
  · rw [if_neg y2, y1, hW.1, p30_Y hY (by omega), if_pos u]
    refine ⟨fun _ => ⟨q30_Y hY (by omega), fun c => ?_, fun c => ?_⟩, fun c => absurd rfl c⟩
    · rw [if_pos ((o_eq (m := 61) (by omega) (by omega)).mp c)]
      refine (s64 s1 hx hT hY hn h1 w2 hW hTr).mono fun v6 M5 k5 s5 => ?_
      obtain ⟨k51, f5⟩ := k5
      have F5 : Fr (phr x0) M1 M5 := f5.mono fun a k z => by unfold pAd p67 at z; unfold phr; omega
      rcases k51 with ⟨z1, z2, z3⟩ | ⟨z1, z2⟩
      · rw [if_pos z2]
        exact ⟨Or.inr z1, ⟨z1, by rw [f5.2.1 _ _ (by unfold pAd p67; omega)]; exact hW.2, z3⟩, F5⟩
      · rw [if_neg z2]
        exact ⟨Or.inl z1, ⟨z1, by rw [f5.2.1 _ _ (by unfold pAd p67; omega)]; exact hW.1⟩, F5⟩
    · rw [if_neg (fun z => c (by rw [z]; rfl))]
      refine (s71 s1 hx hT hY hn h1 w2 hW hTr).mono fun v10 M9 k9 s9 => ?_
      obtain ⟨k91, f9⟩ := k9
      have F9 : Fr (phr x0) M1 M9 := f9.mono fun a k z => by unfold pAd p72 at z; unfold phr; omega
      rcases k91 with ⟨z1, z2, z3⟩ | ⟨z1, z2⟩
      · rw [if_pos z2]
        exact ⟨Or.inr z1, ⟨z1, by rw [f9.2.1 _ _ (by unfold pAd p72; omega)]; exact hW.2, z3⟩, F9⟩
      · rw [if_neg z2]
        exact ⟨Or.inl z1, ⟨z1, by rw [f9.2.1 _ _ (by unfold pAd p72; omega)]; exact hW.1⟩, F9⟩
def cRh (A : sm_M) (x0 : Nat) (r : Nat ⊕ Tt) (v : Int32) (M2 : sm_M) : Prop := (match r with
  | Sum.inl e => v = Int32.ofNat e
  | Sum.inr T => v = -1 ∧ wT T ∧ cTr M2 x0 T) ∧ Fr (phr x0) A M2
theorem s57_1 {A : sm_M} {x0 : Nat} (hx : fH x0) (hN : NM A) (hY : cY A 24 tb tn) (hn : tn ≤ 8192) : ∀ (d i st : Nat) (T : Tt), tn - i < d → i ≤ tn → st ≤ i → wT T → ∀ M, SH M → cWd M (nt tb tn i) (we tb tn (nt tb tn i)) → cTr M x0 T → Fr (phr x0) A M → sm_w 57 (20, [some (.ref 34), some (.ref x0), some (.int (Int32.ofNat st))], []) M (rI (cRh A x0 (hR tb tn d i T))) := by
  have hxx := fH_s hx
  intro d
  induction d with
  | zero =>
    intro i st T hd
    omega
  | succ d ih =>
    intro i st T hd hi hst hw M hS hW hTr hA
    obtain ⟨b1, b2⟩ := nt_b (tb := tb) hi
    obtain ⟨w1, w2⟩ := we_b (tb := tb) b2
    have Y : cY M 24 tb tn := hY.fr hA ⟨by unfold phr; omega, fun k => by unfold phr; omega⟩
    have done : tn ≤ nt tb tn i → cRh A x0 (hR tb tn (d + 1) i T) (-1) M := fun z => by
      unfold hR
      rw [if_pos z]
      exact ⟨⟨rfl, hw, hTr⟩, hA⟩
    refine g57_1 hS hx ?_
    rw [Y.2.1, hW.1, hW.2]
    refine ⟨fun c => done (by have := (o_le (by omega) (by omega)).mp c; omega), fun c1 => ⟨fun c => done ?_, fun c2 => ?_⟩⟩
    · have c3 := (o_le (by omega) (by omega)).mp c
      rcases Nat.lt_or_ge (nt tb tn i) tn with z | z
      · have := we_l (tb := tb) hi z; omega
      · exact z
    · have hlt2 : nt tb tn i < we tb tn (nt tb tn i) := by
        rcases Nat.lt_or_ge (nt tb tn i) (we tb tn (nt tb tn i)) with z | z
        · exact z
        · exact absurd ((o_le (by omega) (by omega)).mpr z) c2
      have hlt : ¬ tn ≤ nt tb tn i := by omega
      have ok := hE_ok (tb := tb) hi (by omega) hw
      refine (s60 hS hx (hN.eq fun a k z => hA.2.1 _ _ (by unfold phr; omega)) hw Y hn hlt2 b2 hW hTr).mono fun v2 M1 k1 s1 => ?_
      obtain ⟨k11, f1⟩ := k1
      have Y1 : cY M1 24 tb tn := Y.fr f1 ⟨by unfold phr; omega, fun k => by unfold phr; omega⟩
      unfold hR
      rw [if_neg hlt]
      cases e : hE tb tn (nt tb tn i) (we tb tn (nt tb tn i)) T with
      | inl p =>
        rw [e] at k11
        obtain ⟨y1, y2⟩ := k11
        rw [y1, y2]
        exact ⟨fun _ => ⟨rfl, hA.tr f1⟩, fun c => absurd rfl c⟩
      | inr z =>
        rw [e] at k11 ok
        obtain ⟨y1, y2, y3⟩ := k11
        obtain ⟨o1, o2, o3⟩ := ok
        obtain ⟨b3, b4⟩ := nt_b (tb := tb) o2
        rw [y1, y2]
        refine ⟨fun c => absurd c (by decide), fun _ => ?_⟩
        refine (s29 s1 (Or.inl rfl) Y1 hn o2).mono fun v8 M7 k7 s7 M10 s10 e10 => ?_
        obtain ⟨k71, k72⟩ := k7
        subst k72
        rw [k71] at e10
        have p10 : iV M10 34 1 = Int32.ofNat (nt tb tn z.1) := by rw [e10, iV_wI, if_pos ⟨rfl, rfl⟩]
        have f10 : Fr (phr x0) M7 M10 := by rw [e10]; exact (Fr.rf _ _).wI (Or.inl rfl)
        rw [p10, o_s]
        refine (s59 s10 (Y1.fr f10 ⟨by unfold phr; omega, fun k => by unfold phr; omega⟩) hn b4).mono fun v13 M12 k12 s12 M15 s15 e15 => ?_
        obtain ⟨k121, k122⟩ := k12
        subst k122
        rw [k121] at e15
        refine ih z.1 (st + 1) z.2 (by omega) o2 (by omega) o3 M15 s15 ⟨by rw [e15, iV_wI, if_neg (by omega)]; exact p10, by rw [e15, iV_wI, if_pos ⟨rfl, rfl⟩]⟩ (y3.eq (fun a k a1 a2 => by rw [e15, iV_wI, if_neg (by omega), e10, iV_wI, if_neg (by omega)]) fun k => by rw [e15, jV_wI, e10, jV_wI]) (by rw [e15]; exact ((hA.tr f1).tr f10).wI (Or.inl rfl))
theorem s57 {M : sm_M} {x0 : Nat} (hS : SH M) (hx : fH x0) (hN : NM M) (hY : cY M 24 tb tn) (hn : tn ≤ 8192) : sm_cI 57 [.ref 34, .ref x0] M (cRh M x0 (hRd tb tn)) := by
  have hxx := fH_s hx
  have v0 : vp_in (0 : Int32) 4201 := (o_in (n := 0) (by omega)).mpr (by omega)
  obtain ⟨b1, b2⟩ := nt_b (tb := tb) (Nat.zero_le tn)
  refine g57_0 hS hx ⟨v0, fun M22 s22 e22 => ⟨v0, fun M25 s25 e25 => ⟨v0, fun M28 s28 e28 M30 s30 e30 M32 s32 e32 M34 s34 e34 M36 s36 e36 M38 s38 e38 M4 s4 e4 M6 s6 e6 => ?_⟩⟩⟩
  rw [show (0 : Int32).toNatClampNeg = 0 from rfl] at e22 e25 e28
  have p6 : iV M6 34 2 = Int32.ofNat 0 := by rw [e6, iV_wI, if_pos ⟨rfl, rfl⟩]; rfl
  have f6 : Fr (phr x0) M M6 := by
    rw [e6, e4, e38, e36, e34, e32, e30, e28, e25, e22]
    exact ((((((((((Fr.rf _ _).wI (Or.inr (Or.inr ⟨by omega, by omega⟩))).wI (Or.inr (Or.inr ⟨by omega, by omega⟩))).wI (Or.inr (Or.inr ⟨by omega, by omega⟩))).wI (Or.inr (Or.inr ⟨by omega, by omega⟩))).wI (Or.inr (Or.inr ⟨by omega, by omega⟩))).wI (Or.inr (Or.inr ⟨by omega, by omega⟩))).wI (Or.inr (Or.inr ⟨by omega, by omega⟩))).wI (Or.inr (Or.inr ⟨by omega, by omega⟩))).wI (Or.inl rfl)).wI (Or.inl rfl)
  have Y6 : cY M6 24 tb tn := hY.fr f6 ⟨by unfold phr; omega, fun k => by unfold phr; omega⟩
  have q : ∀ a k, ¬ a = 34 → iV M6 a k = iV M38 a k := fun a k z => by rw [e6, iV_wI, if_neg (by omega), e4, iV_wI, if_neg (by omega)]
  have T6 : cTr M6 x0 T0 := by
    refine ⟨1, fun _ => 10000, fun _ => 0, fun _ => 0, ⟨⟨by omega, by omega⟩, ?_, fun y hy => ?_, fun y y1 y2 => by omega, (by show 1 ≤ 10000; omega), fun i j i1 j1 => by omega⟩, ⟨⟨?_, ?_, ?_, ?_⟩, ⟨by show 1 ≤ 1 + 14 * 0; omega, fun p q hp => absurd hp (Nat.not_lt_zero _)⟩, fun y hy => Or.inl ⟨?_, fun p hp => absurd hp (Nat.not_lt_zero _)⟩, fun p hp => absurd hp (Nat.not_lt_zero _), fun e he => absurd he (Nat.not_lt_zero _)⟩, rfl⟩
    · rw [q _ _ (by omega), e38, iV_wI, if_neg (by omega), e36, iV_wI, if_neg (by omega), e34, iV_wI, if_neg (by omega), e32, iV_wI, if_neg (by omega), e30, iV_wI, if_pos ⟨rfl, rfl⟩]; rfl
    · have ey : y = 0 := by omega
      subst ey
      show _ = if (10000 : Nat) = 0 then Int32.ofNat 0 else -1
      rw [if_neg (by omega), q _ _ (by omega), e38, iV_wI, if_neg (by omega), e36, iV_wI, if_neg (by omega), e34, iV_wI, if_neg (by omega), e32, iV_wI, if_neg (by omega), e30, iV_wI, if_neg (by omega), e28, iV_wI, if_neg (by omega), e25, iV_wI, if_neg (by omega), e22, iV_wI, if_pos ⟨rfl, rfl⟩]
    · rw [q _ _ (by omega), e38, iV_wI, if_neg (by omega), e36, iV_wI, if_neg (by omega), e34, iV_wI, if_neg (by omega), e32, iV_wI, if_pos ⟨rfl, rfl⟩]; rfl
    · rw [q _ _ (by omega), e38, iV_wI, if_neg (by omega), e36, iV_wI, if_neg (by omega), e34, iV_wI, if_pos ⟨rfl, rfl⟩]; rfl
    · rw [q _ _ (by omega), e38, iV_wI, if_neg (by omega), e36, iV_wI, if_pos ⟨rfl, rfl⟩]; rfl
    · rw [q _ _ (by omega), e38, iV_wI, if_pos ⟨rfl, rfl⟩]; rfl
    · have ey : y = 0 := by omega
      rw [ey, q _ _ (by omega), e38, iV_wI, if_neg (by omega), e36, iV_wI, if_neg (by omega), e34, iV_wI, if_neg (by omega), e32, iV_wI, if_neg (by omega), e30, iV_wI, if_neg (by omega), e28, iV_wI, if_pos ⟨rfl, rfl⟩]
  rw [p6]
  refine (s29 s6 (Or.inl rfl) Y6 hn (Nat.zero_le _)).mono fun v12 M11 k11 s11 M14 s14 e14 => ?_
  obtain ⟨k111, k112⟩ := k11
  subst k112
  rw [k111] at e14
  have p14 : iV M14 34 1 = Int32.ofNat (nt tb tn 0) := by rw [e14, iV_wI, if_pos ⟨rfl, rfl⟩]
  have f14 : Fr (phr x0) M11 M14 := by rw [e14]; exact (Fr.rf _ _).wI (Or.inl rfl)
  rw [p14]
  refine (s59 s14 (Y6.fr f14 ⟨by unfold phr; omega, fun k => by unfold phr; omega⟩) hn b2).mono fun v17 M16 k16 s16 M19 s19 e19 => ?_
  obtain ⟨k161, k162⟩ := k16
  subst k162
  rw [k161] at e19
  exact s57_1 (A := M) hx hN hY hn (tn + 1) 0 0 T0 (by omega) (Nat.zero_le _) (Nat.le_refl _) wT0 M19 s19 ⟨by rw [e19, iV_wI, if_neg (by omega)]; exact p14, by rw [e19, iV_wI, if_pos ⟨rfl, rfl⟩]⟩ (T6.eq (fun a k a1 a2 => by rw [e19, iV_wI, if_neg (by omega), e14, iV_wI, if_neg (by omega)]) fun k => by rw [e19, jV_wI, e14, jV_wI]) (by rw [e19]; exact (f6.tr f14).wI (Or.inl rfl))
def okLh (tn : Nat) (r : Nat ⊕ Tt) : Prop := match r with
  | Sum.inl e => e ≤ tn
  | Sum.inr T => wT T
theorem hR_b (tb : Nat → Nat) (tn : Nat) : ∀ (d i : Nat) (T : Tt), i ≤ tn → wT T → okLh tn (hR tb tn d i T)
  | 0, i, T, _, hw => hw
  | d + 1, i, T, hi, hw => by
    unfold hR
    by_cases c : tn ≤ nt tb tn i
    · rw [if_pos c]; exact hw
    · rw [if_neg c]
      have ok := hE_ok (tb := tb) hi (by omega) hw
      cases e : hE tb tn (nt tb tn i) (we tb tn (nt tb tn i)) T with
      | inl p => rw [e] at ok; exact ok
      | inr z => rw [e] at ok; exact hR_b tb tn d z.1 z.2 ok.2.1 ok.2.2
def p56 (x : Nat) : Nat → Nat → Prop := fun a k => a = 34 ∨ a = 35 ∨ x ≤ a ∧ a ≤ x + 8 ∨ a = 23 ∧ k = 16 ∨ a = 24 ∧ k = 1
theorem s56 {M : sm_M} {f f2 : Nat} (hS : SH M) (hN : NM M) (hf : fH f) (hf2 : fH f2) (r11 : sm_rv M 23 11 = some f) (r12 : sm_rv M 23 12 = some f2) (hY : cY M 24 tb tn) : sm_xI 56 [.ref 23] M (fun r M2 => ∃ e M1, hRd tb tn = Sum.inl e ∧ SH M1 ∧ r = M1.1 ∧ M2 = sm_new M1 50 6 ∧ iV M1 23 16 = Int32.ofNat e ∧ iV M1 24 1 = 0 ∧ Fr (p56 f2) M M1) (fun v M2 => ∃ T M1, hRd tb tn = Sum.inr T ∧ SH M2 ∧ wT T ∧ v = Int32.ofNat (T 0 0 0 + T 0 0 1) ∧ iV M2 23 16 = -1 ∧ iV M2 24 1 = 0 ∧ cTb M2 f2 T ∧ Fr (p56 f2) M M1 ∧ M2 = sm_wR (sm_wR M1 23 11 (some f2)) 23 12 (some f)) := by
  have hn : tn ≤ 8192 := hY.1
  have hxx := fH_s hf2
  refine g56_0 hS ⟨f2, r12, hf2, (s57 hS hf2 hN hY hn).mono fun v5 M4 k4 s4 M7 s7 e7 M9 s9 e9 => ?_⟩
  obtain ⟨k41, f4⟩ := k4
  have F9 : Fr (p56 f2) M M9 := by
    rw [e9, e7]
    exact ((f4.mono (q := p56 f2) fun a k z => by unfold phr at z; unfold p56; omega).wI (Or.inr (Or.inr (Or.inr (Or.inl ⟨rfl, rfl⟩))))).wI (Or.inr (Or.inr (Or.inr (Or.inr ⟨rfl, rfl⟩))))
  have h16 : iV M9 23 16 = v5 := by rw [e9, iV_wI, if_neg (by omega), e7, iV_wI, if_pos ⟨rfl, rfl⟩]
  have h24 : iV M9 24 1 = 0 := by rw [e9, iV_wI, if_pos ⟨rfl, rfl⟩]
  rw [h16]
  cases er : hRd tb tn with
  | inl e =>
    rw [er] at k41
    have eb : e ≤ tn := by
      have := hR_b tb tn (tn + 1) 0 T0 (Nat.zero_le _) wT0
      unfold hRd at er
      rw [er] at this
      exact this
    rw [k41]
    refine ⟨fun c => absurd c (o_nn (by omega)), fun _ => ⟨e, M9, rfl, s9, rfl, rfl, by rw [h16, k41], h24, F9⟩⟩
  | inr T =>
    rw [er] at k41
    obtain ⟨w1, w2, w3⟩ := k41
    rw [w1]
    refine ⟨fun _ => ⟨f, by rw [F9.1.2.2.2.2]; exact r11, hf, f2, by rw [F9.1.2.2.2.2]; exact r12, hf2, fun M17 s17 e17 M19 s19 e19 => ?_⟩, fun c => absurd (by decide) c⟩
    have i19 : ∀ a k, ¬ (a = 23 ∧ k = 16) → ¬ (a = 24 ∧ k = 1) → iV M19 a k = iV M4 a k := fun a k z1 z2 => by
      rw [e19, e17]
      show iV M9 a k = _
      rw [e9, iV_wI, if_neg z2, e7, iV_wI, if_neg z1]
    have T19 : cTb M19 f2 T := w3.Tb.eq (fun a k z1 z2 => i19 _ _ (by omega) (by omega)) fun k => by
      rw [e19, e17]
      show jV M9 _ k = _
      rw [e9, jV_wI, e7, jV_wI]
    refine ⟨f2, ?_, hf2, T, M9, rfl, s19, w2, ?_, ?_, ?_, T19, F9, by rw [e19, e17]⟩
    · rw [e19, rv_wR, if_neg (by omega), e17, rv_wR, if_pos ⟨rfl, rfl⟩]
    · obtain ⟨N, par, sg, nd, hC, hG⟩ := T19
      unfold p75_0
      rw [hG.1.1, hG.1.2.1, ← Int32.ofNat_add]
    · rw [e19, e17]
      show iV M9 23 16 = -1
      rw [h16, w1]
    · rw [e19, e17]
      exact h24
end HRQ
