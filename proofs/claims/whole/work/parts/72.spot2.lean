/-! SPOT: the kind's end; the reference's words and beginnings. -/
section SPOT2
variable {D : Nat → Nat → Nat} {o : Nat} {x w : Int32}
noncomputable def spv (D : Nat → Nat → Nat) (q w : Nat) : Int64 := if w = 0 then Int64.ofNat (bg D (lf D q) (D 10 q)) else sv D (lf D q) (D 10 q) (gb D (lf D q) w)
def okW (D : Nat → Nat → Nat) (q : Nat) (w : Int32) : Prop := ¬ w < 0 ∧ w < Int32.ofNat (wd D (lf D q) (D 10 q))
theorem s139 {M : sm_M} (hS : SH M) (hs : ¬ iV M 23 15 = 0) (hr : sm_rv M 23 13 = some o) (ho : fS o) (hw : wK D) (hl : wL D) (hK : cK M o D) (hL : cLn M o D) : sm_xJ 139 [.ref 23, .int (x), .int (w)] M (fun r M2 => ∃ M1 k, SH M1 ∧ r = M1.1 ∧ M2 = sm_new M1 k 6 ∧ Fr (pl 41) M M1 ∧ ((k = 48 ∧ ¬ (¬ x < 0 ∧ x < Int32.ofNat (D 12 7))) ∨ (k = 51 ∧ (¬ x < 0 ∧ x < Int32.ofNat (D 12 7)) ∧ ¬ okW D x.toNatClampNeg w))) (fun v M2 => (¬ x < 0 ∧ x < Int32.ofNat (D 12 7)) ∧ okW D x.toNatClampNeg w ∧ v = spv D x.toNatClampNeg w.toNatClampNeg ∧ Fr (pl 41) M M2) := by
  have hn := hw.1
  have hd : ∀ a k, o ≤ a → a ≤ o + 13 → ¬ pl 41 a k := fun a k z1 z2 => by unfold pl; unfold fS at ho; omega
  have hl2 := hl
  obtain ⟨l1, l2, l3, l4, l5, l6⟩ := hl
  refine g139_0 hS ((s135 hS hs hr ho hw hl2 hK hL).mono (fun r M2 k => ⟨M, 48, hS, k.2.1, k.2.2, Fr.rf _ _, Or.inl ⟨rfl, k.1⟩⟩) (fun M1 k s1 => ?_))
  obtain ⟨kr, kl, kf⟩ := k
  have kr0 := kr
  obtain ⟨q, hq, e⟩ := z_ps kr.1
  subst e
  have hql := (o_lt hq (by omega)).mp kr.2
  rw [o_cl hq] at kl ⊢
  obtain ⟨q1, q2⟩ := l2 q hql
  have K1 := hK.fr kf hd
  have hr1 : sm_rv M1 23 13 = some o := by rw [kf.1.2.2.2.2]; exact hr
  have p6 := P137 hw q1 q2 K1 kl
  have h7 := hw.2.2.1 (D 10 q - 1) (by omega)
  have hwl : wd D (lf D q) (D 10 q) ≤ 601 := by unfold wd; omega
  refine ⟨fun c => ⟨M1, 51, s1, rfl, rfl, kf, Or.inr ⟨rfl, kr0, fun z => z.1 c⟩⟩, fun c => ⟨o, hr1, ho, p6.2, ?_⟩⟩
  rw [p6.1]
  refine ⟨fun c2 => ⟨o, hr1, ho, ?_⟩, fun c2 => ⟨M1, 51, s1, rfl, rfl, kf, Or.inr ⟨rfl, kr0, fun z => c2 z.2⟩⟩⟩
  obtain ⟨m, hm, e⟩ := z_ps c
  subst e
  have hml := (o_lt hm (by omega)).mp c2
  refine (s140 s1 ho fL_41 hw K1 q1 q2 kl hml).mono fun v M11 k11 s11 => ?_
  obtain ⟨k1, k2⟩ := k11
  subst k2
  exact ⟨kr0, ⟨c, c2⟩, by rw [o_cl hm]; exact k1, kf⟩
theorem s139n {M : sm_M} (hS : SH M) (hs : iV M 23 15 = 0) : sm_xJ 139 [.ref 23, .int (x), .int (w)] M (fun r M2 => ((x < 0 ∧ M2 = sm_new M 48 6) ∨ (¬ x < 0 ∧ M2 = sm_new M 49 6)) ∧ r = M.1) (fun _ _ => False) := g139_0 hS ((s135n hS hs).mono (fun r M2 k => k) (fun M2 k => k.elim))
theorem s218_1 {M : sm_M} {q : Nat} (hS : SH M) (hw : wK D) (hl : wL D) (hK : mK M D) (hL : mLn M D) (hq : q < D 12 7) : ∀ (d b : Nat), D 10 q - b = d → lf D q < b → b ≤ D 10 q → sm_w 218 (11, [some (.ref 116), some (.int (Int32.ofNat q)), some (.int (Int32.ofNat (D 7 (b - 1) - D 7 (lf D q) + 1))), some (.int (Int32.ofNat b))], []) M (rI (fun v M2 => v = Int32.ofNat (wd D (lf D q) (D 10 q)) ∧ M2 = M)) := by
  have hn := hw.1
  obtain ⟨l1, l2, l3, l4, l5, l6⟩ := hl
  obtain ⟨q1, q2⟩ := l2 q hq
  obtain ⟨a1, a2, a3⟩ := hL.2.2.2.2.1 q hq
  have in1 : vp_in (Int32.ofNat q) 602 := (o_in (by omega)).mpr (by omega)
  intro d
  induction d with
  | zero =>
    intro b hd hb hbj
    have e : b = D 10 q := by omega
    subst e
    refine g218_1 hS ⟨in1, ?_⟩
    rw [o_cl (by omega), a2]
    exact ⟨fun _ => ⟨rfl, rfl⟩, fun c => absurd ((o_le (by omega) (by omega)).mpr (Nat.le_refl _)) c⟩
  | succ d ih =>
    intro b hd hb hbj
    have ih := ih (b + 1) (by omega) (by omega) (by omega)
    obtain ⟨b1, -, -⟩ := hK.2.2.1 b (by omega) (by omega)
    have hst := (hw.2.2.2.1 b (by omega) (by omega)).2.2.2.2.1
    have hk := hw.2.2.1 b (by omega)
    have hmo := D7_mono hw (b - 1 - lf D q) (lf D q) (by omega)
    rw [show lf D q + (b - 1 - lf D q) = b - 1 from by omega] at hmo
    rw [show b + 1 - 1 = b from rfl] at ih
    refine g218_1 hS ⟨in1, ?_⟩
    rw [o_cl (n := q) (by omega), a2, o_cl (by omega), b1, o_eq0 (by omega), o_s b, o_s]
    refine ⟨fun c => absurd ((o_le (by omega) (by omega)).mp c) (by omega), fun _ => ⟨(o_in (by omega)).mpr (by omega), fun c => ?_, fun c => ?_⟩⟩
    · rw [if_pos c] at hst
      rw [show D 7 b - D 7 (lf D q) + 1 = D 7 (b - 1) - D 7 (lf D q) + 1 + 1 from by omega] at ih
      exact ih
    · rw [if_neg c] at hst
      rw [show D 7 b - D 7 (lf D q) + 1 = D 7 (b - 1) - D 7 (lf D q) + 1 from by omega] at ih
      rw [show Int32.ofNat (D 7 (b - 1) - D 7 (lf D q) + 1) + 0 = Int32.ofNat (D 7 (b - 1) - D 7 (lf D q) + 1) from Int32.add_zero _]
      exact ih
theorem s218 {M : sm_M} {q : Nat} (hS : SH M) (hw : wK D) (hl : wL D) (hK : mK M D) (hL : mLn M D) (hq : q < D 12 7) : sm_cI 218 [.ref 116, .int (Int32.ofNat q)] M (fun v M2 => v = Int32.ofNat (wd D (lf D q) (D 10 q)) ∧ M2 = M) := by
  have hn := hw.1
  have hq7 := hl.1
  obtain ⟨q1, q2⟩ := hl.2.1 q hq
  refine g218_0 hS ⟨(o_in (by omega)).mpr (by omega), ?_⟩
  rw [o_cl (by omega), (hL.2.2.2.2.1 q hq).1, o_s]
  have h := s218_1 hS hw hl hK hL hq _ (lf D q + 1) rfl (by omega) (by omega)
  rw [show lf D q + 1 - 1 = lf D q from rfl, Nat.sub_self] at h
  exact h
theorem mLine_fr {M M2 : sm_M} {i j : Nat} {p : Nat → Nat → Prop} (h : mLine M D i j) (f : Fr p M M2) (hp : ∀ k, 78 ≤ k → k ≤ 85 → ¬ p 116 k) : mLine M2 D i j := by
  obtain ⟨h1, h2, h3, h4, h5, h6, h7⟩ := h
  exact ⟨by rw [f.2.2 _ _ (hp 78 (by omega) (by omega))]; exact h1, by rw [f.2.2 _ _ (hp 80 (by omega) (by omega))]; exact h2, by rw [f.2.2 _ _ (hp 81 (by omega) (by omega))]; exact h3, by rw [f.2.2 _ _ (hp 79 (by omega) (by omega))]; exact h4, by rw [f.2.1 _ _ (hp 85 (by omega) (by omega))]; exact h5, by rw [f.2.1 _ _ (hp 83 (by omega) (by omega))]; exact h6, by rw [f.2.1 _ _ (hp 84 (by omega) (by omega))]; exact h7⟩
/-- the loop of begins is done: b is the glue -/
theorem s217_e {M : sm_M} {q m : Nat} (hS : SH M) (hw : wK D) (hl : wL D) (hK : mK M D) (hL : mLn M D) (hq : q < D 12 7) (hln : mLine M D (lf D q) (D 10 q)) (hm : m < wd D (lf D q) (D 10 q)) {K : Int64 → sm_M → Prop} (hk : K (spv D q m) M) : sm_w 217 (89, [some (.ref 116), some (.int (Int32.ofNat q)), some (.int (Int32.ofNat m)), some (.long (Int64.ofNat (bg D (lf D q) (D 10 q)))), none, some (.long (Int64.ofNat (eL D (lf D q)) - Int64.ofNat (eN D (lf D q) (D 10 q)))), none, some (.int (Int32.ofNat (gb D (lf D q) m))), some (.int (Int32.ofNat m)), none, none], []) M (rJ K) := by
  have hn := hw.1
  have hq7 := hl.1
  obtain ⟨q1, q2⟩ := hl.2.1 q hq
  obtain ⟨g1, g2, g3, g4, g5⟩ := gb_s hw q1 q2 hm
  have hb := lb hw q1 q2
  have h7 := hw.2.2.1 (D 10 q - 1) (by omega)
  have hml : m ≤ 600 := by unfold wd at hm; omega
  obtain ⟨v78, v80, v81, v79, v85, v83, v84⟩ := hln
  obtain ⟨a1, a2, a3⟩ := hL.2.2.2.2.1 q hq
  have mo := hw.2.1 (lf D q) (gb D (lf D q) m) g1 (by omega)
  have mb := hw.2.2.1 (gb D (lf D q) m) (by omega)
  have hal := hw.2.2.2.2.2
  have hkn := (hw.2.2.2.1 (D 10 q) (by omega) q2).1
  have hk3 := hw.2.2.1 (D 10 q) q2
  obtain ⟨p1, p2, p3, p4⟩ := hK.2.1 (gb D (lf D q) m) (by omega)
  obtain ⟨r1, r2, r3, r4⟩ := hK.2.1 (lf D q) (by omega)
  obtain ⟨t1, -, -⟩ := hK.2.2.1 (D 10 q) (by omega) q2
  have inq : vp_in (Int32.ofNat q) 602 := (o_in (by omega)).mpr (by omega)
  have inb : vp_in (Int32.ofNat (gb D (lf D q) m)) 602 := (o_in (by omega)).mpr (by omega)
  have ini : vp_in (Int32.ofNat (lf D q)) 602 := (o_in (by omega)).mpr (by omega)
  have inj : vp_in (Int32.ofNat (D 10 q)) 602 := (o_in (by omega)).mpr (by omega)
  refine g217_1 hS ⟨fun _ => ⟨fun c => ?_, fun c => ?_⟩, fun c => absurd (Int32.le_refl _) c⟩
  · have c := (o_eq0 (by omega)).mp c
    unfold spv at hk
    rw [if_pos c] at hk
    exact hk
  have c : ¬ m = 0 := mt (o_eq0 (by omega)).mpr c
  unfold spv at hk
  rw [if_neg c] at hk
  rw [o_cl (n := q) (by omega), a1, a2, o_cl (n := gb D (lf D q) m) (by omega), o_cl (n := lf D q) (by omega), o_cl (n := D 10 q) (by omega), p1, p2, p3, r1, r2, r3, t1, v80, hK.2.2.2.2.2, o_eq0 (by omega)]
  have eb : Int64.ofNat (bg D (lf D q) (D 10 q)) + (((Int64.ofNat (D 2 (gb D (lf D q) m)) - Int64.ofNat (D 2 (lf D q))) + Int64.ofNat (D 3 (gb D (lf D q) m))) - Int64.ofNat (D 3 (lf D q))) = Int64.ofNat (bg D (lf D q) (D 10 q) + ((D 2 (gb D (lf D q) m) - D 2 (lf D q)) + (D 3 (gb D (lf D q) m) - D 3 (lf D q)))) := by
    rw [j_sub mo.1, j_add, j_sub (by omega), j_add]
    congr 1
    omega
  rw [eb]
  generalize hB : bg D (lf D q) (D 10 q) + ((D 2 (gb D (lf D q) m) - D 2 (lf D q)) + (D 3 (gb D (lf D q) m) - D 3 (lf D q))) = B at *
  unfold sv at hk
  rw [hB] at hk
  have er : (Int64.ofNat (eL D (lf D q)) - Int64.ofNat (eN D (lf D q) (D 10 q))).toInt = (eL D (lf D q) : Int) - eN D (lf D q) (D 10 q) := by
    rw [y_sub, j_ti (by omega), j_ti (by omega)]
    · rw [j_ti (by omega), j_ti (by omega)]; omega
    · rw [j_ti (by omega), j_ti (by omega)]; omega
  have z0 : (0 : Int64).toInt = 0 := rfl
  have last : ∀ y : Int64, (eN D (lf D q) (D 10 q) ≤ eL D (lf D q) → K y M) → (¬ eN D (lf D q) (D 10 q) ≤ eL D (lf D q) → y = Int64.ofNat B ∧ D 12 4 = 0) → sm_w 217 (239, [some (.ref 116), some (.int (Int32.ofNat q)), none, some (.long (y)), none, some (.long (Int64.ofNat (eL D (lf D q)) - Int64.ofNat (eN D (lf D q) (D 10 q)))), none, some (.int (Int32.ofNat (gb D (lf D q) m))), none, none, none], []) M (rJ K) := fun y h1 h2 => by
    refine g217_2 hS ⟨fun cc => h1 ?_, fun cc => ?_⟩
    · rw [y_le, er, z0] at cc; omega
    · have cn : ¬ eN D (lf D q) (D 10 q) ≤ eL D (lf D q) := by rw [y_le, er, z0] at cc; omega
      obtain ⟨hy, h0⟩ := h2 cn
      rw [if_pos h0, if_neg cn] at hk
      rw [o_cl (n := q) (by omega), a1, o_cl (n := gb D (lf D q) m) (by omega), o_cl (n := lf D q) (by omega), p4, r4, j_sub mo.2.2.2, v81, hy]
      refine ⟨inb, inq, ini, fun cx => ⟨?_, ?_⟩, fun cx => ?_⟩
      · have hnx := v85.mp cx
        have hz : ¬ eZ D (lf D q) (D 10 q) < eN D (lf D q) (D 10 q) - eL D (lf D q) := fun w => hnx ⟨by omega, w⟩
        rw [show (0 : Int64) = Int64.ofNat 0 from rfl, j_eq (by omega) (by omega)]; omega
      · have hnx := v85.mp cx
        have hz : ¬ eZ D (lf D q) (D 10 q) < eN D (lf D q) (D 10 q) - eL D (lf D q) := fun w => hnx ⟨by omega, w⟩
        rw [if_neg hz] at hk
        have en : -(Int64.ofNat (eL D (lf D q)) - Int64.ofNat (eN D (lf D q) (D 10 q))) = Int64.ofNat (eN D (lf D q) (D 10 q) - eL D (lf D q)) := by
          rw [y_eq, Int64.toInt_neg, er, j_ti (by omega), y_bm (by omega) (by omega)]; omega
        rw [en, j_mul, j_div (prod_b (by omega) (by omega) (c := 1)).1 (by omega)]
        exact hk
      · have hx : eX D (lf D q) (D 10 q) := Classical.not_not.mp (fun w => cx (v85.mpr w))
        rw [if_pos hx.2] at hk
        exact hk
  refine ⟨inb, inq, ini, inb, inq, ini, fun h0 => ⟨fun cr => ?_, fun cr => ⟨fun cA => ?_, fun cA => ⟨inq, inj, fun ce => ?_, fun ce => ⟨inb, inq, ini, ?_, ?_⟩⟩⟩⟩, fun h0 => ?_⟩
  · refine last _ (fun hle => ?_) (fun _ => ⟨rfl, h0⟩)
    rw [if_pos h0, if_pos hle] at hk
    have hge : eL D (lf D q) ≤ eN D (lf D q) (D 10 q) := by rw [y_le, er, z0] at cr; omega
    rw [show eL D (lf D q) - eN D (lf D q) (D 10 q) = 0 from by omega, Nat.zero_mul, Nat.zero_div, show Int64.ofNat B + Int64.ofNat 0 = Int64.ofNat B from j_add B 0] at hk
    split at hk
    · exact hk
    · split at hk <;> exact hk
  · refine last _ (fun hle => ?_) (fun _ => ⟨rfl, h0⟩)
    rw [if_pos h0, if_pos hle] at hk
    have hA0 : eA D (lf D q) (D 10 q) = 0 := by
      rw [show (0 : Int64) = Int64.ofNat 0 from rfl, j_le (by omega) (by omega)] at cA; omega
    rw [if_pos hA0] at hk
    split at hk <;> exact hk
  · refine last _ (fun hle => ?_) (fun _ => ⟨rfl, h0⟩)
    rw [if_pos h0, if_pos hle] at hk
    have he : D 10 q = D 12 0 := hkn.mp ((o_eq (m := 3) (by omega) (by omega)).mp ce)
    rw [if_pos he] at hk
    exact hk
  · rw [show (0 : Int64) = Int64.ofNat 0 from rfl, j_le (by omega) (by omega)] at cA
    rw [show (0 : Int64) = Int64.ofNat 0 from rfl, j_eq (by omega) (by omega)]; omega
  · have hlt : eN D (lf D q) (D 10 q) ≤ eL D (lf D q) := by rw [y_le, er, z0] at cr; omega
    refine last _ (fun hle => ?_) (fun w => absurd hlt w)
    rw [if_pos h0, if_pos hle] at hk
    have he : ¬ D 10 q = D 12 0 := fun w => ce ((o_eq (m := 3) (by omega) (by omega)).mpr (hkn.mpr w))
    have hA0 : ¬ eA D (lf D q) (D 10 q) = 0 := by
      rw [show (0 : Int64) = Int64.ofNat 0 from rfl, j_le (by omega) (by omega)] at cA; omega
    rw [if_neg he, if_neg hA0] at hk
    rw [j_sub hlt, j_sub mo.2.2.1, j_mul, j_div (prod_b (by omega) (by omega) (c := 1)).1 (by omega)]
    exact hk
  · rw [if_neg h0] at hk
    exact hk
end SPOT2
