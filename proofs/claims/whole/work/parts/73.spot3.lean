/-! LINE AND SPOT: the reference. -/
section SPOT3
variable {D : Nat → Nat → Nat} {x w : Int32}
theorem s217_1 {M : sm_M} {q m : Nat} (hS : SH M) (hw : wK D) (hl : wL D) (hK : mK M D) (hL : mLn M D) (hq : q < D 12 7) (hln : mLine M D (lf D q) (D 10 q)) (hm : m < wd D (lf D q) (D 10 q)) {K : Int64 → sm_M → Prop} (hk : K (spv D q m) M) : ∀ (d b : Nat), gb D (lf D q) m - b = d → lf D q ≤ b → b ≤ gb D (lf D q) m → sm_w 217 (89, [some (.ref 116), some (.int (Int32.ofNat q)), some (.int (Int32.ofNat m)), some (.long (Int64.ofNat (bg D (lf D q) (D 10 q)))), none, some (.long (Int64.ofNat (eL D (lf D q)) - Int64.ofNat (eN D (lf D q) (D 10 q)))), none, some (.int (Int32.ofNat b)), some (.int (Int32.ofNat (D 7 b - D 7 (lf D q)))), none, none], []) M (rJ K) := by
  have hn := hw.1
  have hq7 := hl.1
  obtain ⟨q1, q2⟩ := hl.2.1 q hq
  obtain ⟨g1, g2, g3, g4, g5⟩ := gb_s hw q1 q2 hm
  have h7 := hw.2.2.1 (D 10 q - 1) (by omega)
  have hml : m ≤ 600 := by unfold wd at hm; omega
  intro d
  induction d with
  | zero =>
    intro b hd hb hbg
    have e : b = gb D (lf D q) m := by omega
    subst e
    rw [g3, show D 7 (lf D q) + m - D 7 (lf D q) = m from by omega]
    exact s217_e hS hw hl hK hL hq hln hm hk
  | succ d ih =>
    intro b hd hb hbg
    have ih := ih (b + 1) (by omega) (by omega) (by omega)
    have hlt := g4 b hb (by omega)
    have hmo := D7_mono hw (b - lf D q) (lf D q) (by omega)
    rw [show lf D q + (b - lf D q) = b from by omega] at hmo
    have hst := (hw.2.2.2.1 (b + 1) (by omega) (by omega)).2.2.2.2.1
    rw [show b + 1 - 1 = b from rfl] at hst
    obtain ⟨t1, -, -⟩ := hK.2.2.1 (b + 1) (by omega) (by omega)
    have hk3 := hw.2.2.1 (b + 1) (by omega)
    refine g217_1 hS ⟨fun c => absurd ((o_le (by omega) (by omega)).mp c) (by omega), fun _ => ?_⟩
    rw [o_s b, o_cl (by omega), t1, o_eq0 (by omega), o_s]
    refine ⟨(o_in (by omega)).mpr (by omega), fun c => ?_, fun c => ?_⟩
    · rw [if_pos c] at hst
      rw [show D 7 (b + 1) - D 7 (lf D q) = D 7 b - D 7 (lf D q) + 1 from by omega] at ih
      exact ih
    · rw [if_neg c] at hst
      rw [show D 7 (b + 1) - D 7 (lf D q) = D 7 b - D 7 (lf D q) from by omega] at ih
      rw [show Int32.ofNat (D 7 b - D 7 (lf D q)) + 0 = Int32.ofNat (D 7 b - D 7 (lf D q)) from Int32.add_zero _]
      exact ih
theorem s217 {M : sm_M} {q m : Nat} (hS : SH M) (hw : wK D) (hl : wL D) (hK : mK M D) (hL : mLn M D) (hq : q < D 12 7) (hm : m < wd D (lf D q) (D 10 q)) : sm_cJ 217 [.ref 116, .int (Int32.ofNat q), .int (Int32.ofNat m)] M (fun v M2 => v = spv D q m ∧ Fr pm7 M M2) := by
  have hn := hw.1
  have hq7 := hl.1
  obtain ⟨q1, q2⟩ := hl.2.1 q hq
  have hb := lb hw q1 q2
  have hal := hw.2.2.2.2.2
  obtain ⟨a1, a2, a3⟩ := hL.2.2.2.2.1 q hq
  have inq : vp_in (Int32.ofNat q) 602 := (o_in (by omega)).mpr (by omega)
  refine g217_0 hS ⟨inq, inq, ?_⟩
  rw [o_cl (by omega), a1, a2]
  refine (s207 hS hw hK q1 q2).mono fun M3 k3 s3 => ?_
  obtain ⟨kl, kf⟩ := k3
  have hp7 : (∀ k, 60 ≤ k → k ≤ 63 → ¬ pm7 116 k) ∧ ∀ a k, 150 ≤ a → a ≤ 156 → ¬ pm7 a k := ⟨fun k z1 z2 => by unfold pm7; omega, fun a k z1 z2 => by unfold pm7; omega⟩
  have hp8 : (∀ k, 64 ≤ k → k ≤ 67 → ¬ pm7 116 k) ∧ (∀ k, ¬ pm7 149 k) ∧ ∀ a k, 161 ≤ a → a ≤ 163 → ¬ pm7 a k := ⟨fun k z1 z2 => by unfold pm7; omega, fun k => by unfold pm7; omega, fun a k z1 z2 => by unfold pm7; omega⟩
  have K3 := hK.fr kf hp7
  have L3 := hL.fr kf hp8
  have lf0 : q = 0 ↔ lf D q = 0 := by
    constructor
    · intro h; unfold lf; rw [if_pos h]
    · intro h
      rcases Nat.eq_zero_or_pos q with z | z
      · exact z
      · have h1 := (hl.2.1 (q - 1) (by omega)).1
        unfold lf at h
        rw [if_neg (by omega)] at h
        omega
  -- from the beginning on
  have go : ∀ y : Int64, y = Int64.ofNat (bg D (lf D q) (D 10 q)) → vp_in (Int32.ofNat q) 602 ∧ sm_w 217 (89, [some (.ref 116), some (.int (Int32.ofNat q)), some (.int (Int32.ofNat m)), some (.long (y)), none, some (.long (Int64.ofNat (eL D (lf D q)) - Int64.ofNat (eN D (lf D q) (D 10 q)))), none, some (.int (Int32.ofNat (lf D q))), some (.int ((0 : Int32))), none, none], []) M3 (rJ (fun v M2 => v = spv D q m ∧ Fr pm7 M M2)) := fun y hy => by
    have h := s217_1 (K := fun v M2 => v = spv D q m ∧ Fr pm7 M M2) s3 hw hl K3 L3 hq kl hm ⟨rfl, kf⟩ _ (lf D q) rfl (Nat.le_refl _) (gb_s hw q1 q2 hm).1
    rw [Nat.sub_self] at h
    rw [hy]
    exact ⟨inq, h⟩
  have er : (Int64.ofNat (eL D (lf D q)) - Int64.ofNat (eN D (lf D q) (D 10 q))).toInt = (eL D (lf D q) : Int) - eN D (lf D q) (D 10 q) := by
    rw [y_sub, j_ti (by omega), j_ti (by omega)]
    · rw [j_ti (by omega), j_ti (by omega)]; omega
    · rw [j_ti (by omega), j_ti (by omega)]; omega
  have kr : (Int64.ofNat (eL D (lf D q)) - Int64.ofNat (eN D (lf D q) (D 10 q)) ≤ (0 : Int64)) ↔ eL D (lf D q) ≤ eN D (lf D q) (D 10 q) := by
    rw [y_le, er, show (0 : Int64).toInt = 0 from rfl]; omega
  rw [kl.2.2.2.1, kl.1, K3.2.2.2.2.1, K3.2.2.2.2.2, (L3.2.2.2.2.1 q hq).1, o_eq0 (by omega), show (1 : Int32) = Int32.ofNat 1 from rfl, show (2 : Int32) = Int32.ofNat 2 from rfl, o_le (by omega) (by omega), o_eq (by omega) (by omega), kr, lf0, j_i64 (by omega)]
  refine ⟨fun c0 => ⟨fun c1 => go _ ?_, fun c1 => ⟨fun c2 => go _ ?_, fun c2 => ⟨fun c3 => go _ ?_, fun c3 => go _ ?_⟩⟩⟩, fun c0 => ⟨fun c1 => go _ ?_, fun c1 => ⟨fun c2 => go _ ?_, fun c2 => ⟨fun c3 => go _ ?_, fun c3 => go _ ?_⟩⟩⟩⟩
  · unfold bg; rw [if_pos c0, if_neg (by omega), if_neg (by omega)]; rfl
  · unfold bg
    rw [if_pos c0, show eL D (lf D q) - eN D (lf D q) (D 10 q) = 0 from by omega]
    split
    · rfl
    · split <;> rfl
  · unfold bg; rw [if_pos c0, if_pos c3, j_sub (by omega), j_add]
  · unfold bg; rw [if_pos c0, if_neg c3, if_pos (by omega), j_sub (by omega), show (2 : Int64) = Int64.ofNat 2 from rfl, j_div (by omega) (by omega), j_add]
  · unfold bg; rw [if_neg c0, if_neg (by omega), if_neg (by omega)]; rfl
  · unfold bg
    rw [if_neg c0, show eL D (lf D q) - eN D (lf D q) (D 10 q) = 0 from by omega]
    split
    · rfl
    · split <;> rfl
  · unfold bg; rw [if_neg c0, if_pos c3, j_sub (by omega), show (0 : Int64) = Int64.ofNat 0 from rfl, j_add]
  · unfold bg; rw [if_neg c0, if_neg c3, if_pos (by omega), j_sub (by omega), show (2 : Int64) = Int64.ofNat 2 from rfl, j_div (by omega) (by omega), show (0 : Int64) = Int64.ofNat 0 from rfl, j_add]
theorem s219n {M : sm_M} (hS : SH M) (hs : iV M 116 59 = 0) : sm_cJ 219 [.ref 116, .int (x), .int (w)] M (fun _ M2 => ((x < 0 ∧ iV M2 116 0 = 1) ∨ (¬ x < 0 ∧ iV M2 116 0 = 2)) ∧ Fr pm8 M M2) := by
  refine g219_0 hS ⟨fun c => ⟨fun _ M4 s4 e4 => ⟨Or.inr ⟨Int32.not_lt.mpr c, by rw [e4, iV_wI, if_pos ⟨rfl, rfl⟩]⟩, by rw [e4]; exact (Fr.rf _ _).wI ⟨rfl, Or.inl rfl⟩⟩, fun c2 => absurd hs c2⟩, fun c M27 s27 e27 => ⟨Or.inl ⟨Int32.not_le.mp c, by rw [e27, iV_wI, if_pos ⟨rfl, rfl⟩]⟩, by rw [e27]; exact (Fr.rf _ _).wI ⟨rfl, Or.inl rfl⟩⟩⟩
theorem s219 {M : sm_M} (hS : SH M) (hs : ¬ iV M 116 59 = 0) (hw : wK D) (hl : wL D) (hK : mK M D) (hL : mLn M D) : sm_cJ 219 [.ref 116, .int (x), .int (w)] M (fun v M2 => ((¬ (¬ x < 0 ∧ x < Int32.ofNat (D 12 7)) ∧ iV M2 116 0 = 1) ∨ ((¬ x < 0 ∧ x < Int32.ofNat (D 12 7)) ∧ ¬ okW D x.toNatClampNeg w ∧ iV M2 116 0 = 3) ∨ ((¬ x < 0 ∧ x < Int32.ofNat (D 12 7)) ∧ okW D x.toNatClampNeg w ∧ iV M2 116 0 = 0 ∧ v = spv D x.toNatClampNeg w.toNatClampNeg)) ∧ Fr pm8 M M2) := by
  have hn := hw.1
  have hq7 := hl.1
  have set0 : ∀ (c : Int32) (M4 : sm_M), M4 = sm_wI M 116 0 c → iV M4 116 0 = c ∧ Fr pm8 M M4 := fun c M4 e4 => ⟨by rw [e4, iV_wI, if_pos ⟨rfl, rfl⟩], by rw [e4]; exact (Fr.rf _ _).wI ⟨rfl, Or.inl rfl⟩⟩
  refine g219_0 hS ?_
  rw [hL.2.2.1]
  refine ⟨fun c => ⟨fun c2 => absurd c2 hs, fun _ => ⟨fun c3 => ?_, fun c3 M22 s22 e22 => ⟨Or.inl ⟨fun z => c3 z.2, (set0 1 M22 e22).1⟩, (set0 1 M22 e22).2⟩⟩⟩, fun c M27 s27 e27 => ⟨Or.inl ⟨fun z => c (Int32.not_lt.mp z.1), (set0 1 M27 e27).1⟩, (set0 1 M27 e27).2⟩⟩
  have c0 := Int32.not_lt.mpr c
  have all : ¬ x < 0 ∧ x < Int32.ofNat (D 12 7) := ⟨c0, c3⟩
  obtain ⟨q, hq, e⟩ := z_ps c0
  subst e
  have hql := (o_lt hq (by omega)).mp c3
  obtain ⟨q1, q2⟩ := hl.2.1 q hql
  have h7 := hw.2.2.1 (D 10 q - 1) (by omega)
  have hwl : wd D (lf D q) (D 10 q) ≤ 601 ∧ 1 ≤ wd D (lf D q) (D 10 q) := by unfold wd; omega
  rw [o_cl hq]
  refine (s218 hS hw hl hK hL hql).mono fun v6 M6 k6 s6 => ?_
  obtain ⟨k61, k62⟩ := k6
  subst k62
  rw [k61, show (0 : Int64) = (0 : Int32).toInt64 from rfl, p166_i, o_lt1 (by omega) (by omega)]
  refine ⟨fun c4 M12 s12 e12 => ⟨Or.inr (Or.inl ⟨all, c4, (set0 3 M12 e12).1⟩), (set0 3 M12 e12).2⟩, fun c4 M14 s14 e14 => ?_⟩
  have c4 := Classical.not_not.mp c4
  obtain ⟨m, hm, e⟩ := z_ps c4.1
  subst e
  have hml := (o_lt hm (by omega)).mp c4.2
  have K14 : mK M14 D := by rw [e14]; exact hK.wI (by omega)
  have L14 : mLn M14 D := by rw [e14]; exact hL.wI (by omega)
  refine (s217 s14 hw hl K14 L14 hql hml).mono fun v M16 k16 s16 => ?_
  refine ⟨Or.inr (Or.inr ⟨all, c4, ?_, by rw [o_cl hm]; exact k16.1⟩), (set0 0 M14 e14).2.tr (k16.2.mono fun a k z => by unfold pm7 at z; unfold pm8; omega)⟩
  rw [k16.2.2.1 116 0 (by unfold pm7; omega)]
  exact (set0 0 M14 e14).1
theorem s216n {M : sm_M} {y : Int32} (hS : SH M) (hs : iV M 116 59 = 0) : sm_cJ 216 [.ref 116, .int (x), .int (y)] M (fun _ M2 => ((¬ ((¬ y < 0 ∧ y ≤ 7) ∧ ¬ x < 0) ∧ iV M2 116 0 = 1) ∨ (((¬ y < 0 ∧ y ≤ 7) ∧ ¬ x < 0) ∧ iV M2 116 0 = 2)) ∧ Fr pm8 M M2) := by
  have set0 : ∀ (c : Int32) (M4 : sm_M), M4 = sm_wI M 116 0 c → iV M4 116 0 = c ∧ Fr pm8 M M4 := fun c M4 e4 => ⟨by rw [e4, iV_wI, if_pos ⟨rfl, rfl⟩], by rw [e4]; exact (Fr.rf _ _).wI ⟨rfl, Or.inl rfl⟩⟩
  refine g216_0 hS ?_
  rw [show (0 : Int64) = (0 : Int32).toInt64 from rfl, show (7 : Int64) = (7 : Int32).toInt64 from rfl, p166_i]
  exact ⟨fun c M4 s4 e4 => ⟨Or.inl ⟨fun z => c z.1, (set0 1 M4 e4).1⟩, (set0 1 M4 e4).2⟩, fun c => ⟨fun c2 => ⟨fun _ M9 s9 e9 => ⟨Or.inr ⟨⟨Classical.not_not.mp c, Int32.not_lt.mpr c2⟩, (set0 2 M9 e9).1⟩, (set0 2 M9 e9).2⟩, fun c3 => absurd hs c3⟩, fun c2 M35 s35 e35 => ⟨Or.inl ⟨fun z => c2 (Int32.not_lt.mp z.2), (set0 1 M35 e35).1⟩, (set0 1 M35 e35).2⟩⟩⟩
theorem s216 {M : sm_M} {y : Int32} (hS : SH M) (hs : ¬ iV M 116 59 = 0) (hw : wK D) (hl : wL D) (hK : mK M D) (hL : mLn M D) : sm_cJ 216 [.ref 116, .int (x), .int (y)] M (fun v M2 => ((¬ ((¬ y < 0 ∧ y ≤ 7) ∧ (¬ x < 0 ∧ x < Int32.ofNat (D 12 7))) ∧ iV M2 116 0 = 1) ∨ (((¬ y < 0 ∧ y ≤ 7) ∧ (¬ x < 0 ∧ x < Int32.ofNat (D 12 7))) ∧ iV M2 116 0 = 0 ∧ v = lv D x.toNatClampNeg y)) ∧ Fr pm8 M M2) := by
  have hn := hw.1
  have hq7 := hl.1
  have set0 : ∀ (c : Int32) (M4 : sm_M), M4 = sm_wI M 116 0 c → iV M4 116 0 = c ∧ Fr pm8 M M4 := fun c M4 e4 => ⟨by rw [e4, iV_wI, if_pos ⟨rfl, rfl⟩], by rw [e4]; exact (Fr.rf _ _).wI ⟨rfl, Or.inl rfl⟩⟩
  refine g216_0 hS ?_
  rw [show (0 : Int64) = (0 : Int32).toInt64 from rfl, show (7 : Int64) = (7 : Int32).toInt64 from rfl, p166_i, hL.2.2.1]
  refine ⟨fun c M4 s4 e4 => ⟨Or.inl ⟨fun z => c z.1, (set0 1 M4 e4).1⟩, (set0 1 M4 e4).2⟩, fun c => ⟨fun c2 => ⟨fun c3 => absurd c3 hs, fun _ => ⟨fun c4 M11 s11 e11 => ?_, fun c4 M30 s30 e30 => ⟨Or.inl ⟨fun z => c4 z.2.2, (set0 1 M30 e30).1⟩, (set0 1 M30 e30).2⟩⟩⟩, fun c2 M35 s35 e35 => ⟨Or.inl ⟨fun z => c2 (Int32.not_lt.mp z.2.1), (set0 1 M35 e35).1⟩, (set0 1 M35 e35).2⟩⟩⟩
  have c := Classical.not_not.mp c
  have c0 := Int32.not_lt.mpr c2
  have all : (¬ y < 0 ∧ y ≤ 7) ∧ (¬ x < 0 ∧ x < Int32.ofNat (D 12 7)) := ⟨c, c0, c4⟩
  obtain ⟨z11, f11⟩ := set0 0 M11 e11
  have K11 : mK M11 D := by rw [e11]; exact hK.wI (by omega)
  have L11 : mLn M11 D := by rw [e11]; exact hL.wI (by omega)
  obtain ⟨q, hq, e⟩ := z_ps c0
  subst e
  have hql := (o_lt hq (by omega)).mp c4
  obtain ⟨q1, q2⟩ := hl.2.1 q hql
  have hb := lb hw q1 q2
  have hB := eB_le D (lf D q) (D 10 q)
  have h7 := hw.2.2.1 (D 10 q - 1) (by omega)
  have hwl : wd D (lf D q) (D 10 q) ≤ 601 ∧ 1 ≤ wd D (lf D q) (D 10 q) := by unfold wd; omega
  have inq : vp_in (Int32.ofNat q) 602 := (o_in hq).mpr (by omega)
  obtain ⟨a1, a2, a3⟩ := L11.2.2.2.2.1 q hql
  have fin7 : ∀ M2, Fr pm7 M11 M2 → iV M2 116 0 = 0 ∧ Fr pm8 M M2 := fun M2 f => ⟨by rw [f.2.1 116 0 (by unfold pm7; omega)]; exact z11, f11.tr (f.mono fun a k z => by unfold pm7 at z; unfold pm8; omega)⟩
  unfold lv
  rw [o_cl hq, a1, a2, a3]
  refine ⟨fun h => ⟨inq, Or.inr ⟨all, z11, by rw [if_pos h, j_i64 (by omega)]⟩, f11⟩, fun h0 => ⟨fun h => ⟨inq, Or.inr ⟨all, z11, by rw [if_neg h0, if_pos h, j_i64 (by omega)]⟩, f11⟩, fun h1 => ⟨fun h => ?_, fun h4 => ⟨fun h => ⟨inq, Or.inr ⟨all, z11, ?_⟩, f11⟩, fun h5 => ⟨fun h => ?_, fun h6 => ⟨inq, inq, ?_⟩⟩⟩⟩⟩⟩
  · subst h
    refine (s217 (m := 0) s11 hw hl K11 L11 hql (by omega)).mono fun v M15 k15 s15 => ⟨Or.inr ⟨all, (fin7 M15 k15.2).1, ?_⟩, (fin7 M15 k15.2).2⟩
    rw [k15.1]
    unfold spv
    rfl
  · subst h
    rfl
  · subst h
    refine (s218 s11 hw hl K11 L11 hql).mono fun v M19 k19 s19 => ?_
    obtain ⟨k1, k2⟩ := k19
    subst k2
    refine ⟨Or.inr ⟨all, z11, ?_⟩, f11⟩
    rw [k1, j_i64 (by omega)]
    rfl
  · refine (s207 s11 hw K11 q1 q2).mono fun M24 k24 s24 => ?_
    obtain ⟨kl, kf⟩ := k24
    obtain ⟨z24, f24⟩ := fin7 M24 kf
    rw [kl.1, kl.2.2.2.2.2.1, kl.2.2.2.2.2.2]
    refine ⟨fun h => ⟨Or.inr ⟨all, z24, ?_⟩, f24⟩, fun h2 => ⟨fun h => ⟨Or.inr ⟨all, z24, ?_⟩, f24⟩, fun h3 => ⟨Or.inr ⟨all, z24, ?_⟩, f24⟩⟩⟩
    · rw [if_neg h0, if_neg h1, if_pos h]
    · rw [if_neg h0, if_neg h1, if_neg h2, if_pos h]
    · rw [if_neg h0, if_neg h1, if_neg h2, if_neg h3, if_neg h4, if_neg h5, if_neg h6, j_i64 (by omega)]
end SPOT3
