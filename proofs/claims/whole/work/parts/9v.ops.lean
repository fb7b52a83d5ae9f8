/-! BOTH SIDES: the calls. -/
section OPS
variable {t o t' : Tp} {x : Int32} {p : Pg} {g : Fg} {T : Tt} {d : Dg}
theorem mT.fr {M M2 : sm_M} {tb : Nat → Nat} {tn : Nat} {q : Nat → Nat → Prop} (h : mT M tb tn) (f : Fr q M M2) (hq : ¬ q 116 3 ∧ ∀ k, ¬ q 117 k) : mT M2 tb tn := ⟨by rw [f.2.1 _ _ hq.1]; exact h.1, fun i hi => by rw [f.2.1 _ _ (hq.2 i)]; exact h.2 i hi⟩
theorem mT0 {M : sm_M} {tb : Nat → Nat} (h : iV M 116 3 = 0) : mT M tb 0 := ⟨h, fun i hi => absurd hi (Nat.not_lt_zero _)⟩
theorem cY0 {M : sm_M} {tb : Nat → Nat} (h : iV M 24 1 = 0) : cY M 24 tb 0 := ⟨Nat.zero_le _, h, fun i hi => absurd hi (Nat.not_lt_zero _)⟩
theorem Ms.sc {M M2 : sm_M} {q : Nat → Nat → Prop} (h : Ms M t o x p g T d) (f : Fr q M M2) (hq : ∀ a k, (a = 116 ∧ (k = 6 ∨ k = 7 ∨ k = 28 ∨ k = 29 ∨ k = 33 ∨ k = 34 ∨ k = 43 ∨ k = 44 ∨ k = 56 ∨ k = 57 ∨ 59 ≤ k ∧ k ≤ 67) ∨ a = 119 ∨ a = 120 ∨ 122 ≤ a ∧ a ≤ 127 ∨ 135 ≤ a ∧ a ≤ 140 ∨ a = 146 ∨ a = 147 ∨ 149 ≤ a ∧ a ≤ 156 ∨ 161 ≤ a ∧ a ≤ 163) → ¬ q a k) (h1 : mT M2 t'.1 t'.2) : Ms M2 t' o x p g T d :=
  h.up f (fun a k z => hq a k (by omega)) h1 ⟨by rw [f.2.1 _ _ (hq _ _ (by omega))]; exact h.2.1.1, fun i hi => by rw [f.2.1 _ _ (hq _ _ (by omega))]; exact h.2.1.2 i hi⟩ (by rw [f.2.1 _ _ (hq _ _ (by omega))]; exact h.2.2.1) (h.2.2.2.1.fr f ⟨hq _ _ (by omega), hq _ _ (by omega), fun k => hq _ _ (by omega), fun k => hq _ _ (by omega)⟩)
theorem Cs.sc {M M2 : sm_M} {q : Nat → Nat → Prop} (h : Cs M t o x p g T d) (f : Fr q M M2) (hq : ∀ a k, (a ≤ 23 ∨ a = 26 ∨ a = 27 ∨ 30 ≤ a ∧ a ≤ 32 ∨ 42 ≤ a ∧ a ≤ 115 ∧ ¬ a = 77 ∧ ¬ a = 87) → ¬ q a k) (h1 : cY M2 24 t'.1 t'.2) : Cs M2 t' o x p g T d :=
  h.up f (fun a k z => hq a k (by omega)) h1 ⟨h.2.2.1.1, by rw [f.2.1 _ _ (hq _ _ (by omega))]; exact h.2.2.1.2.1, fun i hi => by rw [f.2.1 _ _ (hq _ _ (by omega))]; exact h.2.2.1.2.2 i hi⟩ (by rw [f.2.1 _ _ (hq _ _ (by omega))]; exact h.2.2.2.1) (h.2.2.2.2.1.fr f fun k => ⟨hq _ _ (by omega), hq _ _ (by omega), hq _ _ (by omega)⟩)
theorem oEnd {M : sm_M} {a : Int32} (h : Rl M) : sm_cI 21 [.ref 23, .int (a), .ref 164] M (fun v M1 => SH M1 ∧ kp M M1 ∧ sm_cI 165 [.ref 116, .int (a)] M1 (fun u M2 => SH M2 → Zz M v u.toInt64 M2)) := by
  obtain ⟨t, o, x, p, g, T, d, hW, hC, hM⟩ := h
  have hS := hC.1.1
  refine g21_0 hS ((s22 hS hC.2.1).mono (fun r M2 k => ?_) (fun v M1 k s1 => ⟨v01, fun M5 s5 e5 => ?_⟩))
  · obtain ⟨k1, k2, k3⟩ := k
    rw [k2, k3]
    have C2 := hC.new 48 6
    have M2s := hM.new hS 48 6
    refine ⟨kd_new _ _ _, C2.1.1, C2.1.1, (kp.new hS _).w, (s165 C2.1.1 hC.2.1.1 M2s.1).mono fun u M2 q s2 => ?_⟩
    obtain ⟨q1, q2⟩ := q
    rcases q1 with y | y
    · exact absurd y.1 k1
    · exact ⟨y.2.1, fun z => absurd z (by decide), ⟨t, o, x, p, g, T, d, hW, C2.fm q2 (fun a k z => by unfold pm033; omega), M2s.sc q2 (fun a k z => by unfold pm033; omega) ⟨y.2.2, fun i hi => by rw [q2.2.1 _ _ (by unfold pm033; omega)]; exact M2s.1.2 i hi⟩⟩, ((kp.new hS _).tr (kp.fr q2 fun k => by unfold pm033; omega)).w⟩
  · obtain ⟨k1, k2, ⟨n, n1, n2, n3⟩, k4⟩ := k
    subst e5
    have C1 : Cs M1 (t.1, n) o x p g T d := hC.sc k4 (fun a k z => by unfold p24; omega) n3
    have M1s := (hM.fc k4 (fun a k z => by unfold p24; omega)).wJ (k := (0 : Int32).toNatClampNeg) (y := v.toInt64)
    refine ⟨s5, ((kp.fr k4 fun k => by unfold p24; omega).tr kp.wJ).w, (s165 s5 hC.2.1.1 M1s.1).mono fun u M2 q s2 => ?_⟩
    obtain ⟨q1, q2⟩ := q
    rcases q1 with y | y
    · refine ⟨y.2.1, fun _ => ?_, ⟨_, o, x, p, g, T, d, hW, C1.wJ.fm q2 (fun a k z => by unfold pm033; omega), M1s.sc (t' := (t.1, n)) q2 (fun a k z => by unfold pm033; omega) ⟨by rw [y.2.2.2]; exact n2, fun i hi => by rw [q2.2.1 _ _ (by unfold pm033; omega)]; exact M1s.1.2 i (by have hi2 : i < n := hi; omega)⟩⟩, (((kp.fr k4 fun k => by unfold p24; omega).tr kp.wJ).tr (kp.fr q2 fun k => by unfold pm033; omega)).w⟩
      rw [q2.2.2 _ _ (by unfold pm033; omega), jV_wJ, if_pos ⟨rfl, rfl⟩, k2, y.2.2.1]
    · exact absurd k1 y.1
theorem oCount {M : sm_M} {a : Int32} (h : Rl M) : sm_cI 158 [.ref 23, .int (a), .ref 164] M (fun v M1 => SH M1 ∧ kp M M1 ∧ sm_cI 224 [.ref 116, .int (a)] M1 (fun u M2 => SH M2 → Zz M v u.toInt64 M2)) := by
  obtain ⟨t, o, x, p, g, T, d, hW, hC, hM⟩ := h
  have hS := hC.1.1
  refine g158_0 hS ((s159 hS).mono (fun r M2 k => ?_) (fun v M1 k s1 => ⟨v01, fun M5 s5 e5 => ?_⟩))
  · obtain ⟨k1, k2, k3⟩ := k
    rw [k2, k3]
    have C2 := hC.new 48 6
    have M2s := hM.new hS 48 6
    refine ⟨kd_new _ _ _, C2.1.1, C2.1.1, (kp.new hS _).w, (s224 C2.1.1).mono fun u M2 q s2 => ?_⟩
    obtain ⟨q1, q2⟩ := q
    rcases q1 with y | y
    · exact absurd y.1 k1
    · exact ⟨y.2, fun z => absurd z (by decide), ⟨t, o, x, p, g, T, d, hW, C2.fm q2 (fun a k z => by unfold pm0; omega), M2s.sc q2 (fun a k z => by unfold pm0; omega) (M2s.1.fr q2 ⟨by unfold pm0; omega, fun k => by unfold pm0; omega⟩)⟩, ((kp.new hS _).tr (kp.fr q2 fun k => by unfold pm0; omega)).w⟩
  · obtain ⟨k1, k2, k4⟩ := k
    subst e5 k4
    have M1s := hM.wJ (k := (0 : Int32).toNatClampNeg) (y := v.toInt64)
    refine ⟨s5, kp.wJ.w, (s224 s5).mono fun u M2 q s2 => ?_⟩
    obtain ⟨q1, q2⟩ := q
    rcases q1 with y | y
    · refine ⟨y.2.1, fun _ => ?_, ⟨t, o, x, p, g, T, d, hW, hC.wJ.fm q2 (fun a k z => by unfold pm0; omega), M1s.sc q2 (fun a k z => by unfold pm0; omega) (M1s.1.fr q2 ⟨by unfold pm0; omega, fun k => by unfold pm0; omega⟩)⟩, (kp.wJ.tr (kp.fr q2 fun k => by unfold pm0; omega)).w⟩
      rw [q2.2.2 _ _ (by unfold pm0; omega), jV_wJ, if_pos ⟨rfl, rfl⟩, k2, y.2.2, hC.2.1.2.1, hC.2.2.1.2.1, hC.2.2.2.2.1.1, M1s.1.1, M1s.2.1.1, M1s.2.2.2.1.1]
    · exact absurd k1 y.1
theorem oWord {M : sm_M} {a : Int32} (h : Rl M) : sm_cI 156 [.ref 23, .int (a), .ref 164] M (fun v M1 => SH M1 ∧ kp M M1 ∧ sm_cJ 223 [.ref 116, .int (a)] M1 (fun u M2 => SH M2 → Zz M v u M2)) := by
  obtain ⟨t, o, x, p, g, T, d, hW, hC, hM⟩ := h
  have hS := hC.1.1
  have hon : o.2 ≤ 6000 := hC.2.2.1.1
  refine g156_0 hS ((s157 hS hC.2.2.1).mono (fun r M2 k => ?_) (fun v M1 k s1 => ⟨v01, fun M5 s5 e5 => ?_⟩))
  · obtain ⟨k1, k2, k3⟩ := k
    rw [k2, k3]
    have C2 := hC.new 51 6
    have M2s := hM.new hS 51 6
    refine ⟨kd_new _ _ _, C2.1.1, C2.1.1, (kp.new hS _).w, (s223 C2.1.1 M2s.2.1 hon).mono fun u M2 q s2 => ?_⟩
    obtain ⟨q1, q2⟩ := q
    rcases q1 with y | y
    · exact absurd y.1 k1
    · exact ⟨y.2, fun z => absurd z (by decide), ⟨t, o, x, p, g, T, d, hW, C2.fm q2 (fun a k z => by unfold pm0; omega), M2s.sc q2 (fun a k z => by unfold pm0; omega) (M2s.1.fr q2 ⟨by unfold pm0; omega, fun k => by unfold pm0; omega⟩)⟩, ((kp.new hS _).tr (kp.fr q2 fun k => by unfold pm0; omega)).w⟩
  · obtain ⟨k1, k2, k4⟩ := k
    subst e5 k4
    have M1s := hM.wJ (k := (0 : Int32).toNatClampNeg) (y := v)
    refine ⟨s5, kp.wJ.w, (s223 s5 M1s.2.1 hon).mono fun u M2 q s2 => ?_⟩
    obtain ⟨q1, q2⟩ := q
    rcases q1 with y | y
    · refine ⟨y.2.1, fun _ => ?_, ⟨t, o, x, p, g, T, d, hW, hC.wJ.fm q2 (fun a k z => by unfold pm0; omega), M1s.sc q2 (fun a k z => by unfold pm0; omega) (M1s.1.fr q2 ⟨by unfold pm0; omega, fun k => by unfold pm0; omega⟩)⟩, (kp.wJ.tr (kp.fr q2 fun k => by unfold pm0; omega)).w⟩
      rw [q2.2.2 _ _ (by unfold pm0; omega), jV_wJ, if_pos ⟨rfl, rfl⟩, k2, y.2.2]
    · exact absurd k1 y.1
theorem oWidth {M : sm_M} {a : Int32} (h : Rl M) : sm_cI 154 [.ref 23, .int (a), .ref 164] M (fun v M1 => SH M1 ∧ kp M M1 ∧ sm_cJ 193 [.ref 116, .int (a)] M1 (fun u M2 => SH M2 → Zz M v u M2)) := by
  obtain ⟨t, o, x, p, g, T, d, hW, hC, hM⟩ := h
  have hS := hC.1.1
  have hn : t.2 ≤ 8192 := hC.2.1.1
  have hB : ∀ i, i < t.2 → t.1 i < 256 := fun i hi => (hC.2.1.2.2 i hi).1
  obtain ⟨f, f2, f3, f4, f5, f6, f7, f8⟩ := hC.2.2.2.2.2.1
  refine g154_0 hS ((s155 hS hC.2.1 f6 f3 f8 hW.2.1).mono (fun r M2 k => ?_) (fun v M1 k s1 => ⟨v01, fun M5 s5 e5 => ?_⟩))
  · obtain ⟨k1, M1, k2, k3, k4, k5, k6⟩ := k
    rw [k3, k4]
    have C1 : Cs M1 (t.1, 0) o x p g T d := hC.sc k6 (fun a k z => by unfold pW; omega) (cY0 k5)
    have C2 := C1.new 48 6
    have M2s := (hM.fc k6 (fun a k z => by unfold pW; omega)).new k2 48 6
    have kk := (kp.fr k6 fun k => by unfold pW; omega).tr (kp.new k2 48)
    refine ⟨kd_new _ _ _, C2.1.1, C2.1.1, kk.w, (s193 C2.1.1 hn hB M2s.1 M2s.2.2.2.2.1).mono fun u M2 q s2 => ?_⟩
    obtain ⟨q1, q3, q2⟩ := q
    rcases q1 with y | y
    · exact absurd y.1 k1
    · exact ⟨y.2, fun z => absurd z (by decide), ⟨(t.1, 0), o, x, p, g, T, d, hW, C2.fm q2 (fun a k z => by unfold pMW; omega), M2s.sc q2 (fun a k z => by unfold pMW; omega) (mT0 q3)⟩, (kk.tr (kp.fr q2 fun k => by unfold pMW; omega)).w⟩
  · obtain ⟨k1, k2, k5, k6⟩ := k
    subst e5
    have C1 : Cs M1 (t.1, 0) o x p g T d := hC.sc k6 (fun a k z => by unfold pW; omega) (cY0 k5)
    have M1s := (hM.fc k6 (fun a k z => by unfold pW; omega)).wJ (k := (0 : Int32).toNatClampNeg) (y := v)
    have kk := (kp.fr k6 fun k => by unfold pW; omega).tr (kp.wJ (k := (0 : Int32).toNatClampNeg) (y := v))
    refine ⟨s5, kk.w, (s193 s5 hn hB M1s.1 M1s.2.2.2.2.1).mono fun u M2 q s2 => ?_⟩
    obtain ⟨q1, q3, q2⟩ := q
    rcases q1 with y | y
    · refine ⟨y.2.1, fun _ => ?_, ⟨(t.1, 0), o, x, p, g, T, d, hW, C1.wJ.fm q2 (fun a k z => by unfold pMW; omega), M1s.sc q2 (fun a k z => by unfold pMW; omega) (mT0 q3)⟩, (kk.tr (kp.fr q2 fun k => by unfold pMW; omega)).w⟩
      rw [q2.2.2 _ _ (by unfold pMW; omega), jV_wJ, if_pos ⟨rfl, rfl⟩, k2, y.2.2]
    · exact absurd k1 y.1
theorem rS_w {a : Int32} {tb : Nat → Nat} {tn : Nat} {pb ps : Nat → Nat} {pn pw : Nat} (hB : ∀ i, i < tn → tb i < 256) (hw : wP pb ps pn pw) : wP (rS a tb tn pb ps pn pw).1 (rS a tb tn pb ps pn pw).2.1 (rS a tb tn pb ps pn pw).2.2.1 (rS a tb tn pb ps pn pw).2.2.2 := by
  unfold rS
  by_cases c : rC a tb tn pb ps pn pw = 0
  · rw [if_pos c]
    unfold rC at c
    by_cases c1 : a < 1000
    · rw [if_pos c1] at c; omega
    · rw [if_neg c1] at c
      by_cases c2 : a ≤ 100000
      · rw [if_pos c2] at c
        by_cases c3 : rF tb tn < tn
        · rw [if_pos c3] at c; omega
        · rw [if_neg c3] at c
          by_cases c4 : 4000 < (rU a tb tn pb ps pn pw).2.2.1
          · rw [if_pos c4] at c; omega
          · have a0 : ¬ a < 0 := fun z => c1 (Int32.lt_trans z (by decide))
            obtain ⟨z1, z2⟩ := z_cl a0
            have b1 : 1000 ≤ a.toNatClampNeg := by
              rw [← z1] at c1
              rcases Nat.lt_or_ge a.toNatClampNeg 1000 with y | y
              · exact absurd ((o_lt (m := 1000) (by omega) (by omega)).mpr y) c1
              · exact y
            have b2 : a.toNatClampNeg ≤ 100000 := by
              rw [← z1] at c2
              exact (o_le (m := 100000) (by omega) (by omega)).mp c2
            refine pru_wP (s := (pb, ps, pn, pw)) ⟨b1, b2⟩ hw tn (fun i hi => ?_) (by unfold rU at c4; omega) tn (Nat.le_refl _)
            have n0 := fs_no (p := fun i => wq (tb i)) (n := tn) (i := 0) (k := i) (Nat.zero_le _) (Nat.zero_le _) (by show i < rF tb tn; omega)
            unfold wq at n0
            by_cases y : bk (tb i) = true
            · exact Or.inl y
            · right
              simp at y
              simp [y] at n0
              omega
      · rw [if_neg c2] at c; omega
  · rw [if_neg c]; exact hw
theorem oRun {M : sm_M} {a : Int32} (h : Rl M) : sm_cI 76 [.ref 23, .int (a), .ref 164] M (fun v M1 => SH M1 ∧ kp M M1 ∧ sm_cI 190 [.ref 116, .int (a)] M1 (fun u M2 => SH M2 → Zz M v u.toInt64 M2)) := by
  obtain ⟨t, o, x, p, g, T, d, hW, hC, hM⟩ := h
  have hS := hC.1.1
  have hn : t.2 ≤ 8192 := hC.2.1.1
  have hB : ∀ i, i < t.2 → t.1 i < 256 := fun i hi => (hC.2.1.2.2 i hi).1
  have hw2 := rS_w (a := a) hB hW.1
  have hW2 : Ws (rS a t.1 t.2 p.1 p.2.1 p.2.2.1 p.2.2.2) g T d := ⟨hw2, hW.2.1, hW.2.2.1, hW.2.2.2⟩
  have c3 : rC a t.1 t.2 p.1 p.2.1 p.2.2.1 p.2.2.2 ≤ 3 := by
    unfold rC
    split
    · omega
    · split
      · split
        · omega
        · split <;> omega
      · omega
  have C1 : ∀ M1, cR M1 M a t.1 t.2 p.1 p.2.1 p.2.2.1 p.2.2.2 → Cs M1 (t.1, 0) o (rP a t.1 t.2 p.1 p.2.1 p.2.2.1 p.2.2.2) (rS a t.1 t.2 p.1 p.2.1 p.2.2.1 p.2.2.2) g T d ∧ Ms M1 t o x p g T d ∧ kz M M1 := fun M1 k => by
    obtain ⟨k1, k2, k3, k4⟩ := k
    exact ⟨hC.up k4 (fun a k z => by unfold pR; omega) (cY0 k2) ⟨hC.2.2.1.1, by rw [k4.2.1 _ _ (by unfold pR; omega)]; exact hC.2.2.1.2.1, fun i hi => by rw [k4.2.1 _ _ (by unfold pR; omega)]; exact hC.2.2.1.2.2 i hi⟩ k3 k1, hM.fc k4 (fun a k z => by unfold pR; omega), kp.fr k4 fun k => by unfold pR; omega⟩
  -- the other side, from there
  have go : ∀ (M1 : sm_M) (v : Int32), v = Int32.ofNat (rC a t.1 t.2 p.1 p.2.1 p.2.2.1 p.2.2.2) → (rC a t.1 t.2 p.1 p.2.1 p.2.2.1 p.2.2.2 = 0 → jV M1 164 0 = (Int32.ofNat (rS a t.1 t.2 p.1 p.2.1 p.2.2.1 p.2.2.2).2.2.1).toInt64) → Cs M1 (t.1, 0) o (rP a t.1 t.2 p.1 p.2.1 p.2.2.1 p.2.2.2) (rS a t.1 t.2 p.1 p.2.1 p.2.2.1 p.2.2.2) g T d → Ms M1 t o x p g T d → kp M M1 → sm_cI 190 [.ref 116, .int (a)] M1 (fun u M2 => SH M2 → Zz M v u.toInt64 M2) := fun M1 v ev hj C1 M1s kk => by
    refine (s190 C1.1.1 hn hB M1s.1 M1s.2.2.2.1 hW.1).mono fun u M2 q s2 => ?_
    obtain ⟨q1, q2, q3, q4, q5, q6⟩ := q
    refine ⟨by rw [q1, ev], fun z => ?_, ⟨(t.1, 0), o, _, _, g, T, d, hW2, C1.fm q6 (fun a k z => by unfold pMR; omega), M1s.up q6 (fun a k z => by unfold pMR; omega) (mT0 q4) ⟨by rw [q6.2.1 _ _ (by unfold pMR; omega)]; exact M1s.2.1.1, fun i hi => by rw [q6.2.1 _ _ (by unfold pMR; omega)]; exact M1s.2.1.2 i hi⟩ q5 q3⟩, (kk.tr (kp.fr q6 fun k => by unfold pMR; omega)).w⟩
    rw [ev] at z
    have c0 := (o_eq (m := 0) (by omega) (by omega)).mp z
    rw [q6.2.2 _ _ (by unfold pMR; omega), hj c0, q2 c0]
  refine g76_0 hS ((s77 hS hC.2.1 hC.2.2.2.2.1 hW.1).mono (fun r M2 k => ?_) (fun v M1 k s1 => ⟨v01, fun M5 s5 e5 => ?_⟩))
  · obtain ⟨M1, k1, k2, k3, k4, k5⟩ := k
    obtain ⟨D1, D2, D3⟩ := C1 M1 k5
    rw [k3, k4]
    have C2 := D1.new (exk (rC a t.1 t.2 p.1 p.2.1 p.2.2.1 p.2.2.2)) 6
    have M2s := D2.new k2 (exk (rC a t.1 t.2 p.1 p.2.1 p.2.2.1 p.2.2.2)) 6
    have kk := D3.tr (kp.new k2 (exk (rC a t.1 t.2 p.1 p.2.1 p.2.2.1 p.2.2.2)))
    have fin : ∀ v, v = Int32.ofNat (rC a t.1 t.2 p.1 p.2.1 p.2.2.1 p.2.2.2) → SH (sm_new M1 (exk (rC a t.1 t.2 p.1 p.2.1 p.2.2.1 p.2.2.2)) 6) ∧ kp M (sm_new M1 (exk (rC a t.1 t.2 p.1 p.2.1 p.2.2.1 p.2.2.2)) 6) ∧ sm_cI 190 [.ref 116, .int (a)] (sm_new M1 (exk (rC a t.1 t.2 p.1 p.2.1 p.2.2.1 p.2.2.2)) 6) (fun u M2 => SH M2 → Zz M v u.toInt64 M2) := fun v ev => ⟨C2.1.1, kk, go _ v ev (fun z => by omega) C2 M2s kk⟩
    have e : rC a t.1 t.2 p.1 p.2.1 p.2.2.1 p.2.2.2 = 1 ∨ rC a t.1 t.2 p.1 p.2.1 p.2.2.1 p.2.2.2 = 2 ∨ rC a t.1 t.2 p.1 p.2.1 p.2.2.1 p.2.2.2 = 3 := by omega
    rcases e with e | e | e
    · exact Or.inl ⟨by rw [kd_new, e]; rfl, C2.1.1, fin 1 (by rw [e]; rfl)⟩
    · exact Or.inr (Or.inl ⟨by rw [kd_new, e]; rfl, C2.1.1, fin 2 (by rw [e]; rfl)⟩)
    · exact Or.inr (Or.inr ⟨by rw [kd_new, e]; rfl, C2.1.1, fin 3 (by rw [e]; rfl)⟩)
  · obtain ⟨k1, k2, k5⟩ := k
    obtain ⟨D1, D2, D3⟩ := C1 M1 k5
    subst e5
    exact ⟨s5, (D3.tr kp.wJ).w, go _ 0 (by rw [k1]; rfl) (fun _ => by rw [jV_wJ, if_pos ⟨rfl, rfl⟩, k2]) D1.wJ D2.wJ (D3.tr kp.wJ).w⟩
/-- scratch of the asking calls -/
theorem Cs.q {M M2 : sm_M} {q : Nat → Nat → Prop} (h : Cs M t o x p g T d) (f : Fr q M M2) (hq : ∀ a k, q a k → a = 41) : Cs M2 t o x p g T d := h.sc f (fun a k z w => by have := hq a k w; omega) (h.2.1.fr f ⟨fun w => by have := hq _ _ w; omega, fun k w => by have := hq _ _ w; omega⟩)
theorem Ms.q8 {M M2 : sm_M} (h : Ms M t o x p g T d) (f : Fr pm8 M M2) : Ms M2 t o x p g T d := h.sc f (fun a k z => by unfold pm8; omega) (h.1.fr f ⟨by unfold pm8; omega, fun k => by unfold pm8; omega⟩)
theorem oTold {M : sm_M} {a : Int32} (h : Rl M) : sm_cI 128 [.ref 23, .int (a), .ref 164] M (fun v M1 => SH M1 ∧ kp M M1 ∧ sm_cJ 214 [.ref 116, .int (a)] M1 (fun u M2 => SH M2 → Zz M v u M2)) := by
  obtain ⟨t, o, x, p, g, T, d, hW, hC, hM⟩ := h
  have hS := hC.1.1
  have kq : ∀ {A B : sm_M}, Fr pm8 A B → kz A B := fun f => kp.fr f fun k => by unfold pm8; omega
  have cq : ∀ {A B : sm_M}, Fr pm8 A B → Cs A t o x p g T d → Cs B t o x p g T d := fun f c => c.fm f fun a k z => by unfold pm8; omega
  cases d with
  | none =>
    obtain ⟨s, s2, s3, s4, s5, s6, s7, s8, s9, s10⟩ := hC.2.2.2.2.2.2.2
    have hm := hM.2.2.2.2.2.2.2
    refine g128_0 hS ((s129n hS s10).mono (fun r M2 k => ?_) (fun v M1 k => k.elim))
    obtain ⟨k1, k2⟩ := k
    rcases k1 with ⟨y1, y2⟩ | ⟨y1, y2⟩
    · rw [k2, y2]
      have C2 := hC.new 48 6
      have M2s := hM.new hS 48 6
      refine Or.inl ⟨kd_new _ _ _, C2.1.1, C2.1.1, (kp.new hS _).w, (s214n C2.1.1 M2s.2.2.2.2.2.2.2).mono fun u M2 q s2 => ?_⟩
      rcases q.1 with z | z
      · exact ⟨z.2, fun w => absurd w (by decide), ⟨t, o, x, p, g, T, none, hW, cq q.2 C2, M2s.q8 q.2⟩, ((kp.new hS _).tr (kq q.2)).w⟩
      · exact absurd z.1 y1
    · rw [k2, y2]
      have C2 := hC.new 49 6
      have M2s := hM.new hS 49 6
      refine Or.inr ⟨kd_new _ _ _, C2.1.1, C2.1.1, (kp.new hS _).w, (s214n C2.1.1 M2s.2.2.2.2.2.2.2).mono fun u M2 q s2 => ?_⟩
      rcases q.1 with z | z
      · exact absurd y1 z.1
      · exact ⟨z.2, fun w => absurd w (by decide), ⟨t, o, x, p, g, T, none, hW, cq q.2 C2, M2s.q8 q.2⟩, ((kp.new hS _).tr (kq q.2)).w⟩
  | some D =>
    obtain ⟨s, s2, s3, s4, s5, s6, s7, s8, s9, s10, s11, s12⟩ := hC.2.2.2.2.2.2.2
    obtain ⟨w1, w2⟩ := hW.2.2.2
    refine g128_0 hS ((s129 hS s10 s6 s3 w1 w2 s11 s12).mono (fun r M2 k => ?_) (fun v M1 k s1 => ⟨v01, fun M5 s5 e5 => ?_⟩))
    · obtain ⟨k1, k2, k3⟩ := k
      rw [k2, k3]
      have C2 := hC.new 48 6
      have M2s := hM.new hS 48 6
      obtain ⟨m1, m2, m3⟩ := M2s.2.2.2.2.2.2.2
      refine Or.inl ⟨kd_new _ _ _, C2.1.1, C2.1.1, (kp.new hS _).w, (s214 C2.1.1 m1 w1 w2 m2 m3).mono fun u M2 q s2 => ?_⟩
      rcases q.1 with z | z
      · exact ⟨z.2, fun w => absurd w (by decide), ⟨t, o, x, p, g, T, some D, hW, cq q.2 C2, M2s.q8 q.2⟩, ((kp.new hS _).tr (kq q.2)).w⟩
      · exact absurd z.1 k1
    · obtain ⟨k1, k2, k3⟩ := k
      subst e5 k3
      have M2s := hM.wJ (k := (0 : Int32).toNatClampNeg) (y := v)
      obtain ⟨m1, m2, m3⟩ := M2s.2.2.2.2.2.2.2
      refine ⟨s5, kp.wJ.w, (s214 s5 m1 w1 w2 m2 m3).mono fun u M2 q s2 => ?_⟩
      rcases q.1 with z | z
      · exact absurd k1 z.1
      · exact ⟨z.2.1, fun _ => by rw [q.2.2.2 _ _ (by unfold pm8; omega), jV_wJ, if_pos ⟨rfl, rfl⟩, k2, z.2.2], ⟨t, o, x, p, g, T, some D, hW, cq q.2 hC.wJ, M2s.q8 q.2⟩, (kp.wJ.tr (kq q.2)).w⟩
theorem oAt {M : sm_M} {a b : Int32} (h : Rl M) : sm_cI 131 [.ref 23, .int (a), .int (b), .ref 164] M (fun v M1 => SH M1 ∧ kp M M1 ∧ sm_cJ 215 [.ref 116, .int (a), .int (b)] M1 (fun u M2 => SH M2 → Zz M v u M2)) := by
  obtain ⟨t, o, x, p, g, T, d, hW, hC, hM⟩ := h
  have hS := hC.1.1
  have kq : ∀ {A B : sm_M}, Fr pm8 A B → kz A B := fun f => kp.fr f fun k => by unfold pm8; omega
  have cq : ∀ {A B : sm_M}, Fr pm8 A B → Cs A t o x p g T d → Cs B t o x p g T d := fun f c => c.fm f fun a k z => by unfold pm8; omega
  cases d with
  | none =>
    obtain ⟨s, s2, s3, s4, s5, s6, s7, s8, s9, s10⟩ := hC.2.2.2.2.2.2.2
    refine g131_0 hS ((s132n hS s10).mono (fun r M2 k => ?_) (fun v M1 k => k.elim))
    obtain ⟨k1, k2⟩ := k
    rcases k1 with ⟨y1, y2⟩ | ⟨y1, y2⟩
    · rw [k2, y2]
      have C2 := hC.new 48 6
      have M2s := hM.new hS 48 6
      refine Or.inl ⟨kd_new _ _ _, C2.1.1, C2.1.1, (kp.new hS _).w, (s215n C2.1.1 M2s.2.2.2.2.2.2.2).mono fun u M2 q s2 => ?_⟩
      rcases q.1 with z | z
      · exact ⟨z.2, fun w => absurd w (by decide), ⟨t, o, x, p, g, T, none, hW, cq q.2 C2, M2s.q8 q.2⟩, ((kp.new hS _).tr (kq q.2)).w⟩
      · exact absurd z.1 y1
    · rw [k2, y2]
      have C2 := hC.new 49 6
      have M2s := hM.new hS 49 6
      refine Or.inr ⟨kd_new _ _ _, C2.1.1, C2.1.1, (kp.new hS _).w, (s215n C2.1.1 M2s.2.2.2.2.2.2.2).mono fun u M2 q s2 => ?_⟩
      rcases q.1 with z | z
      · exact absurd y1 z.1
      · exact ⟨z.2, fun w => absurd w (by decide), ⟨t, o, x, p, g, T, none, hW, cq q.2 C2, M2s.q8 q.2⟩, ((kp.new hS _).tr (kq q.2)).w⟩
  | some D =>
    obtain ⟨s, s2, s3, s4, s5, s6, s7, s8, s9, s10, s11, s12⟩ := hC.2.2.2.2.2.2.2
    obtain ⟨w1, w2⟩ := hW.2.2.2
    refine g131_0 hS ((s132 hS s10 s6 s3 w1 s11).mono (fun r M2 k => ?_) (fun v M1 k s1 => ⟨v01, fun M5 s5 e5 => ?_⟩))
    · obtain ⟨k1, k2, k3⟩ := k
      rw [k2, k3]
      have C2 := hC.new 48 6
      have M2s := hM.new hS 48 6
      obtain ⟨m1, m2, m3⟩ := M2s.2.2.2.2.2.2.2
      refine Or.inl ⟨kd_new _ _ _, C2.1.1, C2.1.1, (kp.new hS _).w, (s215 C2.1.1 m1 w1 m2).mono fun u M2 q s2 => ?_⟩
      rcases q.1 with z | z
      · exact ⟨z.2, fun w => absurd w (by decide), ⟨t, o, x, p, g, T, some D, hW, cq q.2 C2, M2s.q8 q.2⟩, ((kp.new hS _).tr (kq q.2)).w⟩
      · exact absurd z.1 k1
    · obtain ⟨k1, k2, k3⟩ := k
      subst e5 k3
      have M2s := hM.wJ (k := (0 : Int32).toNatClampNeg) (y := v)
      obtain ⟨m1, m2, m3⟩ := M2s.2.2.2.2.2.2.2
      refine ⟨s5, kp.wJ.w, (s215 s5 m1 w1 m2).mono fun u M2 q s2 => ?_⟩
      rcases q.1 with z | z
      · exact absurd k1 z.1
      · exact ⟨z.2.1, fun _ => by rw [q.2.2.2 _ _ (by unfold pm8; omega), jV_wJ, if_pos ⟨rfl, rfl⟩, k2, z.2.2], ⟨t, o, x, p, g, T, some D, hW, cq q.2 hC.wJ, M2s.q8 q.2⟩, (kp.wJ.tr (kq q.2)).w⟩
theorem oLine {M : sm_M} {a b : Int32} (h : Rl M) : sm_cI 133 [.ref 23, .int (a), .int (b), .ref 164] M (fun v M1 => SH M1 ∧ kp M M1 ∧ sm_cJ 216 [.ref 116, .int (a), .int (b)] M1 (fun u M2 => SH M2 → Zz M v u M2)) := by
  obtain ⟨t, o, x, p, g, T, d, hW, hC, hM⟩ := h
  have hS := hC.1.1
  have kq : ∀ {A B : sm_M}, Fr pm8 A B → kz A B := fun f => kp.fr f fun k => by unfold pm8; omega
  have cq : ∀ {A B : sm_M}, Fr pm8 A B → Cs A t o x p g T d → Cs B t o x p g T d := fun f c => c.fm f fun a k z => by unfold pm8; omega
  cases d with
  | none =>
    obtain ⟨s, s2, s3, s4, s5, s6, s7, s8, s9, s10⟩ := hC.2.2.2.2.2.2.2
    refine g133_0 hS ((s134n hS s10).mono (fun r M2 k => ?_) (fun v M1 k => k.elim))
    obtain ⟨k1, k2⟩ := k
    rcases k1 with ⟨y1, y2⟩ | ⟨y1, y2⟩
    · rw [k2, y2]
      have C2 := hC.new 48 6
      have M2s := hM.new hS 48 6
      refine Or.inl ⟨kd_new _ _ _, C2.1.1, C2.1.1, (kp.new hS _).w, (s216n C2.1.1 M2s.2.2.2.2.2.2.2).mono fun u M2 q s2 => ?_⟩
      rcases q.1 with z | z
      · exact ⟨z.2, fun w => absurd w (by decide), ⟨t, o, x, p, g, T, none, hW, cq q.2 C2, M2s.q8 q.2⟩, ((kp.new hS _).tr (kq q.2)).w⟩
      · exact absurd z.1 y1
    · rw [k2, y2]
      have C2 := hC.new 49 6
      have M2s := hM.new hS 49 6
      refine Or.inr ⟨kd_new _ _ _, C2.1.1, C2.1.1, (kp.new hS _).w, (s216n C2.1.1 M2s.2.2.2.2.2.2.2).mono fun u M2 q s2 => ?_⟩
      rcases q.1 with z | z
      · exact absurd y1 z.1
      · exact ⟨z.2, fun w => absurd w (by decide), ⟨t, o, x, p, g, T, none, hW, cq q.2 C2, M2s.q8 q.2⟩, ((kp.new hS _).tr (kq q.2)).w⟩
  | some D =>
    obtain ⟨s, s2, s3, s4, s5, s6, s7, s8, s9, s10, s11, s12⟩ := hC.2.2.2.2.2.2.2
    obtain ⟨w1, w2⟩ := hW.2.2.2
    refine g133_0 hS ((s134 hS s10 s6 s3 w1 w2 s11 s12).mono (fun r M2 k => ?_) (fun v M1 k s1 => ⟨v01, fun M5 s5 e5 => ?_⟩))
    · obtain ⟨k1, k2, k3⟩ := k
      rw [k2, k3]
      have C2 := hC.new 48 6
      have M2s := hM.new hS 48 6
      obtain ⟨m1, m2, m3⟩ := M2s.2.2.2.2.2.2.2
      refine Or.inl ⟨kd_new _ _ _, C2.1.1, C2.1.1, (kp.new hS _).w, (s216 C2.1.1 m1 w1 w2 m2 m3).mono fun u M2 q s2 => ?_⟩
      rcases q.1 with z | z
      · exact ⟨z.2, fun w => absurd w (by decide), ⟨t, o, x, p, g, T, some D, hW, cq q.2 C2, M2s.q8 q.2⟩, ((kp.new hS _).tr (kq q.2)).w⟩
      · exact absurd z.1 k1
    · obtain ⟨k1, k2, k3⟩ := k
      subst e5
      have C1 := hC.q k3 (fun a k z => z)
      have M2s := (hM.fc k3 (fun a k z => by unfold pl; omega)).wJ (k := (0 : Int32).toNatClampNeg) (y := v)
      have kk := (kp.fr k3 fun k => by unfold pl; omega).tr (kp.wJ (k := (0 : Int32).toNatClampNeg) (y := v))
      obtain ⟨m1, m2, m3⟩ := M2s.2.2.2.2.2.2.2
      refine ⟨s5, kk.w, (s216 s5 m1 w1 w2 m2 m3).mono fun u M2 q s2 => ?_⟩
      rcases q.1 with z | z
      · exact absurd k1 z.1
      · exact ⟨z.2.1, fun _ => by rw [q.2.2.2 _ _ (by unfold pm8; omega), jV_wJ, if_pos ⟨rfl, rfl⟩, k2, z.2.2], ⟨t, o, x, p, g, T, some D, hW, cq q.2 C1.wJ, M2s.q8 q.2⟩, (kk.tr (kq q.2)).w⟩
theorem oSpot {M : sm_M} {a b : Int32} (h : Rl M) : sm_cI 138 [.ref 23, .int (a), .int (b), .ref 164] M (fun v M1 => SH M1 ∧ kp M M1 ∧ sm_cJ 219 [.ref 116, .int (a), .int (b)] M1 (fun u M2 => SH M2 → Zz M v u M2)) := by
  obtain ⟨t, o, x, p, g, T, d, hW, hC, hM⟩ := h
  have hS := hC.1.1
  have kq : ∀ {A B : sm_M}, Fr pm8 A B → kz A B := fun f => kp.fr f fun k => by unfold pm8; omega
  have cq : ∀ {A B : sm_M}, Fr pm8 A B → Cs A t o x p g T d → Cs B t o x p g T d := fun f c => c.fm f fun a k z => by unfold pm8; omega
  cases d with
  | none =>
    obtain ⟨s, s2, s3, s4, s5, s6, s7, s8, s9, s10⟩ := hC.2.2.2.2.2.2.2
    refine g138_0 hS ((s139n hS s10).mono (fun r M2 k => ?_) (fun v M1 k => k.elim))
    obtain ⟨k1, k2⟩ := k
    rcases k1 with ⟨y1, y2⟩ | ⟨y1, y2⟩
    · rw [k2, y2]
      have C2 := hC.new 48 6
      have M2s := hM.new hS 48 6
      refine Or.inl ⟨kd_new _ _ _, C2.1.1, C2.1.1, (kp.new hS _).w, (s219n C2.1.1 M2s.2.2.2.2.2.2.2).mono fun u M2 q s2 => ?_⟩
      rcases q.1 with z | z
      · exact ⟨z.2, fun w => absurd w (by decide), ⟨t, o, x, p, g, T, none, hW, cq q.2 C2, M2s.q8 q.2⟩, ((kp.new hS _).tr (kq q.2)).w⟩
      · exact absurd y1 z.1
    · rw [k2, y2]
      have C2 := hC.new 49 6
      have M2s := hM.new hS 49 6
      refine Or.inr (Or.inl ⟨kd_new _ _ _, C2.1.1, C2.1.1, (kp.new hS _).w, (s219n C2.1.1 M2s.2.2.2.2.2.2.2).mono fun u M2 q s2 => ?_⟩)
      rcases q.1 with z | z
      · exact absurd z.1 y1
      · exact ⟨z.2, fun w => absurd w (by decide), ⟨t, o, x, p, g, T, none, hW, cq q.2 C2, M2s.q8 q.2⟩, ((kp.new hS _).tr (kq q.2)).w⟩
  | some D =>
    obtain ⟨s, s2, s3, s4, s5, s6, s7, s8, s9, s10, s11, s12⟩ := hC.2.2.2.2.2.2.2
    obtain ⟨w1, w2⟩ := hW.2.2.2
    refine g138_0 hS ((s139 hS s10 s6 s3 w1 w2 s11 s12).mono (fun r M2 k => ?_) (fun v M1 k s1 => ⟨v01, fun M5 s5 e5 => ?_⟩))
    · obtain ⟨M1, kk2, k1, k2, k3, k4, k5⟩ := k
      rw [k2, k3]
      have C1 := hC.q k4 (fun a k z => z)
      have C2 := C1.new kk2 6
      have M2s := (hM.fc k4 (fun a k z => by unfold pl; omega)).new k1 kk2 6
      have kk := (kp.fr k4 fun k => by unfold pl; omega).tr (kp.new k1 kk2)
      obtain ⟨m1, m2, m3⟩ := M2s.2.2.2.2.2.2.2
      rcases k5 with ⟨y1, y2⟩ | ⟨y1, y2, y3⟩
      · refine Or.inl ⟨by rw [kd_new]; exact y1, C2.1.1, C2.1.1, kk.w, (s219 C2.1.1 m1 w1 w2 m2 m3).mono fun u M2 q s2 => ?_⟩
        rcases q.1 with z | z | z
        · exact ⟨z.2, fun w => absurd w (by decide), ⟨t, o, x, p, g, T, some D, hW, cq q.2 C2, M2s.q8 q.2⟩, (kk.tr (kq q.2)).w⟩
        · exact absurd z.1 y2
        · exact absurd z.1 y2
      · refine Or.inr (Or.inr ⟨by rw [kd_new]; exact y1, C2.1.1, C2.1.1, kk.w, (s219 C2.1.1 m1 w1 w2 m2 m3).mono fun u M2 q s2 => ?_⟩)
        rcases q.1 with z | z | z
        · exact absurd y2 z.1
        · exact ⟨z.2.2, fun w => absurd w (by decide), ⟨t, o, x, p, g, T, some D, hW, cq q.2 C2, M2s.q8 q.2⟩, (kk.tr (kq q.2)).w⟩
        · exact absurd z.2.1 y3
    · obtain ⟨k1, k1b, k2, k3⟩ := k
      subst e5
      have C1 := hC.q k3 (fun a k z => z)
      have M2s := (hM.fc k3 (fun a k z => by unfold pl; omega)).wJ (k := (0 : Int32).toNatClampNeg) (y := v)
      have kk := (kp.fr k3 fun k => by unfold pl; omega).tr (kp.wJ (k := (0 : Int32).toNatClampNeg) (y := v))
      obtain ⟨m1, m2, m3⟩ := M2s.2.2.2.2.2.2.2
      refine ⟨s5, kk.w, (s219 s5 m1 w1 w2 m2 m3).mono fun u M2 q s2 => ?_⟩
      rcases q.1 with z | z | z
      · exact absurd k1 z.1
      · exact absurd k1b z.2.1
      · exact ⟨z.2.2.1, fun _ => by rw [q.2.2.2 _ _ (by unfold pm8; omega), jV_wJ, if_pos ⟨rfl, rfl⟩, k2, z.2.2.2], ⟨t, o, x, p, g, T, some D, hW, cq q.2 C1.wJ, M2s.q8 q.2⟩, (kk.tr (kq q.2)).w⟩
end OPS
