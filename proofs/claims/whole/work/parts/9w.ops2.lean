/-! BOTH SIDES: the rest of the calls. -/
section OPR
variable {t o : Tp} {x : Int32} {p : Pg} {g : Fg} {T : Tt} {d : Dg}
theorem oText {M : sm_M} {a : Int32} (h : Rl M) : sm_cI 143 [.ref 23, .int (a), .ref 164] M (fun v M1 => SH M1 ∧ kp M M1 ∧ sm_cI 220 [.ref 116, .int (a)] M1 (fun u M2 => SH M2 → Zz M v u.toInt64 M2)) := by
  obtain ⟨t, o, x, p, g, T, d, hW, hC, hM⟩ := h
  have hS := hC.1.1
  have kq : ∀ {A B : sm_M}, Fr pm0 A B → kz A B := fun f => kp.fr f fun k => by unfold pm0; omega
  have cq : ∀ {A B : sm_M}, Fr pm0 A B → Cs A t o x p g T d → Cs B t o x p g T d := fun f c => c.fm f fun a k z => by unfold pm0; omega
  have mq : ∀ {A B : sm_M}, Fr pm0 A B → Ms A t o x p g T d → Ms B t o x p g T d := fun f c => c.sc f (fun a k z => by unfold pm0; omega) (c.1.fr f ⟨by unfold pm0; omega, fun k => by unfold pm0; omega⟩)
  cases d with
  | none =>
    obtain ⟨s, s2, s3, s4, s5, s6, s7, s8, s9, s10⟩ := hC.2.2.2.2.2.2.2
    refine g143_0 hS ((s144n hS s10).mono (fun r M2 k => ?_) (fun v M1 k => k.elim))
    obtain ⟨k1, k2⟩ := k
    rcases k1 with ⟨y1, y2⟩ | ⟨y1, y2⟩
    · rw [k2, y2]
      have C2 := hC.new 48 6
      have M2s := hM.new hS 48 6
      refine Or.inl ⟨kd_new _ _ _, C2.1.1, C2.1.1, (kp.new hS _).w, (s220n C2.1.1 M2s.2.2.2.2.2.2.2).mono fun u M2 q s2 => ?_⟩
      rcases q.1 with z | z
      · exact ⟨z.2, fun w => absurd w (by decide), ⟨t, o, x, p, g, T, none, hW, cq q.2 C2, mq q.2 M2s⟩, ((kp.new hS _).tr (kq q.2)).w⟩
      · exact absurd y1 z.1
    · rw [k2, y2]
      have C2 := hC.new 49 6
      have M2s := hM.new hS 49 6
      refine Or.inr ⟨kd_new _ _ _, C2.1.1, C2.1.1, (kp.new hS _).w, (s220n C2.1.1 M2s.2.2.2.2.2.2.2).mono fun u M2 q s2 => ?_⟩
      rcases q.1 with z | z
      · exact absurd z.1 y1
      · exact ⟨z.2, fun w => absurd w (by decide), ⟨t, o, x, p, g, T, none, hW, cq q.2 C2, mq q.2 M2s⟩, ((kp.new hS _).tr (kq q.2)).w⟩
  | some D =>
    obtain ⟨s, s2, s3, s4, s5, s6, s7, s8, s9, s10, s11, s12⟩ := hC.2.2.2.2.2.2.2
    obtain ⟨w1, w2⟩ := hW.2.2.2
    refine g143_0 hS ((s144 hS s10 s6 s3 w1 w2 s11 s12).mono (fun r M2 k => ?_) (fun v M1 k s1 => ⟨v01, fun M5 s5 e5 => ?_⟩))
    · obtain ⟨k1, k2, k3⟩ := k
      rw [k2, k3]
      have C2 := hC.new 48 6
      have M2s := hM.new hS 48 6
      obtain ⟨m1, m2, m3⟩ := M2s.2.2.2.2.2.2.2
      refine Or.inl ⟨kd_new _ _ _, C2.1.1, C2.1.1, (kp.new hS _).w, (s220 C2.1.1 m1 w1 w2 m2 m3).mono fun u M2 q s2 => ?_⟩
      rcases q with z | z
      · exact ⟨z.2.1, fun w => absurd w (by decide), ⟨t, o, x, p, g, T, some D, hW, cq z.2.2 C2, mq z.2.2 M2s⟩, ((kp.new hS _).tr (kq z.2.2)).w⟩
      · exact absurd z.1 k1
    · obtain ⟨k1, k2, k3, k4⟩ := k
      subst e5
      have C1 : Cs M1 t (tO D (lf D a.toNatClampNeg) (D 10 a.toNatClampNeg), tL D (lf D a.toNatClampNeg) (D 10 a.toNatClampNeg)) x p g T (some D) := hC.up k4 (fun a k z => by unfold ptx; omega) (hC.2.1.fr k4 ⟨by unfold ptx; omega, fun k => by unfold ptx; omega⟩) k3 (by rw [k4.2.1 _ _ (by unfold ptx; omega)]; exact hC.2.2.2.1) (hC.2.2.2.2.1.fr k4 fun k => by unfold ptx; omega)
      have M2s := (hM.fc k4 (fun a k z => by unfold ptx; omega)).wJ (k := (0 : Int32).toNatClampNeg) (y := v.toInt64)
      have kk := (kp.fr k4 fun k => by unfold ptx; omega).tr (kp.wJ (k := (0 : Int32).toNatClampNeg) (y := v.toInt64))
      obtain ⟨m1, m2, m3⟩ := M2s.2.2.2.2.2.2.2
      refine ⟨s5, kk.w, (s220 s5 m1 w1 w2 m2 m3).mono fun u M2 q s2 => ?_⟩
      rcases q with z | z
      · exact absurd k1 z.1
      · obtain ⟨z1, z2, z3, z4, z5⟩ := z
        exact ⟨z3, fun _ => by rw [z5.2.2 _ _ (by unfold pmt; omega), jV_wJ, if_pos ⟨rfl, rfl⟩, k2, z2], ⟨t, _, x, p, g, T, some D, hW, C1.wJ.fm z5 (fun a k z => by unfold pmt; omega), M2s.up z5 (fun a k z => by unfold pmt; omega) (M2s.1.fr z5 ⟨by unfold pmt; omega, fun k => by unfold pmt; omega⟩) z4 (by rw [z5.2.1 _ _ (by unfold pmt; omega)]; exact M2s.2.2.1) (M2s.2.2.2.1.fr z5 ⟨by unfold pmt; omega, by unfold pmt; omega, fun k => by unfold pmt; omega, fun k => by unfold pmt; omega⟩)⟩, (kk.tr (kp.fr z5 fun k => by unfold pmt; omega)).w⟩
theorem jR_u {D : Nat → Nat → Nat} {tb : Nat → Nat} {tn : Nat} {u v : Int64} (h : jR D tb tn u) (k : jR D tb tn v) : u = v := by
  rcases h with h | h
  · rcases k with k | k
    · rw [h.2, k.2]
    · exact absurd h.1 k.1
  · rcases k with k | k
    · exact absurd k.1 h.1
    · rw [h.2, k.2]
theorem oJudge {M : sm_M} (h : Rl M) : sm_cI 146 [.ref 23, .ref 164] M (fun v M1 => SH M1 ∧ kp M M1 ∧ sm_cJ 221 [.ref 116] M1 (fun u M2 => SH M2 → Zz M v u M2)) := by
  obtain ⟨t, o, x, p, g, T, d, hW, hC, hM⟩ := h
  have hS := hC.1.1
  have hn : t.2 ≤ 8192 := hC.2.1.1
  have hB : ∀ i, i < t.2 → t.1 i < 256 := fun i hi => (hC.2.1.2.2 i hi).1
  have kq : ∀ {A B : sm_M}, Fr pMJ A B → kz A B := fun f => kp.fr f fun k => by unfold pMJ; omega
  have cq : ∀ {A B : sm_M}, Fr pMJ A B → Cs A (t.1, 0) o x p g T d → Cs B (t.1, 0) o x p g T d := fun f c => c.fm f fun a k z => by unfold pMJ; omega
  have mq : ∀ {A B : sm_M}, Fr pMJ A B → iV B 116 3 = 0 → Ms A t o x p g T d → Ms B (t.1, 0) o x p g T d := fun f e c => c.sc f (fun a k z => by unfold pMJ; omega) (mT0 e)
  have c1 : ∀ {B : sm_M}, Fr pJ M B → iV B 24 1 = 0 → Cs B (t.1, 0) o x p g T d ∧ Ms B t o x p g T d ∧ kz M B := fun f e => ⟨hC.sc f (fun a k z => by unfold pJ; omega) (cY0 e), hM.fc f (fun a k z => by unfold pJ; omega), kp.fr f fun k => by unfold pJ; omega⟩
  cases d with
  | none =>
    obtain ⟨s, s2, s3, s4, s5, s6, s7, s8, s9, s10⟩ := hC.2.2.2.2.2.2.2
    refine g146_0 hS ((s147n hS s10).mono (fun r M2 k => ?_) (fun v M1 k => k.elim))
    obtain ⟨M1, k1, k2, k3, k4, k5⟩ := k
    obtain ⟨D1, D2, D3⟩ := c1 k5 k4
    rw [k2, k3]
    have C2 := D1.new 49 6
    have M2s := D2.new k1 49 6
    have kk := D3.tr (kp.new k1 49)
    refine Or.inl ⟨kd_new _ _ _, C2.1.1, C2.1.1, kk.w, (s221n C2.1.1 hn M2s.1 M2s.2.2.2.2.2.2.2).mono fun u M2 q s2 => ?_⟩
    exact ⟨q.1, fun w => absurd w (by decide), ⟨_, o, x, p, g, T, none, hW, cq q.2.2 C2, mq q.2.2 q.2.1 M2s⟩, (kk.tr (kq q.2.2)).w⟩
  | some D =>
    obtain ⟨s, s2, s3, s4, s5, s6, s7, s8, s9, s10, s11, s12⟩ := hC.2.2.2.2.2.2.2
    obtain ⟨w1, w2⟩ := hW.2.2.2
    refine g146_0 hS ((s147 hS s10 hC.2.1 s6 s3 w1 w2 s11 s12).mono (fun r M2 k => ?_) (fun v M1 k s1 => ⟨v01, fun M5 s5 e5 => ?_⟩))
    · obtain ⟨k0, M1, k1, k2, k3, k4, k5⟩ := k
      obtain ⟨D1, D2, D3⟩ := c1 k5 k4
      rw [k2, k3]
      have C2 := D1.new 48 6
      have M2s := D2.new k1 48 6
      have kk := D3.tr (kp.new k1 48)
      obtain ⟨m1, m2, m3⟩ := M2s.2.2.2.2.2.2.2
      refine Or.inr ⟨kd_new _ _ _, C2.1.1, C2.1.1, kk.w, (s221 C2.1.1 hn hB M2s.1 m1 w1 w2 m2 m3).mono fun u M2 q s2 => ?_⟩
      rcases q.1 with z | z
      · exact absurd z.1 k0
      · exact ⟨z.2, fun w => absurd w (by decide), ⟨_, o, x, p, g, T, some D, hW, cq q.2.2 C2, mq q.2.2 q.2.1 M2s⟩, (kk.tr (kq q.2.2)).w⟩
    · obtain ⟨k0, k1, k2, k3⟩ := k
      obtain ⟨D1, D2, D3⟩ := c1 k3 k2
      subst e5
      have M2s := D2.wJ (k := (0 : Int32).toNatClampNeg) (y := v)
      have kk := D3.tr (kp.wJ (k := (0 : Int32).toNatClampNeg) (y := v))
      obtain ⟨m1, m2, m3⟩ := M2s.2.2.2.2.2.2.2
      refine ⟨s5, kk.w, (s221 s5 hn hB M2s.1 m1 w1 w2 m2 m3).mono fun u M2 q s2 => ?_⟩
      rcases q.1 with z | z
      · exact ⟨z.2.2, fun _ => by rw [q.2.2.2.2 _ _ (by unfold pMJ; omega), jV_wJ, if_pos ⟨rfl, rfl⟩]; exact jR_u k1 z.2.1, ⟨_, o, x, p, g, T, some D, hW, cq q.2.2 D1.wJ, mq q.2.2 q.2.1 M2s⟩, (kk.tr (kq q.2.2)).w⟩
      · exact absurd k0 z.1
theorem oParts {M : sm_M} (h : Rl M) : sm_cI 151 [.ref 23, .ref 164] M (fun v M1 => SH M1 ∧ kp M M1 ∧ sm_cI 222 [.ref 116] M1 (fun u M2 => SH M2 → Zz M v u.toInt64 M2)) := by
  obtain ⟨t, o, x, p, g, T, d, hW, hC, hM⟩ := h
  have hS := hC.1.1
  have hn : t.2 ≤ 8192 := hC.2.1.1
  have hB : ∀ i, i < t.2 → t.1 i < 256 := fun i hi => (hC.2.1.2.2 i hi).1
  obtain ⟨f, f2, f3, f4, f5, f6, f7, f8⟩ := hC.2.2.2.2.2.2.1
  have hff := fH_s f3
  refine g151_0 hS ((s152 hS f3 f6 hW.2.2.1 f8 hC.2.1).mono (fun r M2 k => ?_) (fun v M1 k s1 => ⟨v01, fun M5 s5 e5 => ?_⟩))
  · obtain ⟨k0, M1, k1, k2, k3, k4, k5⟩ := k
    rw [k2, k3]
    have C1 : Cs M1 (t.1, 0) o x p g T d := hC.sc k5 (fun a k z => by omega) (cY0 k4)
    have C2 := C1.new 48 6
    have M2s := (hM.fc k5 (fun a k z => by omega)).new k1 48 6
    have kk := (kp.fr k5 fun k => by omega).tr (kp.new k1 48)
    refine ⟨kd_new _ _ _, C2.1.1, C2.1.1, kk.w, (s222 C2.1.1 hn hB M2s.1 hW.2.2.1 M2s.2.2.2.2.2.1).mono fun u M2 q s2 => ?_⟩
    rcases q with z | z
    · exact absurd z.1 k0
    · obtain ⟨z1, z2, z3, z4⟩ := z
      exact ⟨z2, fun w => absurd w (by decide), ⟨_, o, x, p, g, T, d, hW, C2.fm z4 (fun a k z => by unfold pTk; omega), M2s.sc (t' := (t.1, 0)) z4 (fun a k z => by unfold pTk; omega) (mT0 z3)⟩, (kk.tr (kp.fr z4 fun k => by unfold pTk; omega)).w⟩
  · obtain ⟨k0, k1, k2, k3, k4⟩ := k
    subst e5
    have C1 : Cs M1 (t.1, 0) ((po T t.1 t.2 t.2).1, (po T t.1 t.2 t.2).2) x p g T d := hC.up k4 (fun a k z => by unfold p152; omega) (cY0 k3) k2 (by rw [k4.2.1 _ _ (by unfold p152; omega)]; exact hC.2.2.2.1) (hC.2.2.2.2.1.fr k4 fun k => by unfold p152; omega)
    have M2s := (hM.fc k4 (fun a k z => by unfold p152; omega)).wJ (k := (0 : Int32).toNatClampNeg) (y := v.toInt64)
    have kk := (kp.fr k4 fun k => by unfold p152; omega).tr (kp.wJ (k := (0 : Int32).toNatClampNeg) (y := v.toInt64))
    refine ⟨s5, kk.w, (s222 s5 hn hB M2s.1 hW.2.2.1 M2s.2.2.2.2.2.1).mono fun u M2 q s2 => ?_⟩
    rcases q with z | z
    · obtain ⟨z1, z2, z3, z4, z5, z6⟩ := z
      exact ⟨z2, fun _ => by rw [z6.2.2 _ _ (by unfold p222; omega), jV_wJ, if_pos ⟨rfl, rfl⟩, k1, z3], ⟨_, _, x, p, g, T, d, hW, C1.wJ.fm z6 (fun a k z => by unfold p222; omega), M2s.up z6 (fun a k z => by unfold p222; omega) (mT0 z5) z4 (by rw [z6.2.1 _ _ (by unfold p222; omega)]; exact M2s.2.2.1) (M2s.2.2.2.1.fr z6 ⟨by unfold p222; omega, by unfold p222; omega, fun k => by unfold p222; omega, fun k => by unfold p222; omega⟩)⟩, (kk.tr (kp.fr z6 fun k => by unfold p222; omega)).w⟩
    · exact absurd k0 z.1
theorem oFont {M : sm_M} (h : Rl M) : sm_cI 23 [.ref 23, .ref 164] M (fun v M1 => SH M1 ∧ kp M M1 ∧ sm_cI 168 [.ref 116] M1 (fun u M2 => SH M2 → Zz M v u.toInt64 M2)) := by
  obtain ⟨t, o, x, p, g, T, d, hW, hC, hM⟩ := h
  obtain ⟨⟨hS, hN⟩, h1, h2, h3, h4, h5, h6, h7⟩ := hC
  have hn : t.2 ≤ 8192 := h1.1
  have hB : ∀ i, i < t.2 → t.1 i < 256 := fun i hi => (h1.2.2 i hi).1
  obtain ⟨f, f2, f3, f4, f5, f6, f7, f8⟩ := h5
  have hff : f = 42 ∨ f = 55 := f3
  have hff2 : f2 = 42 ∨ f2 = 55 := f4
  -- what stays
  have stay : ∀ (M1 B : sm_M), Fr (p24x f2) M M1 → SH B → (∀ a k, iV B a k = iV M1 a k) → (∀ a k, ¬ a = 164 → jV B a k = jV M1 a k) → (∀ a k, ¬ (a = 23 ∧ (k = 9 ∨ k = 10)) → a < 165 → sm_rv B a k = sm_rv M1 a k) → iV M1 24 1 = 0 → (NM B ∧ cY B 24 t.1 0 ∧ cY B 26 o.1 o.2 ∧ cP B p.1 p.2.1 p.2.2.1 p.2.2.2 ∧ C6 B T ∧ C7 B d) ∧ Ms B t o x p g T d := fun M1 B F sB eB ejB erB e24 => by
    have ii : ∀ a k, ¬ p24x f2 a k → iV B a k = iV M a k := fun a k z => by rw [eB]; exact F.2.1 a k z
    have jj : ∀ a k, ¬ p24x f2 a k → ¬ a = 164 → jV B a k = jV M a k := fun a k z w => by rw [ejB a k w]; exact F.2.2 a k z
    have rr : ∀ k, ¬ (k = 9 ∨ k = 10) → sm_rv B 23 k = sm_rv M 23 k := fun k z => by rw [erB _ _ (by omega) (by omega), F.1.2.2.2.2]
    refine ⟨⟨hN.eq fun a k z => ii _ _ (by unfold p24x; omega), cY0 (by rw [eB]; exact e24), ⟨h2.1, by rw [ii _ _ (by unfold p24x; omega)]; exact h2.2.1, fun i hi => by rw [ii _ _ (by unfold p24x; omega)]; exact h2.2.2 i hi⟩, ⟨by rw [ii _ _ (by unfold p24x; omega)]; exact h4.1, by rw [ii _ _ (by unfold p24x; omega)]; exact h4.2.1, fun i hi => by rw [ii _ _ (by unfold p24x; omega), ii _ _ (by unfold p24x; omega)]; exact h4.2.2 i hi⟩, ?_, ?_⟩, hM.cp (fun a k z1 z2 => ii _ _ (by unfold p24x; omega)) (fun a k z1 z2 => jj _ _ (by unfold p24x; omega) (by omega))⟩
    · obtain ⟨u, u2, v1, v2, v3, v4, v5, v6⟩ := h6
      have := fH_s v1
      exact ⟨u, u2, v1, v2, v3, by rw [rr _ (by omega)]; exact v4, by rw [rr _ (by omega)]; exact v5, v6.eq (fun a k z1 z2 => ii _ _ (by unfold p24x; omega)) fun k => jj _ _ (by unfold p24x; omega) (by omega)⟩
    · obtain ⟨s, s2, v1, v2, v3, v4, v5, v6, v7, v8⟩ := h7
      have q1 : s = 88 ∨ s = 102 := v1
      have q2 : s2 = 88 ∨ s2 = 102 := v2
      refine ⟨s, s2, v1, v2, v3, by rw [rr _ (by omega)]; exact v4, by rw [rr _ (by omega)]; exact v5, v6.eq (fun a k z1 z2 => ii _ _ (by unfold p24x; omega)) (fun a k z1 z2 => jj _ _ (by unfold p24x; omega) (by omega)), v7.eq (fun a k z1 z2 => ii _ _ (by unfold p24x; omega)) (fun a k z1 z2 => jj _ _ (by unfold p24x; omega) (by omega)), ?_⟩
      have e15 : iV B 23 15 = iV M 23 15 := ii _ _ (by unfold p24x; omega)
      cases d with
      | none => exact e15.trans v8
      | some D => exact ⟨by rw [e15]; exact v8.1, v8.2.1.eq (fun a k z1 z2 => ii _ _ (by unfold p24x; omega)) (fun a k z1 z2 => jj _ _ (by unfold p24x; omega) (by omega)), v8.2.2.eq (fun a k z1 z2 => ii _ _ (by unfold p24x; omega)) (fun a k z1 z2 => jj _ _ (by unfold p24x; omega) (by omega))⟩
  refine g23_0 hS ((s24 hS hN f3 f4 f6 f7 h1).mono (fun r M2 k => ?_) (fun v M1 k => ?_))
  · obtain ⟨e, M1, k1, k2, k3, k4, k5, k6, k7⟩ := k
    have l := k2.1
    have eb : e ≤ t.2 := by
      have := fR_b t.1 t.2 (t.2 + 1) 0 G0 (Nat.zero_le _) wG0
      unfold fRd at k1
      rw [k1] at this
      exact this
    obtain ⟨⟨S1, S2, S3, S4, S5, S6⟩, SM⟩ := stay M1 M1 k7 k2 (fun _ _ => rfl) (fun _ _ _ => rfl) (fun _ _ _ _ => rfl) k6
    have C1 : Cs M1 (t.1, 0) o (Int32.ofNat e) p g T d := ⟨⟨k2, S1⟩, S2, S3, k5, S4, ⟨f, f2, f3, f4, f5, by rw [k7.1.2.2.2.2]; exact f6, by rw [k7.1.2.2.2.2]; exact f7, f8.eq fun a k z1 z2 => k7.2.1 _ _ (by unfold p24x; omega)⟩, S5, S6⟩
    rw [k3, k4]
    have C2 := C1.new 50 6
    have M2s := SM.new k2 50 6
    have kk := (kp.fr k7 fun k => by unfold p24x; omega).tr (kp.new k2 50)
    refine ⟨kd_new _ _ _, C2.1.1, C2.1.1, kk.w, (s168 C2.1.1 hn hB M2s.1).mono fun u M2 q s2 => ?_⟩
    unfold K168 at q
    rw [k1] at q
    obtain ⟨⟨q1, q2, M3, q3, q4⟩, q5, q6⟩ := q
    subst q4
    exact ⟨q1, fun w => absurd w (by decide), ⟨(t.1, 0), o, Int32.ofNat e, p, g, T, d, hW, C2.fm q3 (fun a k z => by omega), M2s.up q3 (fun a k z => by omega) (mT0 q5) ⟨by rw [q3.2.1 _ _ (by omega)]; exact M2s.2.1.1, fun i hi => by rw [q3.2.1 _ _ (by omega)]; exact M2s.2.1.2 i hi⟩ q2 (M2s.2.2.2.1.fr q3 ⟨by omega, by omega, fun k => by omega, fun k => by omega⟩)⟩, (kk.tr (kp.fr q3 fun k => by omega)).w⟩
  · obtain ⟨G, M0, k1, k2, k3, k4, k5, k6, k7, k8, k9⟩ := k
    refine ⟨k2, v01, fun M5 s5 e5 => ?_⟩
    have rB : ∀ a k, ¬ (a = 23 ∧ (k = 9 ∨ k = 10)) → sm_rv M5 a k = sm_rv M0 a k := fun a k z => by
      rw [e5]
      show sm_rv M1 a k = _
      rw [k9, rv_wR, if_neg (by omega), rv_wR, if_neg (by omega)]
    have iB : ∀ a k, iV M5 a k = iV M0 a k := fun a k => by rw [e5, k9]; rfl
    have jB : ∀ a k, ¬ a = 164 → jV M5 a k = jV M0 a k := fun a k z => by rw [e5, jV_wJ, if_neg (fun y => z y.1), k9]; rfl
    have e24 : iV M0 24 1 = 0 := by rw [← iB, e5]; exact k6
    obtain ⟨⟨S1, S2, S3, S4, S5, S6⟩, SM⟩ := stay M0 M5 k8 s5 iB jB (fun a k z _ => rB a k z) e24
    have C1 : Cs M5 (t.1, 0) o (-1) p (gW G, gK G, gJ G) T d := ⟨⟨s5, S1⟩, S2, S3, by rw [e5]; exact k5, S4, ⟨f2, f, f4, f3, fun z => f5 z.symm, by rw [e5]; show sm_rv M1 23 9 = _; rw [k9, rv_wR, if_neg (by omega), rv_wR, if_pos ⟨rfl, rfl⟩], by rw [e5]; show sm_rv M1 23 10 = _; rw [k9, rv_wR, if_pos ⟨rfl, rfl⟩], k7.eq fun a k z1 z2 => by rw [e5]; rfl⟩, S5, S6⟩
    have kk : kz M M5 := (kp.fr k8 fun k => by unfold p24x; omega).tr (b := 0) ⟨⟨fun k => iB 0 k, by rw [e5, k9]; rfl⟩, by rw [e5, k9]; show M0.1 ≤ _; omega, by rw [e5, k9]; show M0.2.1 ≤ _; omega⟩
    refine ⟨s5, kk.w, (s168 s5 hn hB SM.1).mono fun u M2 q s2 => ?_⟩
    unfold K168 at q
    rw [k1] at q
    obtain ⟨⟨q1, q2, q3, q4, q5⟩, q6, q7⟩ := q
    have hj : jV M2 164 0 = u.toInt64 := by rw [q7.2.2 _ _ (by unfold p168; omega), e5, jV_wJ, if_pos ⟨rfl, rfl⟩, k4, q4]
    refine ⟨q2, fun _ => hj, ⟨(t.1, 0), o, -1, p, (gW G, gK G, gJ G), T, d, ⟨hW.1, k3.F, hW.2.2.1, hW.2.2.2⟩, C1.fm q7 (fun a k z => by unfold p168; omega), ?_⟩, (kk.tr (kp.fr q7 fun k => by unfold p168; omega)).w⟩
    obtain ⟨m1, m2, m3, m4, m5, m6, m7, m8⟩ := SM
    exact ⟨mT0 q6, ⟨by rw [q7.2.1 _ _ (by unfold p168; omega)]; exact m2.1, fun i hi => by rw [q7.2.1 _ _ (by unfold p168; omega)]; exact m2.2 i hi⟩, q3, m4.fr q7 ⟨by unfold p168; omega, by unfold p168; omega, fun k => by unfold p168; omega, fun k => by unfold p168; omega⟩, q5, m6.eq ⟨q7.2.1 _ _ (by unfold p168; omega), q7.2.1 _ _ (by unfold p168; omega), q7.2.1 _ _ (by unfold p168; omega), q7.2.1 _ _ (by unfold p168; omega)⟩ fun a k z1 z2 => q7.2.1 _ _ (by unfold p168; omega), m7.fr q7 fun a z1 z2 => by unfold p168; omega, m8.fr q7 fun a k z => by unfold p168; omega⟩
theorem mTb.keep {M M2 : sm_M} {T : Tt} (h : mTb M T) (hT : wT T) (e1 : iV M2 116 43 = iV M 116 43 ∧ iV M2 116 44 = iV M 116 44 ∧ iV M2 116 33 = iV M 116 33 ∧ iV M2 116 34 = iV M 116 34) (e : ∀ a k, (a = 136 ∧ k < 300 ∨ a = 135 ∧ k < 4800 ∨ a = 137 ∧ k < 5100 ∨ a = 139 ∧ k < 60 ∨ (a = 138 ∨ a = 140) ∧ k < 1920) → iV M2 a k = iV M a k) : mTb M2 T := by
  obtain ⟨⟨h1, h2, h3, h4⟩, h5, h6⟩ := h
  obtain ⟨a1, a2, a3, a4⟩ := e1
  have hE := hT.1
  refine ⟨⟨by rw [a1]; exact h1, by rw [a2]; exact h2, by rw [a3]; exact h3, by rw [a4]; exact h4⟩, fun p hp => ?_, fun x hx => ?_⟩
  · obtain ⟨b1, b2, b3⟩ := h5 p hp
    have w := (hT.2.1 p hp).1.2
    exact ⟨by rw [e _ _ (by omega)]; exact b1, fun i hi => by rw [e _ _ (by omega)]; exact b2 i hi, fun i hi => by rw [e _ _ (by omega)]; exact b3 i hi⟩
  · obtain ⟨b1, b2⟩ := h6 x hx
    have w := (hT.2.2 x hx).1
    exact ⟨by rw [e _ _ (by omega)]; exact b1, fun i hi => by rw [e _ _ (by omega), e _ _ (by omega)]; exact b2 i hi⟩
theorem oHyph {M : sm_M} (h : Rl M) : sm_cI 55 [.ref 23, .ref 164] M (fun v M1 => SH M1 ∧ kp M M1 ∧ sm_cI 182 [.ref 116] M1 (fun u M2 => SH M2 → Zz M v u.toInt64 M2)) := by
  obtain ⟨t, o, x, p, g, T, d, hW, hC, hM⟩ := h
  obtain ⟨⟨hS, hN⟩, h1, h2, h3, h4, h5, h6, h7⟩ := hC
  have hn : t.2 ≤ 8192 := h1.1
  have hB : ∀ i, i < t.2 → t.1 i < 256 := fun i hi => (h1.2.2 i hi).1
  obtain ⟨f, f2, f3, f4, f5, f6, f7, f8⟩ := h6
  have hff := fH_s f3
  have hff2 := fH_s f4
  have stay : ∀ (M1 B : sm_M), Fr (p56 f2) M M1 → SH B → (∀ a k, iV B a k = iV M1 a k) → (∀ a k, ¬ a = 164 → jV B a k = jV M1 a k) → (∀ a k, ¬ (a = 23 ∧ (k = 11 ∨ k = 12)) → sm_rv B a k = sm_rv M1 a k) → iV M1 24 1 = 0 → (NM B ∧ cY B 24 t.1 0 ∧ cY B 26 o.1 o.2 ∧ cP B p.1 p.2.1 p.2.2.1 p.2.2.2 ∧ C5 B g ∧ C7 B d) ∧ Ms B t o x p g T d := fun M1 B F sB eB ejB erB e24 => by
    have ii : ∀ a k, ¬ p56 f2 a k → iV B a k = iV M a k := fun a k z => by rw [eB]; exact F.2.1 a k z
    have jj : ∀ a k, ¬ p56 f2 a k → ¬ a = 164 → jV B a k = jV M a k := fun a k z w => by rw [ejB a k w]; exact F.2.2 a k z
    have rr : ∀ k, ¬ (k = 11 ∨ k = 12) → sm_rv B 23 k = sm_rv M 23 k := fun k z => by rw [erB _ _ (by omega), F.1.2.2.2.2]
    refine ⟨⟨hN.eq fun a k z => ii _ _ (by unfold p56; omega), cY0 (by rw [eB]; exact e24), ⟨h2.1, by rw [ii _ _ (by unfold p56; omega)]; exact h2.2.1, fun i hi => by rw [ii _ _ (by unfold p56; omega)]; exact h2.2.2 i hi⟩, ⟨by rw [ii _ _ (by unfold p56; omega)]; exact h4.1, by rw [ii _ _ (by unfold p56; omega)]; exact h4.2.1, fun i hi => by rw [ii _ _ (by unfold p56; omega), ii _ _ (by unfold p56; omega)]; exact h4.2.2 i hi⟩, ?_, ?_⟩, hM.cp (fun a k z1 z2 => ii _ _ (by unfold p56; omega)) (fun a k z1 z2 => jj _ _ (by unfold p56; omega) (by omega))⟩
    · obtain ⟨u, u2, v1, v2, v3, v4, v5, v6⟩ := h5
      have : u = 42 ∨ u = 55 := v1
      exact ⟨u, u2, v1, v2, v3, by rw [rr _ (by omega)]; exact v4, by rw [rr _ (by omega)]; exact v5, v6.eq (fun a k z1 z2 => ii _ _ (by unfold p56; omega))⟩
    · obtain ⟨s, s2, v1, v2, v3, v4, v5, v6, v7, v8⟩ := h7
      have q1 : s = 88 ∨ s = 102 := v1
      have q2 : s2 = 88 ∨ s2 = 102 := v2
      refine ⟨s, s2, v1, v2, v3, by rw [rr _ (by omega)]; exact v4, by rw [rr _ (by omega)]; exact v5, v6.eq (fun a k z1 z2 => ii _ _ (by unfold p56; omega)) (fun a k z1 z2 => jj _ _ (by unfold p56; omega) (by omega)), v7.eq (fun a k z1 z2 => ii _ _ (by unfold p56; omega)) (fun a k z1 z2 => jj _ _ (by unfold p56; omega) (by omega)), ?_⟩
      have e15 : iV B 23 15 = iV M 23 15 := ii _ _ (by unfold p56; omega)
      cases d with
      | none => exact e15.trans v8
      | some D => exact ⟨by rw [e15]; exact v8.1, v8.2.1.eq (fun a k z1 z2 => ii _ _ (by unfold p56; omega)) (fun a k z1 z2 => jj _ _ (by unfold p56; omega) (by omega)), v8.2.2.eq (fun a k z1 z2 => ii _ _ (by unfold p56; omega)) (fun a k z1 z2 => jj _ _ (by unfold p56; omega) (by omega))⟩
  refine g55_0 hS ((s56 hS hN f3 f4 f6 f7 h1).mono (fun r M2 k => ?_) (fun v M1 k => ?_))
  · obtain ⟨e, M1, k1, k2, k3, k4, k5, k6, k7⟩ := k
    obtain ⟨⟨S1, S2, S3, S4, S5, S6⟩, SM⟩ := stay M1 M1 k7 k2 (fun _ _ => rfl) (fun _ _ _ => rfl) (fun _ _ _ => rfl) k6
    have C1 : Cs M1 (t.1, 0) o (Int32.ofNat e) p g T d := ⟨⟨k2, S1⟩, S2, S3, k5, S4, S5, ⟨f, f2, f3, f4, f5, by rw [k7.1.2.2.2.2]; exact f6, by rw [k7.1.2.2.2.2]; exact f7, f8.eq (fun a k z1 z2 => k7.2.1 _ _ (by unfold p56; omega)) fun k => k7.2.2 _ _ (by unfold p56; omega)⟩, S6⟩
    rw [k3, k4]
    have C2 := C1.new 50 6
    have M2s := SM.new k2 50 6
    have kk := (kp.fr k7 fun k => by unfold p56; omega).tr (kp.new k2 50)
    refine ⟨kd_new _ _ _, C2.1.1, C2.1.1, kk.w, (s182 C2.1.1 hn hB M2s.1).mono fun u M2 q s2 => ?_⟩
    unfold K182 at q
    rw [k1] at q
    obtain ⟨⟨q1, q2, q3⟩, q5, q6⟩ := q
    obtain ⟨m1, m2, m3, m4, m5, m6, m7, m8⟩ := M2s
    refine ⟨q1, fun w => absurd w (by decide), ⟨(t.1, 0), o, Int32.ofNat e, p, g, T, d, hW, C2.fm q6 (fun a k z => by unfold p182; omega), mT0 q5, ⟨by rw [q6.2.1 _ _ (by unfold p182; omega)]; exact m2.1, fun i hi => by rw [q6.2.1 _ _ (by unfold p182; omega)]; exact m2.2 i hi⟩, q2, m4.fr q6 ⟨by unfold p182; omega, by unfold p182; omega, fun k => by unfold p182; omega, fun k => by unfold p182; omega⟩, m5.eq (q6.2.1 _ _ (by unfold p182; omega)) (q6.2.1 _ _ (by unfold p182; omega)) (fun a k z => q6.2.1 _ _ (by unfold p182; omega)), ?_, m7.fr q6 fun a z1 z2 => by unfold p182; omega, m8.fr q6 fun a k z => by unfold p182; omega⟩, (kk.tr (kp.fr q6 fun k => by unfold p182; omega)).w⟩
    refine m6.keep hW.2.2.1 ⟨q3.2.1 _ _ ?_, q3.2.1 _ _ ?_, q3.2.1 _ _ ?_, q3.2.1 _ _ ?_⟩ fun a k z => q3.2.1 _ _ ?_
    · unfold pmh; omega
    · unfold pmh; omega
    · unfold pmh; omega
    · unfold pmh; omega
    · unfold pmh; omega
  · obtain ⟨G, M0, k1, k2, k3, k4, k5, k6, k7, k8, k9⟩ := k
    refine ⟨k2, v01, fun M5 s5 e5 => ?_⟩
    have rB : ∀ a k, ¬ (a = 23 ∧ (k = 11 ∨ k = 12)) → sm_rv M5 a k = sm_rv M0 a k := fun a k z => by
      rw [e5]
      show sm_rv M1 a k = _
      rw [k9, rv_wR, if_neg (by omega), rv_wR, if_neg (by omega)]
    have iB : ∀ a k, iV M5 a k = iV M0 a k := fun a k => by rw [e5, k9]; rfl
    have jB : ∀ a k, ¬ a = 164 → jV M5 a k = jV M0 a k := fun a k z => by rw [e5, jV_wJ, if_neg (fun y => z y.1), k9]; rfl
    have e24 : iV M0 24 1 = 0 := by rw [← iB, e5]; exact k6
    obtain ⟨⟨S1, S2, S3, S4, S5, S6⟩, SM⟩ := stay M0 M5 k8 s5 iB jB rB e24
    have C1 : Cs M5 (t.1, 0) o (-1) p g G d := ⟨⟨s5, S1⟩, S2, S3, by rw [e5]; exact k5, S4, S5, ⟨f2, f, f4, f3, fun z => f5 z.symm, by rw [e5]; show sm_rv M1 23 11 = _; rw [k9, rv_wR, if_neg (by omega), rv_wR, if_pos ⟨rfl, rfl⟩], by rw [e5]; show sm_rv M1 23 12 = _; rw [k9, rv_wR, if_pos ⟨rfl, rfl⟩], k7.eq (fun a k z1 z2 => by rw [e5]; rfl) fun k => by rw [e5, jV_wJ, if_neg (by omega)]⟩, S6⟩
    have kk : kz M M5 := (kp.fr k8 fun k => by unfold p56; omega).tr (b := 0) ⟨⟨fun k => iB 0 k, by rw [e5, k9]; rfl⟩, by rw [e5, k9]; show M0.1 ≤ _; omega, by rw [e5, k9]; show M0.2.1 ≤ _; omega⟩
    refine ⟨s5, kk.w, (s182 s5 hn hB SM.1).mono fun u M2 q s2 => ?_⟩
    unfold K182 at q
    rw [k1] at q
    obtain ⟨⟨q1, q2, q3, q4, q5⟩, q6, q7⟩ := q
    have hj : jV M2 164 0 = u.toInt64 := by rw [q7.2.2 _ _ (by unfold p182; omega), e5, jV_wJ, if_pos ⟨rfl, rfl⟩, k4, q4]
    obtain ⟨m1, m2, m3, m4, m5, m6, m7, m8⟩ := SM
    exact ⟨q2, fun _ => hj, ⟨(t.1, 0), o, -1, p, g, G, d, ⟨hW.1, hW.2.1, k3, hW.2.2.2⟩, C1.fm q7 (fun a k z => by unfold p182; omega), mT0 q6, ⟨by rw [q7.2.1 _ _ (by unfold p182; omega)]; exact m2.1, fun i hi => by rw [q7.2.1 _ _ (by unfold p182; omega)]; exact m2.2 i hi⟩, q3, m4.fr q7 ⟨by unfold p182; omega, by unfold p182; omega, fun k => by unfold p182; omega, fun k => by unfold p182; omega⟩, m5.eq (q7.2.1 _ _ (by unfold p182; omega)) (q7.2.1 _ _ (by unfold p182; omega)) (fun a k z => q7.2.1 _ _ (by unfold p182; omega)), q5, m7.fr q7 fun a z1 z2 => by unfold p182; omega, m8.fr q7 fun a k z => by unfold p182; omega⟩, (kk.tr (kp.fr q7 fun k => by unfold p182; omega)).w⟩
end OPR
