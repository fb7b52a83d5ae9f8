/-! BOTH SIDES: set, place, clear; the law's loop. -/
section LAW
variable {t o : Tp} {x : Int32} {p : Pg} {g : Fg} {T : Tt} {d : Dg}
theorem oSet {M : sm_M} {a b c e f : Int32} (h : Rl M) : sm_cI 85 [.ref 23, .int (a), .int (b), .int (c), .int (e), .int (f), .ref 164] M (fun v M1 => SH M1 ∧ kp M M1 ∧ sm_cI 198 [.ref 116, .int (a), .int (b), .int (c), .int (e), .int (f)] M1 (fun u M2 => SH M2 → Zz M v u.toInt64 M2)) := by
  obtain ⟨t, o, x, p, g, T, d, hW, hC, hM⟩ := h
  obtain ⟨⟨hS, hN⟩, h1, h2, h3, h4, h5, h6, h7⟩ := hC
  obtain ⟨fn, fn2, f3, f4, f5, f6, f7, f8⟩ := h5
  obtain ⟨th, th2, y3, y4, y5, y6, y7, y8⟩ := h6
  obtain ⟨s, s2, z3, z4, z5, z6, z7, z8, z9, z10⟩ := h7
  have hff : fn = 42 ∨ fn = 55 := f3
  have hth := fH_s y3
  have hs : s = 88 ∨ s = 102 := z3
  have hs2 : s2 = 88 ∨ s2 = 102 := z4
  -- what stays on this side
  have stay : ∀ (M1 B : sm_M), Fr (pset s2 th) M M1 → SH B → (∀ a k, ¬ (a = 23 ∧ k = 15) → iV B a k = iV M1 a k) → (∀ a k, ¬ a = 164 → jV B a k = jV M1 a k) → (∀ k, ¬ (k = 13 ∨ k = 14) → sm_rv B 23 k = sm_rv M1 23 k) → (NM B ∧ cY B 24 t.1 t.2 ∧ cY B 26 o.1 o.2 ∧ iV B 23 16 = x ∧ cP B p.1 p.2.1 p.2.2.1 p.2.2.2 ∧ C5 B g ∧ C6 B T) ∧ Ms B t o x p g T d ∧ (∀ a k, s ≤ a → a ≤ s + 13 → iV B a k = iV M a k) ∧ (∀ a k, s ≤ a → a ≤ s + 13 → jV B a k = jV M a k) := fun M1 B F sB eB ejB erB => by
    have ii : ∀ a k, ¬ pset s2 th a k → ¬ (a = 23 ∧ k = 15) → iV B a k = iV M a k := fun a k z w => by rw [eB a k w]; exact F.2.1 a k z
    have jj : ∀ a k, ¬ pset s2 th a k → ¬ a = 164 → jV B a k = jV M a k := fun a k z w => by rw [ejB a k w]; exact F.2.2 a k z
    have rr : ∀ k, ¬ (k = 13 ∨ k = 14) → sm_rv B 23 k = sm_rv M 23 k := fun k z => by rw [erB _ z, F.1.2.2.2.2]
    refine ⟨⟨hN.eq fun a k z => ii _ _ (by unfold pset; omega) (by omega), ⟨h1.1, by rw [ii _ _ (by unfold pset; omega) (by omega)]; exact h1.2.1, fun i hi => by rw [ii _ _ (by unfold pset; omega) (by omega)]; exact h1.2.2 i hi⟩, ⟨h2.1, by rw [ii _ _ (by unfold pset; omega) (by omega)]; exact h2.2.1, fun i hi => by rw [ii _ _ (by unfold pset; omega) (by omega)]; exact h2.2.2 i hi⟩, by rw [ii _ _ (by unfold pset; omega) (by omega)]; exact h3, ⟨by rw [ii _ _ (by unfold pset; omega) (by omega)]; exact h4.1, by rw [ii _ _ (by unfold pset; omega) (by omega)]; exact h4.2.1, fun i hi => by rw [ii _ _ (by unfold pset; omega) (by omega), ii _ _ (by unfold pset; omega) (by omega)]; exact h4.2.2 i hi⟩, ⟨fn, fn2, f3, f4, f5, by rw [rr _ (by omega)]; exact f6, by rw [rr _ (by omega)]; exact f7, f8.eq fun a k w1 w2 => ii _ _ (by unfold pset; omega) (by omega)⟩, ⟨th, th2, y3, y4, y5, by rw [rr _ (by omega)]; exact y6, by rw [rr _ (by omega)]; exact y7, y8.eq (fun a k w1 w2 => ii _ _ (by unfold pset; omega) (by omega)) fun k => jj _ _ (by unfold pset; omega) (by omega)⟩⟩, hM.cp (fun a k w1 w2 => ii _ _ (by unfold pset; omega) (by omega)) (fun a k w1 w2 => jj _ _ (by unfold pset; omega) (by omega)), fun a k w1 w2 => ii _ _ (by unfold pset; omega) (by omega), fun a k w1 w2 => jj _ _ (by unfold pset; omega) (by omega)⟩
  have hP := hW.1
  refine g85_0 hS ((s86 hS z3 z4 y3 f3 hP hW.2.1 hW.2.2.1 z6 z7 f6 y6 h4 f8 y8 z9).mono (fun r M2 k => ?_) (fun v M1 k => ?_))
  · obtain ⟨M1, k1, k2, k3, k4⟩ := k
    have s1 : SH M1 := k2.SH hS
    obtain ⟨⟨S1, S2, S3, S4, S5, S6, S7⟩, SM, Si, Sj⟩ := stay M1 M1 k2 s1 (fun _ _ _ => rfl) (fun _ _ _ => rfl) (fun _ _ => rfl)
    have C1 : Cs M1 t o x p g T d := by
      refine ⟨⟨s1, S1⟩, S2, S3, S4, S5, S6, S7, s, s2, z3, z4, z5, by rw [k2.1.2.2.2.2]; exact z6, by rw [k2.1.2.2.2.2]; exact z7, z8.eq Si Sj, k3, ?_⟩
      have e15 : iV M1 23 15 = iV M 23 15 := k2.2.1 _ _ (by unfold pset; omega)
      cases d with
      | none => exact e15.trans z10
      | some D => exact ⟨by rw [e15]; exact z10.1, z10.2.1.eq Si Sj, z10.2.2.eq Si Sj⟩
    have kk : kz M M1 := kp.fr k2 fun k => by unfold pset; omega
    -- the other side, behind a throw
    have go : ∀ (kd : Nat) (v : Int32), (¬ v = 0) → ((¬ okS a b c e f ∧ v = 1) ∨ (okS a b c e f ∧ p.2.2.1 = 0 ∧ v = 2) ∨ (okS a b c e f ∧ ¬ p.2.2.1 = 0 ∧ 600 < un (uk (hyB T p.1 p.2.2.1 e.toNatClampNeg) p.1 p.2.2.1) p.2.2.1 ∧ v = 3)) → SH (sm_new M1 kd 6) ∧ SH (sm_new M1 kd 6) ∧ kp M (sm_new M1 kd 6) ∧ sm_cI 198 [.ref 116, .int (a), .int (b), .int (c), .int (e), .int (f)] (sm_new M1 kd 6) (fun u M2 => SH M2 → Zz M v u.toInt64 M2) := fun kd v hv hh => by
      have C2 := C1.new kd 6
      have M2s := SM.new s1 kd 6
      have kk2 := kk.tr (kp.new s1 kd)
      obtain ⟨m1, m2, m3, m4, m5, m6, m7, m8⟩ := M2s
      refine ⟨C2.1.1, C2.1.1, kk2.w, (s198 C2.1.1 hP hW.2.1 hW.2.2.1 m4 m5 m6 m7).mono fun u M3 q s3 => ?_⟩
      have fin : ∀ {qq : Nat → Nat → Prop}, Fr qq (sm_new M1 kd 6) M3 → (∀ a k, qq a k → a = 116 ∧ k = 0 ∨ p199 a k) → iV M3 116 0 = v → Zz M v u.toInt64 M3 := fun {qq} F hq h0 => by
        have hq2 : ∀ a k, ¬ (a = 116 ∧ k = 0 ∨ p199 a k) → ¬ qq a k := fun a k w y => w (hq a k y)
        exact ⟨h0, fun w => absurd w hv, ⟨t, o, x, p, g, T, d, hW, C2.fm F (fun a k w => hq2 _ _ (by unfold p199; omega)), Ms.sc ⟨m1, m2, m3, m4, m5, m6, m7, m8⟩ F (fun a k w => hq2 _ _ (by unfold p199; omega)) (m1.fr F ⟨hq2 _ _ (by unfold p199; omega), fun k => hq2 _ _ (by unfold p199; omega)⟩)⟩, (kk2.tr (kp.fr F fun k => hq2 _ _ (by unfold p199; omega))).w⟩
      rcases q with q | q | q | q
      · rcases hh with w | w | w
        · exact fin q.2.2.2 (fun a k y => Or.inl y) (by rw [q.2.1, w.2])
        · exact absurd w.1 q.1
        · exact absurd w.1 q.1
      · rcases hh with w | w | w
        · exact absurd q.1 w.1
        · exact fin q.2.2.2.2 (fun a k y => Or.inl y) (by rw [q.2.2.1, w.2.2])
        · exact absurd q.2.1 w.2.1
      · rcases hh with w | w | w
        · exact absurd q.1 w.1
        · exact absurd w.2.1 q.2.1
        · exact fin q.2.2.2.2.2 (fun a k y => y) (by rw [q.2.2.2.1, w.2.2.2])
      · rcases hh with w | w | w
        · exact absurd q.1 w.1
        · exact absurd w.2.1 q.2.1
        · have := q.2.2.1
          have := w.2.2.1
          omega
    rw [k1]
    rcases k4 with w | w | w
    · rw [w.2]
      exact Or.inl ⟨kd_new _ _ _, go 48 1 (by decide) (Or.inl ⟨w.1, rfl⟩)⟩
    · rw [w.2.2]
      exact Or.inr (Or.inl ⟨kd_new _ _ _, go 49 2 (by decide) (Or.inr (Or.inl ⟨w.1, w.2.1, rfl⟩))⟩)
    · rw [w.2.2.2]
      exact Or.inr (Or.inr ⟨kd_new _ _ _, go 51 3 (by decide) (Or.inr (Or.inr ⟨w.1, w.2.1, w.2.2.1, rfl⟩))⟩)
  · obtain ⟨k0, kok, kpn0, k6, kv, kw, kl, kc, kcl, M0, kf, ke⟩ := k
    refine ⟨k0, v01, fun M5 s5 e5 => ?_⟩
    have iB : ∀ a k, ¬ (a = 23 ∧ k = 15) → iV M5 a k = iV M0 a k := fun a k w => by rw [e5, iV_wJ, ke, iV_wI, if_neg w]; rfl
    have jB : ∀ a k, ¬ a = 164 → jV M5 a k = jV M0 a k := fun a k w => by rw [e5, jV_wJ, if_neg (fun y => w y.1), ke, jV_wI]; rfl
    have rB : ∀ k, sm_rv M5 23 k = if k = 14 then some s else if k = 13 then some s2 else sm_rv M0 23 k := fun k => by
      rw [e5, ke]
      show sm_rv (sm_wR (sm_wR M0 23 13 (some s2)) 23 14 (some s)) 23 k = _
      rw [rv_wR, rv_wR]
      by_cases w1 : k = 14
      · rw [if_pos ⟨rfl, w1⟩, if_pos w1]
      · rw [if_neg (fun y => w1 y.2), if_neg w1]
        by_cases w2 : k = 13
        · rw [if_pos ⟨rfl, w2⟩, if_pos w2]
        · rw [if_neg (fun y => w2 y.2), if_neg w2]
    obtain ⟨⟨S1, S2, S3, S4, S5, S6, S7⟩, SM, Si, Sj⟩ := stay M0 M5 kf s5 iB jB (fun k w => by rw [rB, if_neg (by omega), if_neg (by omega)])
    have c5 : cK M5 s2 (d2 (d0 T p.1 p.2.1 p.2.2.1 g.1 g.2.1 g.2.2 e.toNatClampNeg a.toNatClampNeg b.toNatClampNeg c.toNatClampNeg) f.toNatClampNeg) := kc.eq (fun a k w1 w2 => by rw [e5]; rfl) (fun a k w1 w2 => by rw [e5, jV_wJ, if_neg (by omega)])
    have cl5 : cLn M5 s2 (d2 (d0 T p.1 p.2.1 p.2.2.1 g.1 g.2.1 g.2.2 e.toNatClampNeg a.toNatClampNeg b.toNatClampNeg c.toNatClampNeg) f.toNatClampNeg) := kcl.eq (fun a k w1 w2 => by rw [e5]; rfl) (fun a k w1 w2 => by rw [e5, jV_wJ, if_neg (by omega)])
    have C1 : Cs M5 t o x p g T (some (d2 (d0 T p.1 p.2.1 p.2.2.1 g.1 g.2.1 g.2.2 e.toNatClampNeg a.toNatClampNeg b.toNatClampNeg c.toNatClampNeg) f.toNatClampNeg)) := by
      refine ⟨⟨s5, S1⟩, S2, S3, S4, S5, S6, S7, s2, s, z4, z3, fun w => z5 w.symm, ?_, ?_, zS.ofK c5 kw, z8.eq Si Sj, ?_, c5, cl5⟩
      · rw [rB, if_neg (by omega), if_pos rfl]
      · rw [rB, if_pos rfl]
      · rw [e5, iV_wJ, ke, iV_wI, if_pos ⟨rfl, rfl⟩]; decide
    have kk : kz M M5 := (kp.fr kf fun k => by unfold pset; omega).tr (b := 0) ⟨⟨fun k => iB 0 k (by omega), by rw [e5, ke]; rfl⟩, by rw [e5, ke]; show M0.1 ≤ _; omega, by rw [e5, ke]; show M0.2.1 ≤ _; omega⟩
    obtain ⟨m1, m2, m3, m4, m5, m6, m7, m8⟩ := SM
    refine ⟨s5, kk.w, (s198 s5 hP hW.2.1 hW.2.2.1 m4 m5 m6 m7).mono fun u M3 q s3 => ?_⟩
    rcases q with q | q | q | q
    · exact absurd kok q.1
    · exact absurd q.2.1 kpn0
    · have := q.2.2.1
      omega
    · obtain ⟨q1, q2, q3, r1, r2, r3, r4, r5, r6, r7, r8⟩ := q
      refine ⟨r2, fun _ => ?_, ⟨t, o, x, p, g, T, some _, ⟨hW.1, hW.2.1, hW.2.2.1, kw, kl⟩, C1.fm r8 (fun a k w => by unfold p198; omega), m1.fr r8 ⟨by unfold p198; omega, fun k => by unfold p198; omega⟩, ⟨by rw [r8.2.1 _ _ (by unfold p198; omega)]; exact m2.1, fun i hi => by rw [r8.2.1 _ _ (by unfold p198; omega)]; exact m2.2 i hi⟩, by rw [r8.2.1 _ _ (by unfold p198; omega)]; exact m3, m4.fr r8 ⟨by unfold p198; omega, by unfold p198; omega, fun k => by unfold p198; omega, fun k => by unfold p198; omega⟩, m5.eq (r8.2.1 _ _ (by unfold p198; omega)) (r8.2.1 _ _ (by unfold p198; omega)) (fun a k w => r8.2.1 _ _ (by unfold p198; omega)), m6.eq ⟨r8.2.1 _ _ (by unfold p198; omega), r8.2.1 _ _ (by unfold p198; omega), r8.2.1 _ _ (by unfold p198; omega), r8.2.1 _ _ (by unfold p198; omega)⟩ fun a k w1 w2 => r8.2.1 _ _ (by unfold p198; omega), zM.ofK r6 r4, by rw [r3]; decide, r6, r7⟩, (kk.tr (kp.fr r8 fun k => by unfold p198; omega)).w⟩
      rw [r8.2.2 _ _ (by unfold p198; omega), e5, jV_wJ, if_pos ⟨rfl, rfl⟩, kv, r1]
/-- the check of the answers -/
theorem chk {M M2 : sm_M} {v : Int32} {u : Int64} {N F : Prop} (z : Zz M v u M2) (hN : N) : (((p161_0 M2) = v → ((v = 0 → (vp_in (0 : Int32) 1) ∧ (((jV M2 164 (0 : Int32).toNatClampNeg) = u → N) ∧ (¬ (jV M2 164 (0 : Int32).toNatClampNeg) = u → F))) ∧ (¬ v = 0 → N))) ∧ (¬ (p161_0 M2) = v → F)) :=
  ⟨fun _ => ⟨fun c => ⟨v01, fun _ => hN, fun c2 => absurd (z.2.1 c) c2⟩, fun _ => hN⟩, fun c => absurd z.1 c⟩
def K225 (A : sm_M) (n : Nat) (v : Int32) (M2 : sm_M) : Prop := v = 1 ∧ M2.1 ≤ A.1 + n ∧ M2.2.1 ≤ A.2.1 + 6 * n
theorem law_1 {A : sm_M} {L : Nat} (hL : L ≤ 3072) : ∀ (r i n : Nat), L - i ≤ r → i ≤ L → 6 * n ≤ i → ∀ M, Rl M → sm_ln M 0 = L → M.1 ≤ A.1 + n → M.2.1 ≤ A.2.1 + 6 * n → sm_w 225 (23, [some (.ref 0), some (.ref 23), some (.ref 116), some (.ref 164), some (.int (Int32.ofNat i)), none, none, none], []) M (rI (K225 A 512)) := by
  intro r
  induction r with
  | zero =>
    intro i n hr hi hn M hR hl h1 h2
    have hS : SH M := by obtain ⟨t, o, x, p, g, T, d, hW, hC, hM⟩ := hR; exact hC.1.1
    refine g225_1 hS ⟨fun _ => ⟨rfl, by omega, by omega⟩, fun c => absurd ?_ c⟩
    rw [hl, z_lt, z_sub, o_ti (by omega), o_ti (by omega), show (6 : Int32).toInt = 6 from rfl]
    · omega
    · rw [o_ti (by omega), show (6 : Int32).toInt = 6 from rfl]; omega
    · rw [o_ti (by omega), show (6 : Int32).toInt = 6 from rfl]; omega
  | succ r ih =>
    intro i n hr hi hn M hR hl h1 h2
    have hS : SH M := by obtain ⟨t, o, x, p, g, T, d, hW, hC, hM⟩ := hR; exact hC.1.1
    refine g225_1 hS ⟨fun _ => ⟨rfl, by omega, by omega⟩, fun c => ?_⟩
    have hin : i + 6 ≤ L := by
      rcases Nat.lt_or_ge L (i + 6) with y | y
      · refine absurd ?_ c
        rw [hl, z_lt, z_sub, o_ti (by omega), o_ti (by omega), show (6 : Int32).toInt = 6 from rfl]
        · omega
        · rw [o_ti (by omega), show (6 : Int32).toInt = 6 from rfl]; omega
        · rw [o_ti (by omega), show (6 : Int32).toInt = 6 from rfl]; omega
      · exact y
    -- on to the next call
    have next : ∀ M2, SH M2 → Rl M2 → kp M M2 → sm_w 225 (1127, [some (.ref 0), some (.ref 23), some (.ref 116), some (.ref 164), some (.int (Int32.ofNat i)), none, none, none], []) M2 (rI (K225 A 512)) := fun M2 s2 R2 k2 => by
      refine g225_2 s2 ?_
      rw [show Int32.ofNat i + 6 = Int32.ofNat (i + 6) from (Int32.ofNat_add i 6).symm]
      have a1 := k2.2.1
      have a2 := k2.2.2
      exact ih (i + 6) (n + 1) (by omega) (by omega) (by omega) M2 R2 (k2.1.2.trans hl) (by omega) (by omega)
    have zn : ∀ {v : Int32} {u : Int64} {M2 : sm_M}, SH M2 → Zz M v u M2 → sm_w 225 (1127, [some (.ref 0), some (.ref 23), some (.ref 116), some (.ref 164), some (.int (Int32.ofNat i)), none, none, none], []) M2 (rI (K225 A 512)) := fun s2 z => next _ s2 z.2.2.1 z.2.2.2
    have e1 : Int32.ofNat i + 1 = Int32.ofNat (i + 1) := o_s i
    have e2 : Int32.ofNat i + 2 = Int32.ofNat (i + 2) := (Int32.ofNat_add i 2).symm
    have e3 : Int32.ofNat i + 3 = Int32.ofNat (i + 3) := (Int32.ofNat_add i 3).symm
    have e4 : Int32.ofNat i + 4 = Int32.ofNat (i + 4) := (Int32.ofNat_add i 4).symm
    have e5 : Int32.ofNat i + 5 = Int32.ofNat (i + 5) := (Int32.ofNat_add i 5).symm
    rw [e1, e2, e3, e4, e5, hl, o_cl (n := i) (by omega), o_cl (n := i + 1) (by omega), o_cl (n := i + 2) (by omega), o_cl (n := i + 3) (by omega), o_cl (n := i + 4) (by omega), o_cl (n := i + 5) (by omega)]
    have v0 : vp_in (Int32.ofNat i) L := (o_in (by omega)).mpr (by omega)
    have v1 : vp_in (Int32.ofNat (i + 1)) L := (o_in (by omega)).mpr (by omega)
    have v2 : vp_in (Int32.ofNat (i + 2)) L := (o_in (by omega)).mpr (by omega)
    have v3 : vp_in (Int32.ofNat (i + 3)) L := (o_in (by omega)).mpr (by omega)
    have v4 : vp_in (Int32.ofNat (i + 4)) L := (o_in (by omega)).mpr (by omega)
    have v5 : vp_in (Int32.ofNat (i + 5)) L := (o_in (by omega)).mpr (by omega)
    refine ⟨v0, fun _ => ?_, fun _ => ?_, fun _ => ?_, fun _ => ?_, fun _ => ?_, fun _ => ?_, fun _ => ?_, fun _ => ?_, fun _ => ?_, fun _ => ?_, fun _ => ?_, fun _ => ?_, fun _ => ?_, fun _ => ?_, fun _ => ?_, fun _ => ?_, fun _ => ?_, fun _ => ?_, fun _ => next M hS hR ⟨⟨fun _ => rfl, rfl⟩, by omega, by omega⟩⟩
    · refine ⟨v1, v2, v3, v4, v5, (oFeed hR).mono fun v M1 k => ?_⟩
      rw [k.2.1.1.2, hl, k.2.1.1.1 (i + 1), k.2.1.1.1 (i + 2), k.2.1.1.1 (i + 3), k.2.1.1.1 (i + 4), k.2.1.1.1 (i + 5)]
      exact ⟨k.1, v1, v2, v3, v4, v5, k.2.2.mono fun u M2 q s2 => chk (q s2) (zn s2 (q s2))⟩
    · refine ⟨v1, (oEnd hR).mono fun v M1 k => ?_⟩
      rw [k.2.1.1.2, hl, k.2.1.1.1 (i + 1)]
      exact ⟨k.1, v1, k.2.2.mono fun u M2 q s2 => chk (q s2) (zn s2 (q s2))⟩
    · exact (oFont hR).mono fun v M1 k => ⟨k.1, k.2.2.mono fun u M2 q s2 => chk (q s2) (zn s2 (q s2))⟩
    · exact (oHyph hR).mono fun v M1 k => ⟨k.1, k.2.2.mono fun u M2 q s2 => chk (q s2) (zn s2 (q s2))⟩
    · -- place
      intro M45 s45 e45
      obtain ⟨t, o, x, p, g, T, d, hW, hC, hM⟩ := hR
      have f45 : Fr pm0 M M45 := by rw [e45]; exact (Fr.rf _ _).wI ⟨rfl, rfl⟩
      refine ⟨fun _ => next M45 s45 ⟨t, o, x, p, g, T, d, hW, hC.fm f45 (fun a k z => by unfold pm0; omega), hM.sc f45 (fun a k z => by unfold pm0; omega) (hM.1.fr f45 ⟨by unfold pm0; omega, fun k => by unfold pm0; omega⟩)⟩ (kp.fr f45 fun k => by unfold pm0; omega).w, fun c2 => absurd ?_ c2⟩
      unfold p14_0
      rw [f45.2.1 _ _ (by unfold pm0; omega), hC.2.2.2.1, hM.2.2.1]
    · refine ⟨v1, (oRun hR).mono fun v M1 k => ?_⟩
      rw [k.2.1.1.2, hl, k.2.1.1.1 (i + 1)]
      exact ⟨k.1, v1, k.2.2.mono fun u M2 q s2 => chk (q s2) (zn s2 (q s2))⟩
    · -- clear
      obtain ⟨t, o, x, p, g, T, d, hW, hC, hM⟩ := hR
      refine (s15 hS hC.2.2.2.2.1).mono fun v M1 k s1 M62 s62 e62 M64 s64 e64 M66 s66 e66 => ?_
      obtain ⟨k1, k2, k3⟩ := k
      have C1 : Cs M1 t o x (p.1, p.2.1, 0, 0) g T d := hC.up k3 (fun a k z => by unfold p30; omega) (hC.2.1.fr k3 ⟨by unfold p30; omega, fun k => by unfold p30; omega⟩) (hC.2.2.1.fr k3 ⟨by unfold p30; omega, fun k => by unfold p30; omega⟩) (by rw [k3.2.1 _ _ (by unfold p30; omega)]; exact hC.2.2.2.1) k2
      have M1s := hM.fc k3 (fun a k z => by unfold p30; omega)
      have f66 : Fr pm0p M1 M66 := by rw [e66, e64, e62]; exact (((Fr.rf _ _).wI ⟨rfl, Or.inl rfl⟩).wI ⟨rfl, Or.inr (Or.inl rfl)⟩).wI ⟨rfl, Or.inr (Or.inr rfl)⟩
      have w0 : Ws (p.1, p.2.1, 0, 0) g T d := ⟨⟨Nat.zero_le _, fun i hi => absurd hi (Nat.not_lt_zero _), Or.inl rfl, fun hi => absurd hi (Nat.not_lt_zero _)⟩, hW.2.1, hW.2.2.1, hW.2.2.2⟩
      have M66s : Ms M66 t o x (p.1, p.2.1, 0, 0) g T d := M1s.up f66 (fun a k z => by unfold pm0p; omega) (M1s.1.fr f66 ⟨by unfold pm0p; omega, fun k => by unfold pm0p; omega⟩) ⟨by rw [f66.2.1 _ _ (by unfold pm0p; omega)]; exact M1s.2.1.1, fun i hi => by rw [f66.2.1 _ _ (by unfold pm0p; omega)]; exact M1s.2.1.2 i hi⟩ (by rw [f66.2.1 _ _ (by unfold pm0p; omega)]; exact M1s.2.2.1) ⟨by rw [e66, iV_wI, if_neg (by omega), e64, iV_wI, if_pos ⟨rfl, rfl⟩]; rfl, by rw [e66, iV_wI, if_pos ⟨rfl, rfl⟩]; rfl, fun i hi => absurd hi (Nat.not_lt_zero _)⟩
      refine ⟨fun _ => next M66 s66 ⟨t, o, x, _, g, T, d, w0, C1.fm f66 (fun a k z => by unfold pm0p; omega), M66s⟩ ((kp.fr k3 fun k => by unfold p30; omega).tr (kp.fr f66 fun k => by unfold pm0p; omega)).w, fun c2 => absurd ?_ c2⟩
      rw [k1, e62, iV_wI, if_neg (by omega)]
      exact M1s.2.2.2.1.1.symm
    · refine ⟨v1, v2, v3, v4, v5, (oSet hR).mono fun v M1 k => ?_⟩
      rw [k.2.1.1.2, hl, k.2.1.1.1 (i + 1), k.2.1.1.1 (i + 2), k.2.1.1.1 (i + 3), k.2.1.1.1 (i + 4), k.2.1.1.1 (i + 5)]
      exact ⟨k.1, v1, v2, v3, v4, v5, k.2.2.mono fun u M2 q s2 => chk (q s2) (zn s2 (q s2))⟩
    · refine ⟨v1, (oTold hR).mono fun v M1 k => ?_⟩
      rw [k.2.1.1.2, hl, k.2.1.1.1 (i + 1)]
      exact ⟨k.1, v1, k.2.2.mono fun u M2 q s2 => chk (q s2) (zn s2 (q s2))⟩
    · refine ⟨v1, v2, (oAt hR).mono fun v M1 k => ?_⟩
      rw [k.2.1.1.2, hl, k.2.1.1.1 (i + 1), k.2.1.1.1 (i + 2)]
      exact ⟨k.1, v1, v2, k.2.2.mono fun u M2 q s2 => chk (q s2) (zn s2 (q s2))⟩
    · refine ⟨v1, v2, (oLine hR).mono fun v M1 k => ?_⟩
      rw [k.2.1.1.2, hl, k.2.1.1.1 (i + 1), k.2.1.1.1 (i + 2)]
      exact ⟨k.1, v1, v2, k.2.2.mono fun u M2 q s2 => chk (q s2) (zn s2 (q s2))⟩
    · refine ⟨v1, v2, (oSpot hR).mono fun v M1 k => ?_⟩
      rw [k.2.1.1.2, hl, k.2.1.1.1 (i + 1), k.2.1.1.1 (i + 2)]
      exact ⟨k.1, v1, v2, k.2.2.mono fun u M2 q s2 => chk (q s2) (zn s2 (q s2))⟩
    · refine ⟨v1, (oText hR).mono fun v M1 k => ?_⟩
      rw [k.2.1.1.2, hl, k.2.1.1.1 (i + 1)]
      exact ⟨k.1, v1, k.2.2.mono fun u M2 q s2 => chk (q s2) (zn s2 (q s2))⟩
    · exact (oJudge hR).mono fun v M1 k => ⟨k.1, k.2.2.mono fun u M2 q s2 => chk (q s2) (zn s2 (q s2))⟩
    · exact (oParts hR).mono fun v M1 k => ⟨k.1, k.2.2.mono fun u M2 q s2 => chk (q s2) (zn s2 (q s2))⟩
    · refine ⟨v1, (oWidth hR).mono fun v M1 k => ?_⟩
      rw [k.2.1.1.2, hl, k.2.1.1.1 (i + 1)]
      exact ⟨k.1, v1, k.2.2.mono fun u M2 q s2 => chk (q s2) (zn s2 (q s2))⟩
    · refine ⟨v1, (oWord hR).mono fun v M1 k => ?_⟩
      rw [k.2.1.1.2, hl, k.2.1.1.1 (i + 1)]
      exact ⟨k.1, v1, k.2.2.mono fun u M2 q s2 => chk (q s2) (zn s2 (q s2))⟩
    · refine ⟨v1, (oCount hR).mono fun v M1 k => ?_⟩
      rw [k.2.1.1.2, hl, k.2.1.1.1 (i + 1)]
      exact ⟨k.1, v1, k.2.2.mono fun u M2 q s2 => chk (q s2) (zn s2 (q s2))⟩
end LAW
