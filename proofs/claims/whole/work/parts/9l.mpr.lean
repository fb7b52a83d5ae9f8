/-! THE REFERENCE READS PAIRS. -/
def mPt (M : sm_M) (f a1 a2 a3 : Nat) (Q : Pq) : Prop := mQt M f a1 a2 a3 Q.1 Q.2.1 Q.2.2.1 Q.2.2.2
theorem mPt.eq {M M2 : sm_M} {f a1 a2 a3 : Nat} {Q : Pq} (h : mPt M f a1 a2 a3 Q) (e0 : iV M2 116 f = iV M 116 f) (e : ∀ a k, (a = a1 ∨ a = a2 ∨ a = a3) → iV M2 a k = iV M a k) : mPt M2 f a1 a2 a3 Q := ⟨by rw [e0]; exact h.1, fun k hk => by rw [e _ _ (Or.inl rfl), e _ _ (Or.inr (Or.inl rfl)), e _ _ (Or.inr (Or.inr rfl))]; exact h.2 k hk⟩
theorem mPt.nw {M M7 M10 M13 M16 : sm_M} {f a1 a b k : Nat} {v : Int32} {Q : Pq} (h : mPt M f a1 (a1 + 1) (a1 + 2) Q) (h1 : 116 < a1) (hk : iQ Q a b = k) (hn : k = Q.1) (e7 : M7 = sm_wI M 116 f (Int32.ofNat (Q.1 + 1))) (e10 : M10 = sm_wI M7 a1 k (Int32.ofNat a)) (e13 : M13 = sm_wI M10 (a1 + 1) k (Int32.ofNat b)) (e16 : M16 = sm_wI M13 (a1 + 2) k v) : mPt M16 f a1 (a1 + 1) (a1 + 2) (tQ Q a b v) := by
  obtain ⟨n, A, B, V⟩ := Q
  have hn2 : k = n := hn
  subst hn2
  rw [tQ_n (by show ¬ iQ _ _ _ < k; rw [hk]; omega)]
  refine ⟨?_, fun j hj => ?_⟩
  · rw [e16, iV_wI, if_neg (by omega), e13, iV_wI, if_neg (by omega), e10, iV_wI, if_neg (by omega), e7, iV_wI, if_pos ⟨rfl, rfl⟩]
  · have hj2 : j < k + 1 := hj
    show iV M16 a1 j = Int32.ofNat (tp A k a j) ∧ iV M16 (a1 + 1) j = Int32.ofNat (tp B k b j) ∧ iV M16 (a1 + 2) j = ti V k v j
    by_cases e : j = k
    · subst e
      rw [tp_e, tp_e, ti_e]
      refine ⟨?_, ?_, ?_⟩
      · rw [e16, iV_wI, if_neg (by omega), e13, iV_wI, if_neg (by omega), e10, iV_wI, if_pos ⟨rfl, rfl⟩]
      · rw [e16, iV_wI, if_neg (by omega), e13, iV_wI, if_pos ⟨rfl, rfl⟩]
      · rw [e16, iV_wI, if_pos ⟨rfl, rfl⟩]
    · rw [tp_o A k a e, tp_o B k b e, ti_o V k v e]
      obtain ⟨u1, u2, u3⟩ := h.2 j (by show j < k; omega)
      refine ⟨?_, ?_, ?_⟩
      · rw [e16, iV_wI, if_neg (by omega), e13, iV_wI, if_neg (by omega), e10, iV_wI, if_neg (by omega), e7, iV_wI, if_neg (by omega)]; exact u1
      · rw [e16, iV_wI, if_neg (by omega), e13, iV_wI, if_neg (by omega), e10, iV_wI, if_neg (by omega), e7, iV_wI, if_neg (by omega)]; exact u2
      · rw [e16, iV_wI, if_neg (by omega), e13, iV_wI, if_neg (by omega), e10, iV_wI, if_neg (by omega), e7, iV_wI, if_neg (by omega)]; exact u3
theorem mPt.ag {M M10 M13 M16 : sm_M} {f a1 a b k : Nat} {v : Int32} {Q : Pq} (h : mPt M f a1 (a1 + 1) (a1 + 2) Q) (h1 : 116 < a1) (hk : iQ Q a b = k) (hn : k < Q.1) (e10 : M10 = sm_wI M a1 k (Int32.ofNat a)) (e13 : M13 = sm_wI M10 (a1 + 1) k (Int32.ofNat b)) (e16 : M16 = sm_wI M13 (a1 + 2) k v) : mPt M16 f a1 (a1 + 1) (a1 + 2) (tQ Q a b v) := by
  obtain ⟨n, A, B, V⟩ := Q
  have hn2 : k < n := hn
  have is := ixQ_is (n := n) (A := A) (B := B) (a := a) (b := b) (by have : ixQ n A B a b = k := hk; omega)
  have hk2 : ixQ n A B a b = k := hk
  rw [hk2] at is
  rw [tQ_y (by show iQ _ _ _ < n; rw [hk]; omega), hk]
  refine ⟨?_, fun j hj => ?_⟩
  · rw [e16, iV_wI, if_neg (by omega), e13, iV_wI, if_neg (by omega), e10, iV_wI, if_neg (by omega)]; exact h.1
  · show iV M16 a1 j = Int32.ofNat (A j) ∧ iV M16 (a1 + 1) j = Int32.ofNat (B j) ∧ iV M16 (a1 + 2) j = ti V k v j
    obtain ⟨u1, u2, u3⟩ := h.2 j hj
    by_cases e : j = k
    · subst e
      rw [ti_e, is.1, is.2]
      refine ⟨?_, ?_, ?_⟩
      · rw [e16, iV_wI, if_neg (by omega), e13, iV_wI, if_neg (by omega), e10, iV_wI, if_pos ⟨rfl, rfl⟩]
      · rw [e16, iV_wI, if_neg (by omega), e13, iV_wI, if_pos ⟨rfl, rfl⟩]
      · rw [e16, iV_wI, if_pos ⟨rfl, rfl⟩]
    · rw [ti_o V k v e]
      refine ⟨?_, ?_, ?_⟩
      · rw [e16, iV_wI, if_neg (by omega), e13, iV_wI, if_neg (by omega), e10, iV_wI, if_neg (by omega)]; exact u1
      · rw [e16, iV_wI, if_neg (by omega), e13, iV_wI, if_neg (by omega), e10, iV_wI, if_neg (by omega)]; exact u2
      · rw [e16, iV_wI, if_neg (by omega), e13, iV_wI, if_neg (by omega), e10, iV_wI, if_neg (by omega)]; exact u3
def pkn (f a1 : Nat) : Nat → Nat → Prop := fun a k => a = 116 ∧ (8 ≤ k ∧ k ≤ 13 ∨ k = f) ∨ a1 ≤ a ∧ a ≤ a1 + 2
def mPn (A : sm_M) (tb : Nat → Nat) (tn f a1 : Nat) (r : Nat ⊕ (Nat × Pq)) (M2 : sm_M) : Prop := (match r with
  | Sum.inl e => iV M2 116 8 = Int32.ofNat e
  | Sum.inr z => iV M2 116 8 = -1 ∧ tk M2 tb tn z.1 ∧ mPt M2 f a1 (a1 + 1) (a1 + 2) z.2) ∧ Fr (pkn f a1) A M2
section MPR
variable {tb : Nat → Nat} {tn : Nat} {A : sm_M}
theorem pmfk {f a1 : Nat} {B C : sm_M} (h : Fr pmf B C) : Fr (pkn f a1) B C := h.mono fun a k z => by unfold pmf at z; unfold pkn; omega
theorem s180_1 {M : sm_M} {a b : Nat} {x2 : Int32} {K : sm_M → Prop} {Q : Pq} (hS : SH M) (hQ : mPt M 30 128 129 130 Q) (hw : wQ 200 (-500) 500 Q) (ha : a < 256) (hb : b < 256) (hk : sm_w 180 (55, [some (.ref 116), some (.int (Int32.ofNat a)), some (.int (x2)), some (.int (Int32.ofNat b)), some (.int (Int32.ofNat (iQ Q a b))), none, none], []) M (rV K)) : ∀ (d k : Nat), Q.1 - k = d → k ≤ Q.1 → (∀ j, j < k → ¬ (Q.2.1 j = a ∧ Q.2.2.1 j = b)) → sm_w 180 (18, [some (.ref 116), some (.int (Int32.ofNat a)), some (.int (x2)), some (.int (Int32.ofNat b)), some (.int (Int32.ofNat k)), none, none], []) M (rV K) := by
  have hl := hw.1
  intro d
  induction d with
  | zero =>
    intro k hd hk2 hj
    have e : k = Q.1 := by omega
    refine g180_1 hS ?_
    rw [hQ.1]
    refine ⟨fun _ => ?_, fun c => absurd ((o_le (by omega) (by omega)).mpr (by omega)) c⟩
    rw [show iQ Q a b = k from by rw [e]; exact ixQ_no fun j h => hj j (by omega)] at hk
    exact hk
  | succ d ih =>
    intro k hd hk2 hj
    obtain ⟨u1, u2, u3⟩ := hQ.2 k (by omega)
    obtain ⟨w1, w2, w3, w4⟩ := hw.2.2 k (by omega)
    refine g180_1 hS ?_
    rw [hQ.1, o_cl (n := k) (by omega), u1, u2, o_eq (by omega) (by omega), o_eq (by omega) (by omega), o_s]
    have go : ¬ (Q.2.1 k = a ∧ Q.2.2.1 k = b) → sm_w 180 (18, [some (.ref 116), some (.int (Int32.ofNat a)), some (.int (x2)), some (.int (Int32.ofNat b)), some (.int (Int32.ofNat (k + 1))), none, none], []) M (rV K) := fun z => ih (k + 1) (by omega) (by omega) fun j h => by
      by_cases e : j = k
      · rw [e]; exact z
      · exact hj j (by omega)
    refine ⟨fun c => absurd ((o_le (by omega) (by omega)).mp c) (by omega), fun _ => ⟨(o_in (by omega)).mpr (by omega), fun c1 => ⟨(o_in (by omega)).mpr (by omega), fun c2 => ?_, fun c2 => go fun z => c2 z.2⟩, fun c1 => go fun z => c1 z.1⟩⟩
    rw [show iQ Q a b = k from fs_u (p := fun k => Q.2.1 k == a && Q.2.2.1 k == b) (Nat.zero_le _) (by omega) (fun j _ h => by have := hj j h; simpa using this) (Or.inr (by simp [c1, c2]))] at hk
    exact hk
/-- a fault stands: nothing more -/
theorem s180_f {M : sm_M} {a b e : Nat} {x2 : Int32} {K : sm_M → Prop} {Q : Pq} (hS : SH M) (hQ : mPt M 30 128 129 130 Q) (hw : wQ 200 (-500) 500 Q) (ha : a < 256) (hb : b < 256) (he : e < 2147483648) (h8 : iV M 116 8 = Int32.ofNat e) (hk : K M) : sm_w 180 (18, [some (.ref 116), some (.int (Int32.ofNat a)), some (.int (x2)), some (.int (Int32.ofNat b)), some (.int (0 : Int32)), none, none], []) M (rV K) := by
  refine s180_1 hS hQ hw ha hb ?_ _ 0 rfl (Nat.zero_le _) fun j h => by omega
  refine g180_2 hS ?_
  rw [h8]
  refine ⟨fun _ => ?_, fun c => absurd (Int32.not_lt.mp (o_nn he)) c⟩
  refine g180_3 hS ?_
  rw [h8]
  exact ⟨fun c => absurd c (o_nn he), fun _ => hk⟩
theorem s180_t {M : sm_M} {a b p q k : Nat} {ng : Bool} {s0 : Int32} {Q : Pq} (hS : SH M) (hR : mR M tb tn) (hn : tn ≤ 8192) (hB : ∀ i, i < tn → tb i < 256) (hp : p ≤ tn) (h8 : iV M 116 8 = -1) (h : tk M tb tn p) (en : nt tb tn p = q) (hQ : mPt M 30 128 129 130 Q) (hw : wQ 200 (-500) 500 Q) (hr : room 200 Q a b) (hk : iQ Q a b = k) (hs0 : s0 = 0 ∧ ng = false ∨ s0 = 1 ∧ ng = true) (hA : Fr (pkn 30 128) A M) : sm_cI 178 [.ref 116, .int ((500 : Int32))] M (fun v2 M1 => SH M1 → sm_cV 179 [.ref 116] M1 (fun M4 => SH M4 → (((iV M4 116 8) < 0 → ((Int32.ofNat k = (iV M4 116 30) → ∀ M7, SH M7 → M7 = sm_wI M4 116 30 ((iV M4 116 30) + (1 : Int32)) → (vp_in (Int32.ofNat k) 200) ∧ ∀ M10, SH M10 → M10 = sm_wI M7 128 (Int32.ofNat k).toNatClampNeg (Int32.ofNat a) → (vp_in (Int32.ofNat k) 200) ∧ ∀ M13, SH M13 → M13 = sm_wI M10 129 (Int32.ofNat k).toNatClampNeg (Int32.ofNat b) → ((s0 = 0 → (vp_in (Int32.ofNat k) 200) ∧ ∀ M16, SH M16 → M16 = sm_wI M13 130 (Int32.ofNat k).toNatClampNeg v2 → mPn A tb tn 30 128 (eP4 tb tn q 500 Q a b ng) M16) ∧ (¬ s0 = 0 → (vp_in (Int32.ofNat k) 200) ∧ ∀ M19, SH M19 → M19 = sm_wI M13 130 (Int32.ofNat k).toNatClampNeg (-v2) → mPn A tb tn 30 128 (eP4 tb tn q 500 Q a b ng) M19))) ∧ (¬ Int32.ofNat k = (iV M4 116 30) → (vp_in (Int32.ofNat k) 200) ∧ ∀ M22, SH M22 → M22 = sm_wI M4 128 (Int32.ofNat k).toNatClampNeg (Int32.ofNat a) → (vp_in (Int32.ofNat k) 200) ∧ ∀ M25, SH M25 → M25 = sm_wI M22 129 (Int32.ofNat k).toNatClampNeg (Int32.ofNat b) → ((s0 = 0 → (vp_in (Int32.ofNat k) 200) ∧ ∀ M28, SH M28 → M28 = sm_wI M25 130 (Int32.ofNat k).toNatClampNeg v2 → mPn A tb tn 30 128 (eP4 tb tn q 500 Q a b ng) M28) ∧ (¬ s0 = 0 → (vp_in (Int32.ofNat k) 200) ∧ ∀ M31, SH M31 → M31 = sm_wI M25 130 (Int32.ofNat k).toNatClampNeg (-v2) → mPn A tb tn 30 128 (eP4 tb tn q 500 Q a b ng) M31))))) ∧ (¬ (iV M4 116 8) < 0 → mPn A tb tn 30 128 (eP4 tb tn q 500 Q a b ng) M4)))) := by
  subst en
  have hl := hw.1
  have kl : iQ Q a b ≤ Q.1 := ixQ_le _ _ _ _ _
  have klim : k < 200 := by
    rcases hr with y | y <;> omega
  obtain ⟨b1, b2⟩ := nt_b (tb := tb) hp
  obtain ⟨b3, b4⟩ := dr_b (tb := tb) b2
  obtain ⟨b5, b6⟩ := nt_b (tb := tb) b4
  unfold eP4
  refine (s178 (m := 500) (by omega) hS hR hn hB hp h8 h).mono fun v2 M1 k1 s1 => ?_
  obtain ⟨⟨k11, k12⟩, k13, f1⟩ := k1
  by_cases c1 : kNu tb tn (nt tb tn p) 500
  · rw [if_pos c1]
    obtain ⟨z8, zt⟩ := k11 c1
    refine (s179 s1 (mRf hR f1) hn hB b4 z8 zt).mono fun M4 k4 s4 => ?_
    obtain ⟨⟨k41, k42⟩, f4⟩ := k4
    have F4 : Fr (pkn 30 128) A M4 := hA.tr ((pmfk f1).tr (pmfk f4))
    have Q4 : mPt M4 30 128 129 130 Q := hQ.eq (by rw [f4.2.1 _ _ (by unfold pmf; omega), f1.2.1 _ _ (by unfold pmf; omega)]) fun a k z => by rw [f4.2.1 _ _ (by unfold pmf; omega), f1.2.1 _ _ (by unfold pmf; omega)]
    unfold eP5
    by_cases c2 : kS tb tn (nt tb tn (dr tb tn (nt tb tn p))) 59
    · rw [if_pos c2]
      obtain ⟨y8, yt⟩ := k41 c2
      rw [y8, Q4.1, o_eq (by omega) (by omega), o_s, o_cl (n := k) (by omega)]
      have vi : vp_in (Int32.ofNat k) 200 := (o_in (by omega)).mpr klim
      have fin : ∀ v M16, v = (if ng = true then -Int32.ofNat (dv tb (nt tb tn p) (dr tb tn (nt tb tn p) - nt tb tn p)) else Int32.ofNat (dv tb (nt tb tn p) (dr tb tn (nt tb tn p) - nt tb tn p))) → mPt M16 30 128 129 130 (tQ Q a b v) → Fr (fun x j => x = 116 ∧ j = 30 ∨ 128 ≤ x ∧ x ≤ 128 + 2) M4 M16 → mPn A tb tn 30 128 (Sum.inr (nt tb tn (dr tb tn (nt tb tn p)) + 1, tQ Q a b (if ng = true then -Int32.ofNat (dv tb (nt tb tn p) (dr tb tn (nt tb tn p) - nt tb tn p)) else Int32.ofNat (dv tb (nt tb tn p) (dr tb tn (nt tb tn p) - nt tb tn p))))) M16 := fun v M16 ev m16 f16 => by
        rw [ev] at m16
        exact ⟨⟨by rw [f16.2.1 _ _ (by omega)]; exact y8, yt.eq fun j j1 j2 => f16.2.1 _ _ (by omega), m16⟩, F4.tr (f16.mono fun x j z => by unfold pkn; omega)⟩
      have ev := k13 c1
      refine ⟨fun _ => ⟨fun c M7 s7 e7 => ⟨vi, fun M10 s10 e10 => ⟨vi, fun M13 s13 e13 => ?_⟩⟩, fun c => ⟨vi, fun M22 s22 e22 => ⟨vi, fun M25 s25 e25 => ?_⟩⟩⟩, fun c => absurd (by decide) c⟩
      · have fr : ∀ v M16, M16 = sm_wI M13 130 k v → mPt M16 30 128 129 130 (tQ Q a b v) ∧ Fr (fun x j => x = 116 ∧ j = 30 ∨ 128 ≤ x ∧ x ≤ 128 + 2) M4 M16 := fun v M16 e16 => ⟨Q4.nw (by omega) hk c e7 e10 e13 e16, by rw [e16, e13, e10, e7]; exact ((((Fr.rf _ _).wI (Or.inl ⟨rfl, rfl⟩)).wI (Or.inr ⟨by omega, by omega⟩)).wI (Or.inr ⟨by omega, by omega⟩)).wI (Or.inr ⟨by omega, by omega⟩)⟩
        rcases hs0 with ⟨u1, u2⟩ | ⟨u1, u2⟩
        · exact ⟨fun _ => ⟨vi, fun M16 s16 e16 => fin v2 M16 (by rw [u2, ev]; rfl) (fr v2 M16 e16).1 (fr v2 M16 e16).2⟩, fun z => absurd u1 z⟩
        · exact ⟨fun z => absurd z (by rw [u1]; decide), fun _ => ⟨vi, fun M16 s16 e16 => fin (-v2) M16 (by rw [u2, ev]; rfl) (fr (-v2) M16 e16).1 (fr (-v2) M16 e16).2⟩⟩
      · have fr : ∀ v M16, M16 = sm_wI M25 130 k v → mPt M16 30 128 129 130 (tQ Q a b v) ∧ Fr (fun x j => x = 116 ∧ j = 30 ∨ 128 ≤ x ∧ x ≤ 128 + 2) M4 M16 := fun v M16 e16 => ⟨Q4.ag (by omega) hk (by omega) e22 e25 e16, by rw [e16, e25, e22]; exact (((Fr.rf _ _).wI (Or.inr ⟨by omega, by omega⟩)).wI (Or.inr ⟨by omega, by omega⟩)).wI (Or.inr ⟨by omega, by omega⟩)⟩
        rcases hs0 with ⟨u1, u2⟩ | ⟨u1, u2⟩
        · exact ⟨fun _ => ⟨vi, fun M16 s16 e16 => fin v2 M16 (by rw [u2, ev]; rfl) (fr v2 M16 e16).1 (fr v2 M16 e16).2⟩, fun z => absurd u1 z⟩
        · exact ⟨fun z => absurd z (by rw [u1]; decide), fun _ => ⟨vi, fun M16 s16 e16 => fin (-v2) M16 (by rw [u2, ev]; rfl) (fr (-v2) M16 e16).1 (fr (-v2) M16 e16).2⟩⟩
    · rw [if_neg c2]
      have y8 := k42 c2
      rw [y8]
      exact ⟨fun c => absurd c (o_nn (by omega)), fun _ => ⟨y8, F4⟩⟩
  · rw [if_neg c1]
    have z8 := k12 c1
    refine (s179f s1 (by omega) z8).mono fun M4 k4 s4 => ?_
    subst k4
    rw [z8]
    exact ⟨fun c => absurd c (o_nn (by omega)), fun _ => ⟨z8, hA.tr (pmfk f1)⟩⟩
theorem s180 {M : sm_M} {p : Nat} {Q : Pq} (hS : SH M) (hR : mR M tb tn) (hn : tn ≤ 8192) (hB : ∀ i, i < tn → tb i < 256) (hp : p ≤ tn) (h8 : iV M 116 8 = -1) (h : tk M tb tn p) (hQ : mPt M 30 128 129 130 Q) (hw : wQ 200 (-500) 500 Q) : sm_cV 180 [.ref 116] M (mPn M tb tn 30 128 (eP tb tn p true 500 200 Q)) := by
  have hl := hw.1
  have Qf : ∀ {B : sm_M}, Fr pmf M B → mPt B 30 128 129 130 Q := fun {B} f => hQ.eq (f.2.1 _ _ (by unfold pmf; omega)) fun a k z => f.2.1 _ _ (by unfold pmf; omega)
  obtain ⟨b1, b2⟩ := nt_b (tb := tb) hp
  refine g180_0 hS ((s176 hS hR hn hB hp h8 h).mono fun v2 M1 k1 s1 => ?_)
  obtain ⟨⟨k11, k12⟩, k13, k14, f1⟩ := k1
  unfold eP
  by_cases c1 : kB tb tn (nt tb tn p)
  · rw [if_pos c1, k13 c1]
    obtain ⟨z8, zt⟩ := k11 c1
    have l1 := c1.1
    have la := c1.2.2.2.2.1
    obtain ⟨b3, b4⟩ := nt_b (tb := tb) (i := nt tb tn p + 3) (tn := tn) (by omega)
    refine (s176 s1 (mRf hR f1) hn hB (by omega) z8 zt).mono fun v5 M4 k4 s4 => ?_
    obtain ⟨⟨k41, k42⟩, k43, k44, f4⟩ := k4
    have F4 := f1.tr f4
    unfold eP2
    by_cases c2 : kB tb tn (nt tb tn (nt tb tn p + 3))
    · rw [k43 c2, zt.1]
      obtain ⟨y8, yt⟩ := k41 c2
      have l2 := c2.1
      have lb := c2.2.2.2.2.1
      obtain ⟨b5, b6⟩ := nt_b (tb := tb) (i := nt tb tn (nt tb tn p + 3) + 3) (tn := tn) (by omega)
      have kl : iQ Q (tb (nt tb tn p + 1)) (tb (nt tb tn (nt tb tn p + 3) + 1)) ≤ Q.1 := ixQ_le _ _ _ _ _
      refine s180_1 s4 (Qf F4) hw (by omega) (by omega) ?_ _ 0 rfl (Nat.zero_le _) fun j h => by omega
      refine g180_2 s4 ?_
      rw [y8]
      refine ⟨fun c => absurd c (by decide), fun _ => ⟨fun c => ?_, fun c => ?_⟩⟩
      · have c200 := (o_eq (m := 200) (by omega) (by omega)).mp c
        rw [if_neg (fun z => by rcases z.2 with y | y <;> omega)]
        refine (s177 s4 y8).mono fun M5 e5 s5 => ?_
        have x8 : iV M5 116 8 = Int32.ofNat (nt tb tn (nt tb tn p + 3)) := by rw [e5, iV_wI, if_pos ⟨rfl, rfl⟩]
        refine g180_3 s5 ?_
        rw [x8]
        exact ⟨fun c => absurd c (o_nn (by omega)), fun _ => ⟨x8, by rw [e5]; exact pmfk (F4.wI ⟨rfl, by omega, by omega⟩)⟩⟩
      · have c200 : ¬ iQ Q (tb (nt tb tn p + 1)) (tb (nt tb tn (nt tb tn p + 3) + 1)) = 200 := fun z => c (by rw [z]; rfl)
        have hr : room 200 Q (tb (nt tb tn p + 1)) (tb (nt tb tn (nt tb tn p + 3) + 1)) := by
          unfold room
          omega
        rw [if_pos ⟨c2, hr⟩]
        refine g180_3 s4 ?_
        rw [y8]
        obtain ⟨t1, t2⟩ := tk_S 45 (Or.inr rfl) yt hB (by omega)
        unfold eP3
        have plain : ¬ kS tb tn (nt tb tn (nt tb tn (nt tb tn p + 3) + 3)) 45 → sm_w 180 (104, [some (.ref 116), some (.int (Int32.ofNat (tb (nt tb tn p + 1)))), none, some (.int (Int32.ofNat (tb (nt tb tn (nt tb tn p + 3) + 1)))), some (.int (Int32.ofNat (iQ Q (tb (nt tb tn p + 1)) (tb (nt tb tn (nt tb tn p + 3) + 1))))), none, none], []) M4 (rV (mPn M tb tn 30 128 (@ite _ (true = true ∧ kS tb tn (nt tb tn (nt tb tn (nt tb tn p + 3) + 3)) 45) (Classical.propDecidable _) (eP4 tb tn (nt tb tn (nt tb tn (nt tb tn (nt tb tn p + 3) + 3) + 1)) 500 Q (tb (nt tb tn p + 1)) (tb (nt tb tn (nt tb tn p + 3) + 1)) true) (eP4 tb tn (nt tb tn (nt tb tn (nt tb tn p + 3) + 3)) 500 Q (tb (nt tb tn p + 1)) (tb (nt tb tn (nt tb tn p + 3) + 1)) false)))) := fun hno => by
          rw [if_neg (fun z => hno z.2)]
          refine g180_4 s4 (g180_5 s4 ⟨fun _ => ?_, fun c => absurd rfl c⟩)
          exact s180_t (A := M) s4 (mRf hR F4) hn hB (by omega) y8 yt rfl (Qf F4) hw hr rfl (Or.inl ⟨rfl, rfl⟩) (pmfk F4)
        refine ⟨fun _ => ⟨fun c4 => ⟨fun c5 => ?_, fun c5 => plain fun z => c5 (t1.mpr z).2⟩, fun c4 => plain fun z => c4 (t1.mpr z).1⟩, fun c => absurd (by decide) c⟩
        have hk := t1.mp ⟨c4, c5⟩
        have lk := hk.1
        rw [if_pos ⟨rfl, hk⟩]
        refine g180_5 s4 ⟨fun c => absurd c (by decide), fun _ => ?_⟩
        refine (s170 s4 (mRf hR F4) hn hB (by omega) (t2 hk)).mono fun M33 k33 s33 => ?_
        have f33 : Fr pmf M4 M33 := k33.2.mono fun a k z => by unfold p170 at z; unfold pmf; omega
        exact s180_t (A := M) s33 (mRf hR (F4.tr f33)) hn hB (by omega) (by rw [k33.2.2.1 _ _ (by unfold p170; omega)]; exact y8) k33.1 rfl (Qf (F4.tr f33)) hw hr rfl (Or.inr ⟨rfl, rfl⟩) (pmfk (F4.tr f33))
    · rw [if_neg (fun z => c2 z.1), k44 c2]
      exact s180_f (b := 0) s4 (Qf F4) hw (by omega) (by omega) (by omega) (k42 c2) ⟨k42 c2, pmfk F4⟩
  · rw [if_neg c1, k14 c1]
    have z8 := k12 c1
    refine (s176f s1 (by omega) z8).mono fun v5 M4 k4 s4 => ?_
    obtain ⟨k41, k42⟩ := k4
    subst k42
    rw [k41]
    exact s180_f (a := 0) (b := 0) s4 (Qf f1) hw (by omega) (by omega) (by omega) z8 ⟨z8, pmfk f1⟩
theorem s181_1 {M : sm_M} {a b : Nat} {x2 : Int32} {K : sm_M → Prop} {Q : Pq} (hS : SH M) (hQ : mPt M 31 131 132 133 Q) (hw : wQ 60 0 5000 Q) (ha : a < 256) (hb : b < 256) (hk : sm_w 181 (55, [some (.ref 116), some (.int (Int32.ofNat a)), some (.int (x2)), some (.int (Int32.ofNat b)), some (.int (Int32.ofNat (iQ Q a b))), none], []) M (rV K)) : ∀ (d k : Nat), Q.1 - k = d → k ≤ Q.1 → (∀ j, j < k → ¬ (Q.2.1 j = a ∧ Q.2.2.1 j = b)) → sm_w 181 (18, [some (.ref 116), some (.int (Int32.ofNat a)), some (.int (x2)), some (.int (Int32.ofNat b)), some (.int (Int32.ofNat k)), none], []) M (rV K) := by
  have hl := hw.1
  intro d
  induction d with
  | zero =>
    intro k hd hk2 hj
    have e : k = Q.1 := by omega
    refine g181_1 hS ?_
    rw [hQ.1]
    refine ⟨fun _ => ?_, fun c => absurd ((o_le (by omega) (by omega)).mpr (by omega)) c⟩
    rw [show iQ Q a b = k from by rw [e]; exact ixQ_no fun j h => hj j (by omega)] at hk
    exact hk
  | succ d ih =>
    intro k hd hk2 hj
    obtain ⟨u1, u2, u3⟩ := hQ.2 k (by omega)
    obtain ⟨w1, w2, w3, w4⟩ := hw.2.2 k (by omega)
    refine g181_1 hS ?_
    rw [hQ.1, o_cl (n := k) (by omega), u1, u2, o_eq (by omega) (by omega), o_eq (by omega) (by omega), o_s]
    have go : ¬ (Q.2.1 k = a ∧ Q.2.2.1 k = b) → sm_w 181 (18, [some (.ref 116), some (.int (Int32.ofNat a)), some (.int (x2)), some (.int (Int32.ofNat b)), some (.int (Int32.ofNat (k + 1))), none], []) M (rV K) := fun z => ih (k + 1) (by omega) (by omega) fun j h => by
      by_cases e : j = k
      · rw [e]; exact z
      · exact hj j (by omega)
    refine ⟨fun c => absurd ((o_le (by omega) (by omega)).mp c) (by omega), fun _ => ⟨(o_in (by omega)).mpr (by omega), fun c1 => ⟨(o_in (by omega)).mpr (by omega), fun c2 => ?_, fun c2 => go fun z => c2 z.2⟩, fun c1 => go fun z => c1 z.1⟩⟩
    rw [show iQ Q a b = k from fs_u (p := fun k => Q.2.1 k == a && Q.2.2.1 k == b) (Nat.zero_le _) (by omega) (fun j _ h => by have := hj j h; simpa using this) (Or.inr (by simp [c1, c2]))] at hk
    exact hk
/-- a fault stands: nothing more -/
theorem s181_f {M : sm_M} {a b e : Nat} {x2 : Int32} {K : sm_M → Prop} {Q : Pq} (hS : SH M) (hQ : mPt M 31 131 132 133 Q) (hw : wQ 60 0 5000 Q) (ha : a < 256) (hb : b < 256) (he : e < 2147483648) (h8 : iV M 116 8 = Int32.ofNat e) (hk : K M) : sm_w 181 (18, [some (.ref 116), some (.int (Int32.ofNat a)), some (.int (x2)), some (.int (Int32.ofNat b)), some (.int (0 : Int32)), none], []) M (rV K) := by
  refine s181_1 hS hQ hw ha hb ?_ _ 0 rfl (Nat.zero_le _) fun j h => by omega
  refine g181_2 hS ?_
  rw [h8]
  refine ⟨fun _ => ?_, fun c => absurd (Int32.not_lt.mp (o_nn he)) c⟩
  refine g181_3 hS ?_
  rw [h8]
  exact ⟨fun c => absurd c (o_nn he), fun _ => hk⟩
theorem s181_t {M : sm_M} {a b p q k : Nat} {ng : Bool} {Q : Pq} (hS : SH M) (hR : mR M tb tn) (hn : tn ≤ 8192) (hB : ∀ i, i < tn → tb i < 256) (hp : p ≤ tn) (h8 : iV M 116 8 = -1) (h : tk M tb tn p) (en : nt tb tn p = q) (hQ : mPt M 31 131 132 133 Q) (hw : wQ 60 0 5000 Q) (hr : room 60 Q a b) (hk : iQ Q a b = k) (hng : ng = false) (hA : Fr (pkn 31 131) A M) : sm_cI 178 [.ref 116, .int ((5000 : Int32))] M (fun v2 M1 => SH M1 → sm_cV 179 [.ref 116] M1 (fun M4 => SH M4 → (((iV M4 116 8) < 0 → ((Int32.ofNat k = (iV M4 116 31) → ∀ M7, SH M7 → M7 = sm_wI M4 116 31 ((iV M4 116 31) + (1 : Int32)) → (vp_in (Int32.ofNat k) 60) ∧ ∀ M10, SH M10 → M10 = sm_wI M7 131 (Int32.ofNat k).toNatClampNeg (Int32.ofNat a) → (vp_in (Int32.ofNat k) 60) ∧ ∀ M13, SH M13 → M13 = sm_wI M10 132 (Int32.ofNat k).toNatClampNeg (Int32.ofNat b) → (vp_in (Int32.ofNat k) 60) ∧ ∀ M16, SH M16 → M16 = sm_wI M13 133 (Int32.ofNat k).toNatClampNeg v2 → mPn A tb tn 31 131 (eP4 tb tn q 5000 Q a b ng) M16) ∧ (¬ Int32.ofNat k = (iV M4 116 31) → (vp_in (Int32.ofNat k) 60) ∧ ∀ M22, SH M22 → M22 = sm_wI M4 131 (Int32.ofNat k).toNatClampNeg (Int32.ofNat a) → (vp_in (Int32.ofNat k) 60) ∧ ∀ M25, SH M25 → M25 = sm_wI M22 132 (Int32.ofNat k).toNatClampNeg (Int32.ofNat b) → (vp_in (Int32.ofNat k) 60) ∧ ∀ M28, SH M28 → M28 = sm_wI M25 133 (Int32.ofNat k).toNatClampNeg v2 → mPn A tb tn 31 131 (eP4 tb tn q 5000 Q a b ng) M28))) ∧ (¬ (iV M4 116 8) < 0 → mPn A tb tn 31 131 (eP4 tb tn q 5000 Q a b ng) M4)))) := by
  subst en
  have hl := hw.1
  have kl : iQ Q a b ≤ Q.1 := ixQ_le _ _ _ _ _
  have klim : k < 60 := by
    rcases hr with y | y <;> omega
  obtain ⟨b1, b2⟩ := nt_b (tb := tb) hp
  obtain ⟨b3, b4⟩ := dr_b (tb := tb) b2
  obtain ⟨b5, b6⟩ := nt_b (tb := tb) b4
  unfold eP4
  refine (s178 (m := 5000) (by omega) hS hR hn hB hp h8 h).mono fun v2 M1 k1 s1 => ?_
  obtain ⟨⟨k11, k12⟩, k13, f1⟩ := k1
  by_cases c1 : kNu tb tn (nt tb tn p) 5000
  · rw [if_pos c1]
    obtain ⟨z8, zt⟩ := k11 c1
    refine (s179 s1 (mRf hR f1) hn hB b4 z8 zt).mono fun M4 k4 s4 => ?_
    obtain ⟨⟨k41, k42⟩, f4⟩ := k4
    have F4 : Fr (pkn 31 131) A M4 := hA.tr ((pmfk f1).tr (pmfk f4))
    have Q4 : mPt M4 31 131 132 133 Q := hQ.eq (by rw [f4.2.1 _ _ (by unfold pmf; omega), f1.2.1 _ _ (by unfold pmf; omega)]) fun a k z => by rw [f4.2.1 _ _ (by unfold pmf; omega), f1.2.1 _ _ (by unfold pmf; omega)]
    unfold eP5
    by_cases c2 : kS tb tn (nt tb tn (dr tb tn (nt tb tn p))) 59
    · rw [if_pos c2]
      obtain ⟨y8, yt⟩ := k41 c2
      rw [y8, Q4.1, o_eq (by omega) (by omega), o_s, o_cl (n := k) (by omega)]
      have vi : vp_in (Int32.ofNat k) 60 := (o_in (by omega)).mpr klim
      have fin : ∀ v M16, v = (if ng = true then -Int32.ofNat (dv tb (nt tb tn p) (dr tb tn (nt tb tn p) - nt tb tn p)) else Int32.ofNat (dv tb (nt tb tn p) (dr tb tn (nt tb tn p) - nt tb tn p))) → mPt M16 31 131 132 133 (tQ Q a b v) → Fr (fun x j => x = 116 ∧ j = 31 ∨ 131 ≤ x ∧ x ≤ 131 + 2) M4 M16 → mPn A tb tn 31 131 (Sum.inr (nt tb tn (dr tb tn (nt tb tn p)) + 1, tQ Q a b (if ng = true then -Int32.ofNat (dv tb (nt tb tn p) (dr tb tn (nt tb tn p) - nt tb tn p)) else Int32.ofNat (dv tb (nt tb tn p) (dr tb tn (nt tb tn p) - nt tb tn p))))) M16 := fun v M16 ev m16 f16 => by
        rw [ev] at m16
        exact ⟨⟨by rw [f16.2.1 _ _ (by omega)]; exact y8, yt.eq fun j j1 j2 => f16.2.1 _ _ (by omega), m16⟩, F4.tr (f16.mono fun x j z => by unfold pkn; omega)⟩
      have ev := k13 c1
      refine ⟨fun _ => ⟨fun c M7 s7 e7 => ⟨vi, fun M10 s10 e10 => ⟨vi, fun M13 s13 e13 => ?_⟩⟩, fun c => ⟨vi, fun M22 s22 e22 => ⟨vi, fun M25 s25 e25 => ?_⟩⟩⟩, fun c => absurd (by decide) c⟩
      · refine ⟨vi, fun M16 s16 e16 => fin v2 M16 (by rw [hng, ev]; rfl) (Q4.nw (by omega) hk c e7 e10 e13 e16) ?_⟩
        rw [e16, e13, e10, e7]
        exact ((((Fr.rf _ _).wI (Or.inl ⟨rfl, rfl⟩)).wI (Or.inr ⟨by omega, by omega⟩)).wI (Or.inr ⟨by omega, by omega⟩)).wI (Or.inr ⟨by omega, by omega⟩)
      · refine ⟨vi, fun M16 s16 e16 => fin v2 M16 (by rw [hng, ev]; rfl) (Q4.ag (by omega) hk (by omega) e22 e25 e16) ?_⟩
        rw [e16, e25, e22]
        exact (((Fr.rf _ _).wI (Or.inr ⟨by omega, by omega⟩)).wI (Or.inr ⟨by omega, by omega⟩)).wI (Or.inr ⟨by omega, by omega⟩)
    · rw [if_neg c2]
      have y8 := k42 c2
      rw [y8]
      exact ⟨fun c => absurd c (o_nn (by omega)), fun _ => ⟨y8, F4⟩⟩
  · rw [if_neg c1]
    have z8 := k12 c1
    refine (s179f s1 (by omega) z8).mono fun M4 k4 s4 => ?_
    subst k4
    rw [z8]
    exact ⟨fun c => absurd c (o_nn (by omega)), fun _ => ⟨z8, hA.tr (pmfk f1)⟩⟩
theorem s181 {M : sm_M} {p : Nat} {Q : Pq} (hS : SH M) (hR : mR M tb tn) (hn : tn ≤ 8192) (hB : ∀ i, i < tn → tb i < 256) (hp : p ≤ tn) (h8 : iV M 116 8 = -1) (h : tk M tb tn p) (hQ : mPt M 31 131 132 133 Q) (hw : wQ 60 0 5000 Q) : sm_cV 181 [.ref 116] M (mPn M tb tn 31 131 (eP tb tn p false 5000 60 Q)) := by
  have hl := hw.1
  have Qf : ∀ {B : sm_M}, Fr pmf M B → mPt B 31 131 132 133 Q := fun {B} f => hQ.eq (f.2.1 _ _ (by unfold pmf; omega)) fun a k z => f.2.1 _ _ (by unfold pmf; omega)
  obtain ⟨b1, b2⟩ := nt_b (tb := tb) hp
  refine g181_0 hS ((s176 hS hR hn hB hp h8 h).mono fun v2 M1 k1 s1 => ?_)
  obtain ⟨⟨k11, k12⟩, k13, k14, f1⟩ := k1
  unfold eP
  by_cases c1 : kB tb tn (nt tb tn p)
  · rw [if_pos c1, k13 c1]
    obtain ⟨z8, zt⟩ := k11 c1
    have l1 := c1.1
    have la := c1.2.2.2.2.1
    obtain ⟨b3, b4⟩ := nt_b (tb := tb) (i := nt tb tn p + 3) (tn := tn) (by omega)
    refine (s176 s1 (mRf hR f1) hn hB (by omega) z8 zt).mono fun v5 M4 k4 s4 => ?_
    obtain ⟨⟨k41, k42⟩, k43, k44, f4⟩ := k4
    have F4 := f1.tr f4
    unfold eP2
    by_cases c2 : kB tb tn (nt tb tn (nt tb tn p + 3))
    · rw [k43 c2, zt.1]
      obtain ⟨y8, yt⟩ := k41 c2
      have l2 := c2.1
      have lb := c2.2.2.2.2.1
      obtain ⟨b5, b6⟩ := nt_b (tb := tb) (i := nt tb tn (nt tb tn p + 3) + 3) (tn := tn) (by omega)
      have kl : iQ Q (tb (nt tb tn p + 1)) (tb (nt tb tn (nt tb tn p + 3) + 1)) ≤ Q.1 := ixQ_le _ _ _ _ _
      refine s181_1 s4 (Qf F4) hw (by omega) (by omega) ?_ _ 0 rfl (Nat.zero_le _) fun j h => by omega
      refine g181_2 s4 ?_
      rw [y8]
      refine ⟨fun c => absurd c (by decide), fun _ => ⟨fun c => ?_, fun c => ?_⟩⟩
      · have c200 := (o_eq (m := 60) (by omega) (by omega)).mp c
        rw [if_neg (fun z => by rcases z.2 with y | y <;> omega)]
        refine (s177 s4 y8).mono fun M5 e5 s5 => ?_
        have x8 : iV M5 116 8 = Int32.ofNat (nt tb tn (nt tb tn p + 3)) := by rw [e5, iV_wI, if_pos ⟨rfl, rfl⟩]
        refine g181_3 s5 ?_
        rw [x8]
        exact ⟨fun c => absurd c (o_nn (by omega)), fun _ => ⟨x8, by rw [e5]; exact pmfk (F4.wI ⟨rfl, by omega, by omega⟩)⟩⟩
      · have c200 : ¬ iQ Q (tb (nt tb tn p + 1)) (tb (nt tb tn (nt tb tn p + 3) + 1)) = 60 := fun z => c (by rw [z]; rfl)
        have hr : room 60 Q (tb (nt tb tn p + 1)) (tb (nt tb tn (nt tb tn p + 3) + 1)) := by
          unfold room
          omega
        rw [if_pos ⟨c2, hr⟩]
        refine g181_3 s4 ?_
        rw [y8]
        unfold eP3
        rw [if_neg (fun z => absurd z.1 (by decide))]
        refine ⟨fun _ => ?_, fun c => absurd (by decide) c⟩
        exact s181_t (A := M) s4 (mRf hR F4) hn hB (by omega) y8 yt rfl (Qf F4) hw hr rfl rfl (pmfk F4)
    · rw [if_neg (fun z => c2 z.1), k44 c2]
      exact s181_f (b := 0) s4 (Qf F4) hw (by omega) (by omega) (by omega) (k42 c2) ⟨k42 c2, pmfk F4⟩
  · rw [if_neg c1, k14 c1]
    have z8 := k12 c1
    refine (s176f s1 (by omega) z8).mono fun v5 M4 k4 s4 => ?_
    obtain ⟨k41, k42⟩ := k4
    subst k42
    rw [k41]
    exact s181_f (a := 0) (b := 0) s4 (Qf f1) hw (by omega) (by omega) (by omega) z8 ⟨z8, pmfk f1⟩
end MPR
