/-! WIDTH. -/
def pfl (x a b : Nat) : Nat → Nat → Prop := fun c k => c = x ∧ a ≤ k ∧ k < b
theorem s92_1 {x n a b : Nat} {v : Int32} (hx : sA x 0 n) (hb : b ≤ n) (hn : n ≤ 8192) : ∀ (d i : Nat), b - i = d → a ≤ i → i ≤ b → ∀ M, SH M → (∀ k, a ≤ k → k < i → iV M x k = v) → sm_w 92 (10, [some (.ref x), none, some (.int (Int32.ofNat b)), some (.int (v)), some (.int (Int32.ofNat i))], []) M (rV (fun M2 => (∀ k, a ≤ k → k < b → iV M2 x k = v) ∧ Fr (pfl x a b) M M2)) := by
  intro d
  induction d with
  | zero =>
    intro i hd ha hi M hS h
    have e : i = b := by omega
    subst e
    exact g92_1 hS hx ⟨fun _ => ⟨h, Fr.rf _ _⟩, fun c => absurd ((o_le (by omega) (by omega)).mpr (Nat.le_refl _)) c⟩
  | succ d ih =>
    intro i hd ha hi M hS h
    refine g92_1 hS hx ⟨fun c => absurd ((o_le (by omega) (by omega)).mp c) (by omega), fun _ => ⟨(o_in (by omega)).mpr (by omega), fun M2 s2 e2 => ?_⟩⟩
    rw [o_cl (by omega)] at e2
    rw [o_s]
    have f2 : Fr (pfl x a b) M M2 := by rw [e2]; exact (Fr.rf _ _).wI ⟨rfl, ha, by omega⟩
    refine (ih (i + 1) (by omega) (by omega) (by omega) M2 s2 fun k k1 k2 => ?_).mono fun o M3 q => ⟨q.1, q.2.1, f2.tr q.2.2⟩
    rw [e2, iV_wI]
    by_cases e : k = i
    · rw [if_pos ⟨rfl, e⟩]
    · rw [if_neg (by omega)]; exact h k k1 (by omega)
theorem s92 {M : sm_M} {x n a b : Nat} {v : Int32} (hS : SH M) (hx : sA x 0 n) (hab : a ≤ b) (hb : b ≤ n) (hn : n ≤ 8192) : sm_cV 92 [.ref x, .int (Int32.ofNat a), .int (Int32.ofNat b), .int (v)] M (fun M2 => (∀ k, a ≤ k → k < b → iV M2 x k = v) ∧ Fr (pfl x a b) M M2) := by
  refine g92_0 hS hx ⟨?_, s92_1 hx hb hn (b - a) a rfl (Nat.le_refl _) hab M hS fun k k1 k2 => by omega⟩
  unfold q93_0
  exact ⟨fun _ => ⟨fun _ => ⟨fun _ => trivial, fun c => absurd ((o_le (by omega) (by omega)).mpr hb) c⟩, fun c => absurd (Int32.not_lt.mp (o_nn (by omega))) c⟩, fun c => absurd ((o_le (by omega) (by omega)).mpr hab) c⟩
theorem cQt.eq {M M2 : sm_M} {q n : Nat} {A B : Nat → Nat} {V : Nat → Int32} (h : cQt M q n A B V) (e : ∀ a k, q ≤ a → a ≤ q + 4 → iV M2 a k = iV M a k) : cQt M2 q n A B V := by
  obtain ⟨h1, h2, h3, h4⟩ := h
  refine ⟨h1, by rw [e _ _ (by omega) (by omega)]; exact h2, fun k hk => ?_, fun a ha => by rw [e _ _ (by omega) (by omega)]; exact h4 a ha⟩
  rw [e _ _ (by omega) (by omega), e _ _ (by omega) (by omega), e _ _ (by omega) (by omega)]
  exact h3 k hk
theorem cF.eq {M M2 : sm_M} {o : Nat} {w : Nat → Nat} {kf jf : Nat → Nat → Int32} (h : cF M o w kf jf) (e : ∀ a k, o ≤ a → a ≤ o + 12 → iV M2 a k = iV M a k) : cF M2 o w kf jf := by
  obtain ⟨f1, ⟨n1, A1, B1, V1, q1, d1, e1⟩, n2, A2, B2, V2, q2, d2, e2⟩ := h
  exact ⟨fun b hb => by rw [e _ _ (by omega) (by omega)]; exact f1 b hb, ⟨n1, A1, B1, V1, q1.eq fun a k h1 h2 => e a k (by omega) (by omega), d1, e1⟩, n2, A2, B2, V2, q2.eq fun a k h1 h2 => e a k (by omega) (by omega), d2, e2⟩
theorem mQt.eq {M M2 : sm_M} {f a1 a2 a3 n : Nat} {A B : Nat → Nat} {V : Nat → Int32} (h : mQt M f a1 a2 a3 n A B V) (e0 : iV M2 116 f = iV M 116 f) (e1 : ∀ k, iV M2 a1 k = iV M a1 k) (e2 : ∀ k, iV M2 a2 k = iV M a2 k) (e3 : ∀ k, iV M2 a3 k = iV M a3 k) : mQt M2 f a1 a2 a3 n A B V := ⟨by rw [e0]; exact h.1, fun k hk => by rw [e1, e2, e3]; exact h.2 k hk⟩
theorem mF.eq {M M2 : sm_M} {w : Nat → Nat} {kf jf : Nat → Nat → Int32} (h : mF M w kf jf) (e0 : iV M2 116 28 = iV M 116 28) (e00 : iV M2 116 29 = iV M 116 29) (e : ∀ a k, (a = 120 ∨ 122 ≤ a ∧ a ≤ 127) → iV M2 a k = iV M a k) : mF M2 w kf jf := by
  obtain ⟨f1, ⟨n1, A1, B1, V1, l1, ab1, q1, e1⟩, n2, A2, B2, V2, l2, ab2, q2, e2⟩ := h
  exact ⟨fun b hb => by rw [e _ _ (by omega)]; exact f1 b hb, ⟨n1, A1, B1, V1, l1, ab1, q1.eq e0 (fun k => e _ k (by omega)) (fun k => e _ k (by omega)) (fun k => e _ k (by omega)), e1⟩, n2, A2, B2, V2, l2, ab2, q2.eq e00 (fun k => e _ k (by omega)) (fun k => e _ k (by omega)) (fun k => e _ k (by omega)), e2⟩
/-- a call of width is done -/
def wOk (x : Int32) (tb : Nat → Nat) (tn : Nat) : Prop := (¬ x < 1000 ∧ x ≤ 100000) ∧ ∀ i, i < tn → 32 ≤ tb i ∧ tb i ≤ 126
theorem sb_w {n : Nat} (h : n < 256) : (sb n < 32 → ¬ (32 ≤ n ∧ n ≤ 126)) ∧ (¬ sb n < 32 → sb n ≤ 126 → 32 ≤ n ∧ n ≤ 126) ∧ (¬ sb n ≤ 126 → ¬ (32 ≤ n ∧ n ≤ 126)) := (show ∀ n, n < 256 → (sb n < 32 → ¬ (32 ≤ n ∧ n ≤ 126)) ∧ (¬ sb n < 32 → sb n ≤ 126 → 32 ≤ n ∧ n ≤ 126) ∧ (¬ sb n ≤ 126 → ¬ (32 ≤ n ∧ n ≤ 126)) from by decide +kernel) n h
def pW : Nat → Nat → Prop := fun a k => a = 24 ∧ k = 1 ∨ a = 28
section WID
variable {x : Int32} {tb : Nat → Nat} {tn fn : Nat} {w : Nat → Nat} {kf jf : Nat → Nat → Int32}
theorem s155_1 {A M : sm_M} (hx : ¬ x < 1000 ∧ x ≤ 100000) (hS : SH M) (hn : tn ≤ 8192) (hT : ∀ i, i < tn → tb i < 256 ∧ iV M 25 i = sb (tb i)) (h0 : iV M 24 1 = 0) (hr : sm_rv M 23 9 = some fn) (hfn : fF fn) (hF : cF M fn w kf jf) (hw : wF w kf jf) (hA : Fr pW A M) : ∀ (d i : Nat), tn - i = d → i ≤ tn → (∀ j, j < i → 32 ≤ tb j ∧ tb j ≤ 126) → sm_w 155 (23, [some (.ref 23), some (.int (x)), some (.int (Int32.ofNat tn)), some (.int (Int32.ofNat i))], []) M (yJ (fun r M2 => ¬ wOk x tb tn ∧ ∃ M1, SH M1 ∧ r = M1.1 ∧ M2 = sm_new M1 48 6 ∧ iV M1 24 1 = 0 ∧ Fr pW A M1) (fun v M2 => wOk x tb tn ∧ v = pwd 0 tn tb (fun _ => x.toNatClampNeg) w kf jf ∧ iV M2 24 1 = 0 ∧ Fr pW A M2)) := by
  obtain ⟨z1, z2, z3⟩ := z_size hx.1 hx.2
  intro d
  induction d with
  | zero =>
    intro i hd hi hj
    have e : i = tn := by omega
    subst e
    refine g155_1 hS ⟨fun _ => ?_, fun c => absurd ((o_le (by omega) (by omega)).mpr (Nat.le_refl _)) c⟩
    refine (s92 (a := 0) (v := x) hS a_28 (Nat.zero_le _) hn (by omega)).mono fun M1 k1 s1 => ?_
    obtain ⟨k11, k12⟩ := k1
    have hfa : fn + 12 < 68 ∧ 42 ≤ fn := by unfold fF at hfn; omega
    refine ⟨fn, by rw [k12.1.2.2.2.2]; exact hr, hfn, ?_⟩
    refine (s100 (a := 0) (x := tb) (z := fun _ => x.toNatClampNeg) s1 hfn a_25 a_28 (hF.eq fun a k h1 h2 => k12.2.1 a k (by unfold pfl; omega)) hw hn (Nat.zero_le _) (by omega) (by omega) hn hn (fun j h1 _ => ?_) (fun j h1 _ => ?_)).mono fun v M7 k7 s7 => ?_
    · have := hj j h1
      refine ⟨by omega, ?_⟩
      rw [k12.2.1 25 j (by unfold pfl; omega), (hT j h1).2]
      exact sb_lo (by omega)
    · refine ⟨z2, ?_⟩
      rw [← z3]
      exact k11 j (Nat.zero_le _) h1
    · obtain ⟨k71, k72⟩ := k7
      subst k72
      exact ⟨⟨hx, hj⟩, k71, by rw [k12.2.1 24 1 (by unfold pfl; omega)]; exact h0, hA.tr (k12.mono fun a k z => by unfold pfl at z; unfold pW; omega)⟩
  | succ d ih =>
    intro i hd hi hj
    obtain ⟨b1, b2⟩ := hT i (by omega)
    have hs := sb_w b1
    refine g155_1 hS ⟨fun c => absurd ((o_le (by omega) (by omega)).mp c) (by omega), fun _ => ⟨(o_in (by omega)).mpr (by omega), ?_⟩⟩
    rw [o_cl (by omega), b2, o_s]
    refine ⟨fun c => ⟨fun w => hs.1 c (w.2 i (by omega)), M, hS, rfl, rfl, h0, hA⟩, fun c => ⟨fun c2 => ?_, fun c2 => ⟨fun w => hs.2.2 c2 (w.2 i (by omega)), M, hS, rfl, rfl, h0, hA⟩⟩⟩
    refine ih (i + 1) (by omega) (by omega) fun j hj2 => ?_
    by_cases e : j = i
    · rw [e]; exact hs.2.1 c c2
    · exact hj j (by omega)
theorem s155 {M : sm_M} (hS : SH M) (hT : cY M 24 tb tn) (hr : sm_rv M 23 9 = some fn) (hfn : fF fn) (hF : cF M fn w kf jf) (hw : wF w kf jf) : sm_xJ 155 [.ref 23, .int (x)] M (fun r M2 => ¬ wOk x tb tn ∧ ∃ M1, SH M1 ∧ r = M1.1 ∧ M2 = sm_new M1 48 6 ∧ iV M1 24 1 = 0 ∧ Fr pW M M1) (fun v M2 => wOk x tb tn ∧ v = pwd 0 tn tb (fun _ => x.toNatClampNeg) w kf jf ∧ iV M2 24 1 = 0 ∧ Fr pW M M2) := by
  obtain ⟨t1, t2, t3⟩ := hT
  have t1 : tn ≤ 8192 := t1
  have hfa : fn + 12 < 68 ∧ 42 ≤ fn := by unfold fF at hfn; omega
  refine g155_0 hS fun M1 s1 e1 => ?_
  have f1 : Fr pW M M1 := by rw [e1]; exact (Fr.rf _ _).wI (Or.inl ⟨rfl, rfl⟩)
  have h0 : iV M1 24 1 = 0 := by rw [e1, iV_wI, if_pos ⟨rfl, rfl⟩]
  rw [t2]
  refine ⟨fun c => ⟨fun w => w.1.1 c, M1, s1, rfl, rfl, h0, f1⟩, fun c => ⟨fun c2 => ?_, fun c2 => ⟨fun w => c2 w.1.2, M1, s1, rfl, rfl, h0, f1⟩⟩⟩
  exact s155_1 ⟨c, c2⟩ s1 t1 (fun i hi => ⟨(t3 i hi).1, by rw [e1, iV_wI, if_neg (by omega)]; exact (t3 i hi).2⟩) h0 (by rw [f1.1.2.2.2.2]; exact hr) hfn (hF.eq fun a k h1 h2 => f1.2.1 a k (by unfold pW; omega)) hw f1 tn 0 (by omega) (by omega) fun j hj => by omega
def pMW : Nat → Nat → Prop := fun a k => a = 116 ∧ (k = 0 ∨ k = 3 ∨ k = 4 ∨ k = 8) ∨ a = 118 ∨ a = 148
theorem s193_2 {A : sm_M} (hx : ¬ x < 1000 ∧ x ≤ 100000) (hn : tn ≤ 8192) (hok : ∀ i, i < tn → 32 ≤ tb i ∧ tb i ≤ 126) : ∀ (d i : Nat), tn - i = d → i ≤ tn → ∀ M, SH M → mR M tb tn → mF M w kf jf → iV M 116 0 = 0 → iV M 116 3 = 0 → Fr pMW A M → (∀ j, j < i → iV M 148 j = x) → sm_w 193 (74, [some (.ref 116), some (.int (x)), some (.int (Int32.ofNat i))], []) M (rJ (fun v M2 => ((wOk x tb tn ∧ iV M2 116 0 = 0 ∧ v = pwd 0 tn tb (fun _ => x.toNatClampNeg) w kf jf) ∨ (¬ wOk x tb tn ∧ iV M2 116 0 = 1)) ∧ iV M2 116 3 = 0 ∧ Fr pMW A M2)) := by
  obtain ⟨z1, z2, z3⟩ := z_size hx.1 hx.2
  intro d
  induction d with
  | zero =>
    intro i hd hi M hS hT hF h0 h3 hA hj
    have e : i = tn := by omega
    subst e
    refine g193_2 hS ?_
    rw [hT.1]
    refine ⟨fun _ => ?_, fun c => absurd ((o_le (by omega) (by omega)).mpr (Nat.le_refl _)) c⟩
    refine (s194 (a := 0) (x := tb) (z := fun _ => x.toNatClampNeg) hS a_118 a_148 hF hn (Nat.zero_le _) hn hn (fun j h1 _ => ?_) (fun j h1 _ => ?_)).mono fun v M7 k7 s7 => ?_
    · have := hok j h1
      exact ⟨by omega, hT.2 j h1⟩
    · exact ⟨z2, by rw [← z3]; exact hj j h1⟩
    · obtain ⟨k71, k72⟩ := k7
      subst k72
      exact ⟨Or.inl ⟨⟨hx, hok⟩, h0, k71⟩, h3, hA⟩
  | succ d ih =>
    intro i hd hi M hS hT hF h0 h3 hA hj
    refine g193_2 hS ?_
    rw [hT.1, o_s]
    refine ⟨fun c => absurd ((o_le (by omega) (by omega)).mp c) (by omega), fun _ => ⟨(o_in (by omega)).mpr (by omega), fun M5 s5 e5 => ?_⟩⟩
    rw [o_cl (by omega)] at e5
    refine ih (i + 1) (by omega) (by omega) M5 s5 ⟨by rw [e5, iV_wI, if_neg (by omega)]; exact hT.1, fun j h => by rw [e5, iV_wI, if_neg (by omega)]; exact hT.2 j h⟩ (hF.eq (by rw [e5, iV_wI, if_neg (by omega)]) (by rw [e5, iV_wI, if_neg (by omega)]) fun a k h => by rw [e5, iV_wI, if_neg (by omega)]) (by rw [e5, iV_wI, if_neg (by omega)]; exact h0) (by rw [e5, iV_wI, if_neg (by omega)]; exact h3) (by rw [e5]; exact hA.wI (Or.inr (Or.inr rfl))) fun j h => ?_
    rw [e5, iV_wI]
    by_cases e : j = i
    · rw [if_pos ⟨rfl, e⟩]
    · rw [if_neg (by omega)]; exact hj j (by omega)
theorem s193_1 {A M : sm_M} (hx : ¬ x < 1000 ∧ x ≤ 100000) (hn : tn ≤ 8192) (hB : ∀ i, i < tn → tb i < 256) (hS : SH M) (hT : mR M tb tn) (hF : mF M w kf jf) (h3 : iV M 116 3 = 0) (hA : Fr pMW A M) : ∀ (d i : Nat), tn - i = d → i ≤ tn → (∀ j, j < i → 32 ≤ tb j ∧ tb j ≤ 126) → sm_w 193 (27, [some (.ref 116), some (.int (x)), some (.int (Int32.ofNat i))], []) M (rJ (fun v M2 => ((wOk x tb tn ∧ iV M2 116 0 = 0 ∧ v = pwd 0 tn tb (fun _ => x.toNatClampNeg) w kf jf) ∨ (¬ wOk x tb tn ∧ iV M2 116 0 = 1)) ∧ iV M2 116 3 = 0 ∧ Fr pMW A M2)) := by
  intro d
  induction d with
  | zero =>
    intro i hd hi hj
    have e : i = tn := by omega
    subst e
    refine g193_1 hS ?_
    rw [hT.1]
    refine ⟨fun _ M1 s1 e1 => ?_, fun c => absurd ((o_le (by omega) (by omega)).mpr (Nat.le_refl _)) c⟩
    exact s193_2 hx hn hj i 0 (by omega) (by omega) M1 s1 ⟨by rw [e1, iV_wI, if_neg (by omega)]; exact hT.1, fun j h => by rw [e1, iV_wI, if_neg (by omega)]; exact hT.2 j h⟩ (hF.eq (by rw [e1, iV_wI, if_neg (by omega)]) (by rw [e1, iV_wI, if_neg (by omega)]) fun a k h => by rw [e1, iV_wI, if_neg (by omega)]) (by rw [e1, iV_wI, if_pos ⟨rfl, rfl⟩]) (by rw [e1, iV_wI, if_neg (by omega)]; exact h3) (by rw [e1]; exact hA.wI (Or.inl ⟨rfl, Or.inl rfl⟩)) fun j h => by omega
  | succ d ih =>
    intro i hd hi hj
    have hb := hB i (by omega)
    refine g193_1 hS ?_
    rw [hT.1, o_cl (by omega), hT.2 i (by omega), o_s, show (32 : Int64) = (32 : Int32).toInt64 from rfl, show (126 : Int64) = (126 : Int32).toInt64 from rfl, p166_i, show (32 : Int32) = Int32.ofNat 32 from rfl, show (126 : Int32) = Int32.ofNat 126 from rfl, o_lt (by omega) (by omega), o_le (n := tb i) (by omega) (by omega)]
    refine ⟨fun c => absurd ((o_le (by omega) (by omega)).mp c) (by omega), fun _ => ⟨(o_in (by omega)).mpr (by omega), fun c M7 s7 e7 => ?_, fun c => ?_⟩⟩
    · refine ⟨Or.inr ⟨fun w => ?_, by rw [e7, iV_wI, if_pos ⟨rfl, rfl⟩]⟩, by rw [e7, iV_wI, if_neg (by omega)]; exact h3, by rw [e7]; exact hA.wI (Or.inl ⟨rfl, Or.inl rfl⟩)⟩
      have := w.2 i (by omega)
      omega
    · refine ih (i + 1) (by omega) (by omega) fun j hj2 => ?_
      by_cases e : j = i
      · rw [e]; omega
      · exact hj j (by omega)
theorem s193 {M : sm_M} (hS : SH M) (hn : tn ≤ 8192) (hB : ∀ i, i < tn → tb i < 256) (hT : mT M tb tn) (hF : mF M w kf jf) : sm_cJ 193 [.ref 116, .int (x)] M (fun v M2 => ((wOk x tb tn ∧ iV M2 116 0 = 0 ∧ v = pwd 0 tn tb (fun _ => x.toNatClampNeg) w kf jf) ∨ (¬ wOk x tb tn ∧ iV M2 116 0 = 1)) ∧ iV M2 116 3 = 0 ∧ Fr pMW M M2) := by
  refine g193_0 hS ((s169 hS hn hT).mono fun M1 k1 s1 => ?_)
  obtain ⟨k11, k12, k13, f1⟩ := k1
  have f4 : Fr pMW M M1 := f1.mono fun a k z => by unfold pTk at z; unfold pMW; omega
  rw [show (1000 : Int64) = (1000 : Int32).toInt64 from rfl, show (100000 : Int64) = (100000 : Int32).toInt64 from rfl, p166_i]
  refine ⟨fun c M7 s7 e7 => ⟨Or.inr ⟨fun w => c w.1, by rw [e7, iV_wI, if_pos ⟨rfl, rfl⟩]⟩, by rw [e7, iV_wI, if_neg (by omega)]; exact k12, by rw [e7]; exact f4.wI (Or.inl ⟨rfl, Or.inl rfl⟩)⟩, fun c => ?_⟩
  exact s193_1 (Classical.not_not.mp c) hn hB s1 k11 (hF.eq (f1.2.1 _ _ (by unfold pTk; omega)) (f1.2.1 _ _ (by unfold pTk; omega)) fun a k h => f1.2.1 _ _ (by unfold pTk; omega)) k12 f4 tn 0 (by omega) (by omega) fun j h => by omega
end WID
