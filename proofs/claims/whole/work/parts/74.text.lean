/-! TEXT. -/
def tf (D : Nat → Nat → Nat) (i : Nat) : Nat := if i = 0 then 0 else D 1 i + (if D 0 i = 0 then 1 else 0)
def tO (D : Nat → Nat → Nat) (i j : Nat) : Nat → Nat := fun k => if k < D 1 j - tf D i then D 8 (tf D i + k) else 45
def tL (D : Nat → Nat → Nat) (i j : Nat) : Nat := (D 1 j - tf D i) + (if D 0 j = 1 then 1 else 0)
theorem cY.congr {M : sm_M} {o n : Nat} {f g : Nat → Nat} (h : cY M o f n) (e : ∀ i, i < n → f i = g i) : cY M o g n := ⟨h.1, h.2.1, fun i hi => by rw [← e i hi]; exact h.2.2 i hi⟩
def ptx : Nat → Nat → Prop := fun a k => a = 41 ∨ a = 26 ∧ k = 1 ∨ a = 27
section TEXT
variable {D : Nat → Nat → Nat} {o : Nat} {x : Int32}
theorem cLine_fr {M M2 : sm_M} {l i j : Nat} {p : Nat → Nat → Prop} (h : cLine M l D i j) (f : Fr p M M2) (hp : ∀ k, ¬ p l k) : cLine M2 l D i j := by
  have ei : ∀ k, iV M2 l k = iV M l k := fun k => f.2.1 l k (hp k)
  have ej : ∀ k, jV M2 l k = jV M l k := fun k => f.2.2 l k (hp k)
  unfold cLine at h ⊢
  rw [ei, ei, ei, ei, ei, ei, ei, ej, ej, ej, ej]
  exact h
theorem s144_1 {A : sm_M} {i j : Nat} {X : Nat → sm_M → Prop} (ho : fS o) (hw : wK D) (hl : wL D) (hij : i < j) (hj : j ≤ D 12 0) : ∀ (d k : Nat), D 1 j - tf D i - k = d → k ≤ D 1 j - tf D i → ∀ M, SH M → cK M o D → cLn M o D → cLine M 41 D i j → cY M 26 (tO D i j) k → Fr ptx A M → sm_w 144 (47, [some (.ref 23), none, some (.ref (o + 1)), some (.int (Int32.ofNat (D 1 j))), some (.int (Int32.ofNat (tf D i + k)))], []) M (yI X (fun v M2 => v = Int32.ofNat (tL D i j) ∧ cY M2 26 (tO D i j) (tL D i j) ∧ Fr ptx A M2)) := by
  have hn := hw.1
  have hj4 := hw.2.2.1 j hj
  obtain ⟨l1, l2, l3, l4, l5, l6⟩ := hl
  have l5j := l5 j hj
  have hd : ∀ a k, o ≤ a → a ≤ o + 13 → ¬ pY 26 a k := fun a k z1 z2 => by unfold pY; unfold fS at ho; omega
  have htf : tf D i ≤ 4001 := by
    unfold tf
    have := hw.2.2.1 i (by omega)
    split
    · omega
    · split <;> omega
  intro d
  induction d with
  | zero =>
    intro k hd0 hk M hS hK hL hln hY hA
    have e : k = D 1 j - tf D i := by omega
    subst e
    refine g144_1 hS (fS_1 ho) ⟨fun _ => ?_, fun c => absurd ((o_le (by omega) (by omega)).mpr (by omega)) c⟩
    rw [hln.2.1, o_cl (by omega), (hK.2.1 j hj).1, show (1 : Int32) = Int32.ofNat 1 from rfl, o_eq (by omega) (by omega)]
    refine ⟨(o_in (by omega)).mpr (by omega), fun c => ?_, fun c => ?_⟩
    · refine (s20 (x := 45) hS fB_26 hY (by show _ < 6000; omega)).mono fun M2 k2 s2 => ?_
      have et : tL D i j = D 1 j - tf D i + 1 := by unfold tL; rw [if_pos c]
      rw [et]
      refine ⟨k2.1.2.1, k2.1.congr fun q hq => ?_, hA.tr (k2.2.mono fun a k z => by unfold pY at z; unfold ptx; omega)⟩
      unfold tp tO
      by_cases h : q = D 1 j - tf D i
      · rw [if_pos h, if_neg (by omega)]; rfl
      · rw [if_neg h]
    · have et : tL D i j = D 1 j - tf D i := by unfold tL; rw [if_neg c]; rfl
      rw [et]
      exact ⟨hY.2.1, hY, hA⟩
  | succ d ih =>
    intro k hd0 hk M hS hK hL hln hY hA
    have h8 := l4 (tf D i + k) (by omega)
    refine g144_1 hS (fS_1 ho) ⟨fun c => absurd ((o_le (by omega) (by omega)).mp c) (by omega), fun _ => ⟨(o_in (by omega)).mpr (by omega), ?_⟩⟩
    rw [o_cl (by omega), hL.2.2.2.2.2 (tf D i + k) (by omega), o_s]
    refine (s20 hS fB_26 hY (by show _ < 6000; omega)).mono fun M6 k6 s6 => ?_
    refine ih (k + 1) (by omega) (by omega) M6 s6 (hK.fr k6.2 hd) (hL.fr k6.2 hd) (cLine_fr hln k6.2 fun q => by unfold pY; omega) (k6.1.congr fun q hq => ?_) (hA.tr (k6.2.mono fun a k z => by unfold pY at z; unfold ptx; omega))
    unfold tp
    by_cases h : q = k
    · rw [if_pos h]
      unfold tO
      rw [if_pos (by omega), h]
      unfold bN
      show (BitVec.ofNat 32 (D 8 (tf D i + k))).toNat % 256 = _
      rw [BitVec.toNat_ofNat]
      omega
    · rw [if_neg h]
theorem P145 {M : sm_M} {i : Nat} (hw : wK D) (hi : i ≤ D 12 0) (hK : cK M o D) : p145_0 M (o + 1) (Int32.ofNat i) = Int32.ofNat (tf D i) ∧ q145_0 M (o + 1) (Int32.ofNat i) := by
  have hn := hw.1
  have h0 := hw.2.2.2.2.1
  obtain ⟨a1, a2, -⟩ := hK.2.1 i hi
  have hk := hw.2.2.1 i hi
  have hin : vp_in (Int32.ofNat i) 601 := (o_in (by omega)).mpr (by omega)
  have k1 : Int32.ofNat i ≤ 0 ↔ i = 0 := o_le0 (by omega)
  have k2 : Int32.ofNat (D 0 i) = 0 ↔ D 0 i = 0 := o_eq0 (by omega)
  constructor
  · unfold p145_0 tf
    rw [o_cl (by omega), a1, a2, o_s]
    by_cases c : i = 0
    · rw [if_pos (k1.mpr c), if_pos c, c, h0.2.1]
    · rw [if_neg (mt k1.mp c), if_neg c]
      by_cases c2 : D 0 i = 0
      · rw [if_pos (k2.mpr c2), if_pos c2]
      · rw [if_neg (mt k2.mp c2), if_neg c2]; rfl
  · unfold q145_0
    exact ⟨fun _ => hin, fun _ => ⟨hin, fun _ => hin, fun _ => hin⟩⟩
theorem s144n {M : sm_M} (hS : SH M) (hs : iV M 23 15 = 0) : sm_xI 144 [.ref 23, .int (x)] M (fun r M2 => ((x < 0 ∧ M2 = sm_new M 48 6) ∨ (¬ x < 0 ∧ M2 = sm_new M 49 6)) ∧ r = M.1) (fun _ _ => False) := g144_0 hS ((s135n hS hs).mono (fun r M2 k => k) (fun M2 k => k.elim))
theorem s144 {M : sm_M} (hS : SH M) (hs : ¬ iV M 23 15 = 0) (hr : sm_rv M 23 13 = some o) (ho : fS o) (hw : wK D) (hl : wL D) (hK : cK M o D) (hL : cLn M o D) : sm_xI 144 [.ref 23, .int (x)] M (fun r M2 => ¬ (¬ x < 0 ∧ x < Int32.ofNat (D 12 7)) ∧ r = M.1 ∧ M2 = sm_new M 48 6) (fun v M2 => (¬ x < 0 ∧ x < Int32.ofNat (D 12 7)) ∧ v = Int32.ofNat (tL D (lf D x.toNatClampNeg) (D 10 x.toNatClampNeg)) ∧ cY M2 26 (tO D (lf D x.toNatClampNeg) (D 10 x.toNatClampNeg)) (tL D (lf D x.toNatClampNeg) (D 10 x.toNatClampNeg)) ∧ Fr ptx M M2) := by
  have hn := hw.1
  have hq7 := hl.1
  have hd : ∀ a k, o ≤ a → a ≤ o + 13 → ¬ pl 41 a k := fun a k z1 z2 => by unfold pl; unfold fS at ho; omega
  have hd2 : ∀ a k, o ≤ a → a ≤ o + 13 → ¬ pY 26 a k := fun a k z1 z2 => by unfold pY; unfold fS at ho; omega
  refine g144_0 hS ((s135 hS hs hr ho hw hl hK hL).mono (fun r M2 k => k) (fun M1 k s1 => ?_))
  obtain ⟨kr, kl, kf⟩ := k
  have kr0 := kr
  obtain ⟨q, hq, e⟩ := z_ps kr.1
  subst e
  have hql := (o_lt hq (by omega)).mp kr.2
  rw [o_cl hq] at kl ⊢
  obtain ⟨q1, q2⟩ := hl.2.1 q hql
  have K1 := hK.fr kf hd
  have L1 := hL.fr kf hd
  refine ⟨o, by rw [kf.1.2.2.2.2]; exact hr, ho, ?_⟩
  rw [kl.2.1, o_cl (by omega), (K1.2.1 (D 10 q) q2).2.1]
  refine ⟨(o_in (by omega)).mpr (by omega), fun M8 s8 e8 => ?_⟩
  have f8 : Fr (pY 26) M1 M8 := by rw [e8]; exact (Fr.rf _ _).wI (Or.inl ⟨rfl, rfl⟩)
  have K8 := K1.fr f8 hd2
  have L8 := L1.fr f8 hd2
  have kl8 := cLine_fr kl f8 fun q => by unfold pY; omega
  have p5 := P145 hw (show lf D q ≤ D 12 0 by omega) K8
  rw [kl8.1, p5.1]
  refine ⟨p5.2, ?_⟩
  have h := s144_1 (A := M) (X := fun r M2 => ¬ (¬ Int32.ofNat q < 0 ∧ Int32.ofNat q < Int32.ofNat (D 12 7)) ∧ r = M.1 ∧ M2 = sm_new M 48 6) ho hw hl q1 q2 _ 0 rfl (Nat.zero_le _) M8 s8 K8 L8 kl8 ⟨Nat.zero_le _, by rw [e8, iV_wI, if_pos ⟨rfl, rfl⟩]; rfl, fun i hi => by omega⟩ ((Fr.mono (q := ptx) kf fun a k z => Or.inl z).tr (Fr.mono (q := ptx) f8 fun a k z => by unfold pY at z; unfold ptx; omega))
  refine h.mono fun oo M2 z => ?_
  rcases z with z | ⟨v, z1, z2, z3, z4⟩
  · exact Or.inl z
  · exact Or.inr ⟨v, z1, kr0, z2, z3, z4⟩
end TEXT
