/-! JUDGE: both. -/
/-- what judge answers, where the row is a row -/
def jR (D : Nat → Nat → Nat) (tb : Nat → Nat) (tn : Nat) (v : Int64) : Prop := ((∀ q, q ≤ tn / 2 → jok D (jp tb q) (jt D tb (tn / 2) q)) ∧ v = Int64.ofNat (jS D tb (tn / 2) (tn / 2 + 1))) ∨ (¬ (∀ q, q ≤ tn / 2 → jok D (jp tb q) (jt D tb (tn / 2) q)) ∧ v = -1)
def pJ : Nat → Nat → Prop := fun a k => a = 24 ∧ k = 1 ∨ a = 41
section JUD2
variable {D : Nat → Nat → Nat} {o : Nat} {tb : Nat → Nat} {tn : Nat}
theorem s147n {M : sm_M} (hS : SH M) (hs : iV M 23 15 = 0) : sm_xJ 147 [.ref 23] M (fun r M2 => ∃ M1, SH M1 ∧ r = M1.1 ∧ M2 = sm_new M1 49 6 ∧ iV M1 24 1 = 0 ∧ Fr pJ M M1) (fun _ _ => False) := by
  refine g147_0 hS fun M1 s1 e1 => ?_
  refine ⟨fun _ => ⟨M1, s1, rfl, rfl, by rw [e1, iV_wI, if_pos ⟨rfl, rfl⟩], by rw [e1]; exact (Fr.rf _ _).wI (Or.inl ⟨rfl, rfl⟩)⟩, fun c => absurd ?_ c⟩
  rw [e1, iV_wI, if_neg (by omega)]
  exact hs
theorem s147 {M : sm_M} (hS : SH M) (hs : ¬ iV M 23 15 = 0) (hY : cY M 24 tb tn) (hr : sm_rv M 23 13 = some o) (ho : fS o) (hw : wK D) (hl : wL D) (hK : cK M o D) (hL : cLn M o D) : sm_xJ 147 [.ref 23] M (fun r M2 => ¬ (tn % 2 = 0 ∧ okR D tb (tn / 2)) ∧ ∃ M1, SH M1 ∧ r = M1.1 ∧ M2 = sm_new M1 48 6 ∧ iV M1 24 1 = 0 ∧ Fr pJ M M1) (fun v M2 => (tn % 2 = 0 ∧ okR D tb (tn / 2)) ∧ jR D tb tn v ∧ iV M2 24 1 = 0 ∧ Fr pJ M M2) := by
  obtain ⟨t1, t2, t3⟩ := hY
  have t1 : tn ≤ 8192 := t1
  have hdJ : ∀ a k, o ≤ a → a ≤ o + 13 → ¬ pJ a k := fun a k z1 z2 => by unfold pJ; unfold fS at ho; omega
  refine g147_0 hS fun M1 s1 e1 => ?_
  rw [t2]
  have f1 : Fr pJ M M1 := by rw [e1]; exact (Fr.rf _ _).wI (Or.inl ⟨rfl, rfl⟩)
  have z1 : iV M1 24 1 = 0 := by rw [e1, iV_wI, if_pos ⟨rfl, rfl⟩]
  have n1 : ¬ iV M1 23 15 = 0 := by rw [e1, iV_wI, if_neg (by omega)]; exact hs
  have T1 : ∀ i, i < tn → tb i < 256 ∧ iV M1 25 i = sb (tb i) := fun i hi => ⟨(t3 i hi).1, by rw [e1, iV_wI, if_neg (by omega)]; exact (t3 i hi).2⟩
  have hr1 : sm_rv M1 23 13 = some o := by rw [f1.1.2.2.2.2]; exact hr
  have K1 := hK.fr f1 hdJ
  have L1 := hL.fr f1 hdJ
  refine ⟨fun c => absurd c n1, fun _ => ⟨o, hr1, ho, (s148 s1 ho hw K1 T1 t1).mono fun v M9 k9 s9 => ?_⟩⟩
  obtain ⟨k1, k2⟩ := k9
  subst k2
  refine ⟨fun c => ?_, fun c => ⟨o, hr1, ho, ?_⟩⟩
  · rcases k1 with ⟨q1, q2⟩ | ⟨q1, q2⟩
    · rw [q1] at c; exact absurd c (by decide)
    · exact ⟨q2, M9, s9, rfl, rfl, z1, f1⟩
  · have hok : tn % 2 = 0 ∧ okR D tb (tn / 2) := by
      rcases k1 with ⟨q1, q2⟩ | ⟨q1, q2⟩
      · exact q2
      · exact absurd q1 c
    have h := s150_1 (A := M9) ho hw hl t1 hok.1 hok.2 _ 0 rfl (Nat.zero_le _) (fun q hq => by omega) M9 s9 K1 L1 T1 (Fr.rf _ _) (jp tb 0) (jg D tb 0) (fun _ => ⟨rfl, rfl⟩)
    refine sm_cJ.mono (K := fun v M2 => jR D tb tn v ∧ Fr (pl 41) M9 M2) (g150_0 s9 ho a_25 fL_41 h) fun v M15 k15 s15 => ?_
    refine ⟨hok, k15.1, ?_, f1.tr (k15.2.mono fun a k z => Or.inr z)⟩
    rw [k15.2.2.1 24 1 (by unfold pl; omega)]
    exact z1
def pMJ : Nat → Nat → Prop := fun a k => a = 116 ∧ (k = 0 ∨ k = 3 ∨ k = 4 ∨ k = 8 ∨ 78 ≤ k ∧ k ≤ 85) ∨ a = 118
theorem s221_2 {A : sm_M} (hw : wK D) (hl : wL D) (hn : tn ≤ 8192) (he : tn % 2 = 0) (hB : ∀ i, i < tn → tb i < 256) (hok : okR D tb (tn / 2)) : ∀ (d k : Nat), tn / 2 + 1 - k = d → k ≤ tn / 2 + 1 → (∀ q, q < k → jok D (jp tb q) (jt D tb (tn / 2) q)) → ∀ M, SH M → mK M D → mLn M D → mR M tb tn → iV M 116 0 = 0 → iV M 116 3 = 0 → Fr pMJ A M → ∀ from' gr : Nat, (k ≤ tn / 2 → from' = jp tb k ∧ gr = jg D tb k) → sm_w 221 (110, [some (.ref 116), some (.int (Int32.ofNat from')), some (.long (Int64.ofNat (jS D tb (tn / 2) k))), none, some (.int (Int32.ofNat gr)), some (.int (Int32.ofNat (2 * k))), none], []) M (rJ (fun v M2 => jR D tb tn v ∧ iV M2 116 0 = 0 ∧ iV M2 116 3 = 0 ∧ Fr pMJ A M2)) := by
  have hn6 := hw.1
  have h5 := hl.2.2.2.2.2
  have hp7 : (∀ k, 60 ≤ k → k ≤ 63 → ¬ pm7 116 k) ∧ ∀ a k, 150 ≤ a → a ≤ 156 → ¬ pm7 a k := ⟨fun k z1 z2 => by unfold pm7; omega, fun a k z1 z2 => by unfold pm7; omega⟩
  have hp8 : (∀ k, 64 ≤ k → k ≤ 67 → ¬ pm7 116 k) ∧ (∀ k, ¬ pm7 149 k) ∧ ∀ a k, 161 ≤ a → a ≤ 163 → ¬ pm7 a k := ⟨fun k z1 z2 => by unfold pm7; omega, fun k => by unfold pm7; omega, fun a k z1 z2 => by unfold pm7; omega⟩
  intro d
  induction d with
  | zero =>
    intro k hd hk hj M hS hK hL hT h0 h3 hA fr gr hfg
    have e : k = tn / 2 + 1 := by omega
    subst e
    refine g221_2 hS ?_
    rw [hT.1]
    exact ⟨fun _ => ⟨Or.inl ⟨fun q hq => hj q (by omega), rfl⟩, h0, h3, hA⟩, fun c => absurd ((o_lt (by omega) (by omega)).mpr (by omega)) c⟩
  | succ d ih =>
    intro k hd hk hj M hS hK hL hT h0 h3 hA fr gr hfg
    obtain ⟨h1, h2⟩ := hfg (by omega)
    subst h1 h2
    have hji : jp tb k < jt D tb (tn / 2) k ∧ jt D tb (tn / 2) k ≤ D 12 0 := by
      unfold jt
      by_cases c : k < tn / 2
      · rw [if_pos c]
        have := hok k c
        omega
      · rw [if_neg c]
        unfold jp
        split
        · omega
        · have := hok (k - 1) (by omega)
          omega
    have hg3 : jg D tb k ≤ 3 := by
      unfold jg
      split
      · omega
      · exact eC_le _ _ _
    have hB2 := eB_le D (jp tb k) (jt D tb (tn / 2) k)
    have hm := eM_le hw hji.1 hji.2
    have body : ∀ (j : Nat), j = jt D tb (tn / 2) k → sm_cV 207 [.ref 116, .int (Int32.ofNat (jp tb k)), .int (Int32.ofNat j)] M (fun M1 => SH M1 → (((iV M1 116 65) < (iV M1 116 84) → jR D tb tn (-1 : Int64) ∧ iV M1 116 0 = 0 ∧ iV M1 116 3 = 0 ∧ Fr pMJ A M1) ∧ (¬ (iV M1 116 65) < (iV M1 116 84) → (((iV M1 116 85) = 0 → (q210_0 M1 (Int32.ofNat (jp tb k)) (Int32.ofNat j) (Int32.ofNat (jg D tb k))) ∧ sm_w 221 (110, [some (.ref 116), some (.int (Int32.ofNat j)), some (.long (Int64.ofNat (jS D tb (tn / 2) k) + (p210_0 M1 (Int32.ofNat (jp tb k)) (Int32.ofNat j) (Int32.ofNat (jg D tb k))))), none, some (.int (p209_0 M1)), some (.int (Int32.ofNat (2 * k) + (2 : Int32))), none], []) M1 (rJ (fun v M2 => jR D tb tn v ∧ iV M2 116 0 = 0 ∧ iV M2 116 3 = 0 ∧ Fr pMJ A M2))) ∧ (¬ (iV M1 116 85) = 0 → (((iV M1 116 65) = (10001 : Int32) → (q210_0 M1 (Int32.ofNat (jp tb k)) (Int32.ofNat j) (Int32.ofNat (jg D tb k))) ∧ sm_w 221 (110, [some (.ref 116), some (.int (Int32.ofNat j)), some (.long (Int64.ofNat (jS D tb (tn / 2) k) + (p210_0 M1 (Int32.ofNat (jp tb k)) (Int32.ofNat j) (Int32.ofNat (jg D tb k))))), none, some (.int (p209_0 M1)), some (.int (Int32.ofNat (2 * k) + (2 : Int32))), none], []) M1 (rJ (fun v M2 => jR D tb tn v ∧ iV M2 116 0 = 0 ∧ iV M2 116 3 = 0 ∧ Fr pMJ A M2))) ∧ (¬ (iV M1 116 65) = (10001 : Int32) → jR D tb tn (-1 : Int64) ∧ iV M1 116 0 = 0 ∧ iV M1 116 3 = 0 ∧ Fr pMJ A M1)))))))  := fun j hjj => by
      subst hjj
      refine (s207 hS hw hK hji.1 hji.2).mono fun M1 k1 s1 => ?_
      obtain ⟨kl, kf⟩ := k1
      have K1 := hK.fr kf hp7
      have L1 := hL.fr kf hp8
      have T1 := hT.fr kf (by unfold pm7; exact ⟨by omega, fun k => by omega⟩)
      have z1 : iV M1 116 0 = 0 := by rw [kf.2.1 116 0 (by unfold pm7; omega)]; exact h0
      have y1 : iV M1 116 3 = 0 := by rw [kf.2.1 116 3 (by unfold pm7; omega)]; exact h3
      have f1 : Fr pMJ A M1 := hA.tr (kf.mono fun a k z => by unfold pm7 at z; unfold pMJ; omega)
      have bad : ¬ jok D (jp tb k) (jt D tb (tn / 2) k) → jR D tb tn (-1 : Int64) ∧ iV M1 116 0 = 0 ∧ iV M1 116 3 = 0 ∧ Fr pMJ A M1 := fun c => ⟨Or.inr ⟨fun w => c (w k (by omega)), rfl⟩, z1, y1, f1⟩
      have good : jok D (jp tb k) (jt D tb (tn / 2) k) → (q210_0 M1 (Int32.ofNat (jp tb k)) (Int32.ofNat (jt D tb (tn / 2) k)) (Int32.ofNat (jg D tb k))) ∧ sm_w 221 (110, [some (.ref 116), some (.int (Int32.ofNat (jt D tb (tn / 2) k))), some (.long (Int64.ofNat (jS D tb (tn / 2) k) + (p210_0 M1 (Int32.ofNat (jp tb k)) (Int32.ofNat (jt D tb (tn / 2) k)) (Int32.ofNat (jg D tb k))))), none, some (.int (p209_0 M1)), some (.int (Int32.ofNat (2 * k) + (2 : Int32))), none], []) M1 (rJ (fun v M2 => jR D tb tn v ∧ iV M2 116 0 = 0 ∧ iV M2 116 3 = 0 ∧ Fr pMJ A M2)) := fun c => by
        obtain ⟨p1, p2⟩ := P210 hw hji.1 hji.2 K1 kl hg3
        refine ⟨p2, ?_⟩
        rw [p1, j_add, P209 hm kl, show Int32.ofNat (2 * k) + 2 = Int32.ofNat (2 * (k + 1)) from (Int32.ofNat_add (2 * k) 2).symm]
        refine ih (k + 1) (by omega) (by omega) (fun q hq => ?_) M1 s1 K1 L1 T1 z1 y1 f1 _ _ (fun hk1 => ?_)
        · by_cases e : q = k
          · rw [e]; exact c
          · exact hj q (by omega)
        · have e1 : jt D tb (tn / 2) k = nb tb k := if_pos (by omega)
          have e2 : jp tb (k + 1) = nb tb k := if_neg (by omega)
          have e3 : jg D tb (k + 1) = eC D (jp tb k) (nb tb k) := if_neg (by omega)
          rw [e1, e2, e3]
          exact ⟨rfl, rfl⟩
      rw [kl.2.2.2.2.2.2, L1.1, o_lt (by omega) (by omega), show (10001 : Int32) = Int32.ofNat 10001 from rfl, o_eq (n := D 12 5) (m := 10001) (by omega) (by omega), kl.2.2.2.2.1]
      refine ⟨fun c => bad (fun w => by have := w.1; omega), fun c => ⟨fun c2 => good ⟨by omega, Or.inl c2⟩, fun c2 => ⟨fun c3 => good ⟨by omega, Or.inr c3⟩, fun c3 => bad (fun w => ?_)⟩⟩⟩
      rcases w.2 with q | q
      · exact c2 q
      · exact c3 q
    refine g221_2 hS ?_
    rw [hT.1, o_lt (by omega) (by omega), o_eq (by omega) (by omega)]
    refine ⟨fun c => by omega, fun _ => ⟨fun c => ?_, fun c => ?_⟩⟩
    · rw [hK.1]
      exact body (D 12 0) (by unfold jt; rw [if_neg (by omega)])
    · have b1 := hB (2 * k) (by omega)
      have b2 := hB (2 * k + 1) (by omega)
      have e : Int32.ofNat (tb (2 * k)) * 256 + Int32.ofNat (tb (2 * k + 1)) = Int32.ofNat (nb tb k) := by
        unfold nb
        rw [Int32.ofNat_add, Int32.ofNat_mul]; rfl
      rw [o_s, o_cl (n := 2 * k) (by omega), o_cl (n := 2 * k + 1) (by omega), hT.2 (2 * k) (by omega), hT.2 (2 * k + 1) (by omega), e]
      exact ⟨(o_in (by omega)).mpr (by omega), (o_in (by omega)).mpr (by omega), body (nb tb k) (by unfold jt; rw [if_pos (by omega)])⟩
theorem s221_1 {A : sm_M} (hw : wK D) (hl : wL D) (hn : tn ≤ 8192) (he : tn % 2 = 0) (hB : ∀ i, i < tn → tb i < 256) {M : sm_M} (hS : SH M) (hK : mK M D) (hL : mLn M D) (hT : mR M tb tn) (h3 : iV M 116 3 = 0) (hA : Fr pMJ A M) : ∀ (d k : Nat), tn / 2 - k = d → k ≤ tn / 2 → okR D tb k → sm_w 221 (39, [some (.ref 116), some (.int (Int32.ofNat (jp tb k))), some (.int (Int32.ofNat (2 * k))), none, none, none, none], []) M (rJ (fun v M2 => ((okR D tb (tn / 2) ∧ jR D tb tn v ∧ iV M2 116 0 = 0) ∨ (¬ okR D tb (tn / 2) ∧ iV M2 116 0 = 2)) ∧ iV M2 116 3 = 0 ∧ Fr pMJ A M2)) := by
  have hn6 := hw.1
  have set0 : ∀ (c : Int32) (M4 : sm_M), M4 = sm_wI M 116 0 c → iV M4 116 0 = c ∧ iV M4 116 3 = 0 ∧ Fr pMJ A M4 := fun c M4 e4 => ⟨by rw [e4, iV_wI, if_pos ⟨rfl, rfl⟩], by rw [e4, iV_wI, if_neg (by omega)]; exact h3, by rw [e4]; exact hA.wI (Or.inl ⟨rfl, Or.inl rfl⟩)⟩
  intro d
  induction d with
  | zero =>
    intro k hd hk hok
    have e : k = tn / 2 := by omega
    subst e
    refine g221_1 hS ?_
    rw [hT.1]
    refine ⟨fun _ M1 s1 e1 => ?_, fun c => absurd ((o_le (by omega) (by omega)).mpr (by omega)) c⟩
    obtain ⟨z1, z2, z3⟩ := set0 0 M1 e1
    have h := s221_2 (A := A) hw hl hn he hB hok _ 0 rfl (Nat.zero_le _) (fun q hq => by omega) M1 s1 (by rw [e1]; exact hK.wI (by omega)) (by rw [e1]; exact hL.wI (by omega)) ⟨by rw [e1, iV_wI, if_neg (by omega)]; exact hT.1, fun j hj => by rw [e1, iV_wI, if_neg (by omega)]; exact hT.2 j hj⟩ z1 z2 z3 (jp tb 0) (jg D tb 0) (fun _ => ⟨rfl, rfl⟩)
    refine h.mono fun oo M2 z => ?_
    obtain ⟨v, q1, q2, q3, q4, q5⟩ := z
    exact ⟨v, q1, Or.inl ⟨hok, q2, q3⟩, q4, q5⟩
  | succ d ih =>
    intro k hd hk hok
    have b1 := hB (2 * k) (by omega)
    have b2 := hB (2 * k + 1) (by omega)
    have hb := nb_b (tb := tb) b1 b2
    have hjp : jp tb k < 65536 := by
      unfold jp
      split
      · omega
      · exact nb_b (hB (2 * (k - 1)) (by omega)) (hB (2 * (k - 1) + 1) (by omega))
    have e : Int32.ofNat (tb (2 * k)) * 256 + Int32.ofNat (tb (2 * k + 1)) = Int32.ofNat (nb tb k) := by
      unfold nb
      rw [Int32.ofNat_add, Int32.ofNat_mul]; rfl
    refine g221_1 hS ?_
    rw [hT.1, o_s, o_cl (n := 2 * k) (by omega), o_cl (n := 2 * k + 1) (by omega), hT.2 (2 * k) (by omega), hT.2 (2 * k + 1) (by omega), e, hK.1]
    refine ⟨fun c => absurd ((o_le (by omega) (by omega)).mp c) (by omega), fun _ => ⟨(o_in (by omega)).mpr (by omega), (o_in (by omega)).mpr (by omega), fun c M8 s8 e8 => ⟨Or.inr ⟨fun w => ?_, (set0 2 M8 e8).1⟩, (set0 2 M8 e8).2⟩, fun c => ⟨fun c2 => ?_, fun c2 M13 s13 e13 => ⟨Or.inr ⟨fun w => ?_, (set0 2 M13 e13).1⟩, (set0 2 M13 e13).2⟩⟩⟩⟩
    · have := w k (by omega)
      have := (o_le (by omega) (by omega)).mp c
      omega
    · have c := mt (o_le (n := nb tb k) (m := jp tb k) (by omega) (by omega)).mpr c
      have c2 := (o_lt (n := nb tb k) (by omega) (by omega)).mp c2
      have h := ih (k + 1) (by omega) (by omega) (fun q hq => by
        by_cases e : q = k
        · rw [e]; exact ⟨by omega, c2⟩
        · exact hok q (by omega))
      have e1 : jp tb (k + 1) = nb tb k := if_neg (by omega)
      rw [e1] at h
      rw [show Int32.ofNat (2 * k) + 2 = Int32.ofNat (2 * (k + 1)) from (Int32.ofNat_add (2 * k) 2).symm]
      exact h
    · have := w k (by omega)
      exact c2 ((o_lt (by omega) (by omega)).mpr this.2)
theorem s221n {M : sm_M} (hS : SH M) (hn : tn ≤ 8192) (hT : mT M tb tn) (hs : iV M 116 59 = 0) : sm_cJ 221 [.ref 116] M (fun _ M2 => iV M2 116 0 = 1 ∧ iV M2 116 3 = 0 ∧ Fr pMJ M M2) := by
  refine g221_0 hS ((s169 hS hn hT).mono fun M1 k1 s1 => ?_)
  obtain ⟨k11, k12, k13, f1⟩ := k1
  have f4 : Fr pMJ M M1 := f1.mono fun a k z => by unfold pTk at z; unfold pMJ; omega
  refine ⟨fun _ M7 s7 e7 => ⟨by rw [e7, iV_wI, if_pos ⟨rfl, rfl⟩], by rw [e7, iV_wI, if_neg (by omega)]; exact k12, by rw [e7]; exact f4.wI (Or.inl ⟨rfl, Or.inl rfl⟩)⟩, fun c => absurd ?_ c⟩
  rw [f1.2.1 116 59 (by unfold pTk; omega)]
  exact hs
theorem s221 {M : sm_M} (hS : SH M) (hn : tn ≤ 8192) (hB : ∀ i, i < tn → tb i < 256) (hT : mT M tb tn) (hs : ¬ iV M 116 59 = 0) (hw : wK D) (hl : wL D) (hK : mK M D) (hL : mLn M D) : sm_cJ 221 [.ref 116] M (fun v M2 => (((tn % 2 = 0 ∧ okR D tb (tn / 2)) ∧ jR D tb tn v ∧ iV M2 116 0 = 0) ∨ (¬ (tn % 2 = 0 ∧ okR D tb (tn / 2)) ∧ iV M2 116 0 = 2)) ∧ iV M2 116 3 = 0 ∧ Fr pMJ M M2) := by
  have hp7 : (∀ k, 60 ≤ k → k ≤ 63 → ¬ pTk 116 k) ∧ ∀ a k, 150 ≤ a → a ≤ 156 → ¬ pTk a k := ⟨fun k z1 z2 => by unfold pTk; omega, fun a k z1 z2 => by unfold pTk; omega⟩
  have hp8 : (∀ k, 64 ≤ k → k ≤ 67 → ¬ pTk 116 k) ∧ (∀ k, ¬ pTk 149 k) ∧ ∀ a k, 161 ≤ a → a ≤ 163 → ¬ pTk a k := ⟨fun k z1 z2 => by unfold pTk; omega, fun k => by unfold pTk; omega, fun a k z1 z2 => by unfold pTk; omega⟩
  refine g221_0 hS ((s169 hS hn hT).mono fun M1 k1 s1 => ?_)
  obtain ⟨k11, k12, k13, f1⟩ := k1
  have f4 : Fr pMJ M M1 := f1.mono fun a k z => by unfold pTk at z; unfold pMJ; omega
  rw [k11.1, ev_c hn, show (1 : Int32) = Int32.ofNat 1 from rfl, o_eq (n := tn % 2) (by omega) (by omega)]
  refine ⟨fun c => absurd c (by rw [f1.2.1 116 59 (by unfold pTk; omega)]; exact hs), fun _ => ⟨fun c M12 s12 e12 => ⟨Or.inr ⟨fun w => by omega, by rw [e12, iV_wI, if_pos ⟨rfl, rfl⟩]⟩, by rw [e12, iV_wI, if_neg (by omega)]; exact k12, by rw [e12]; exact f4.wI (Or.inl ⟨rfl, Or.inl rfl⟩)⟩, fun c => ?_⟩⟩
  have he : tn % 2 = 0 := by omega
  refine (s221_1 hw hl hn he hB s1 (hK.fr f1 hp7) (hL.fr f1 hp8) k11 k12 f4 _ 0 rfl (Nat.zero_le _) (fun q hq => by omega)).mono fun oo M2 z => ?_
  obtain ⟨v, q1, q2, q3, q4⟩ := z
  refine ⟨v, q1, ?_, q3, q4⟩
  rcases q2 with ⟨a, b, c⟩ | ⟨a, b⟩
  · exact Or.inl ⟨⟨he, a⟩, b, c⟩
  · exact Or.inr ⟨fun w => a w.2, b⟩
end JUD2
