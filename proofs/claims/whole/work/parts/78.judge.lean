/-! JUDGE: the kind. -/
def nb (tb : Nat → Nat) (k : Nat) : Nat := tb (2 * k) * 256 + tb (2 * k + 1)
def jp (tb : Nat → Nat) (k : Nat) : Nat := if k = 0 then 0 else nb tb (k - 1)
def jt (D : Nat → Nat → Nat) (tb : Nat → Nat) (m k : Nat) : Nat := if k < m then nb tb k else D 12 0
def jg (D : Nat → Nat → Nat) (tb : Nat → Nat) (k : Nat) : Nat := if k = 0 then 1 else eC D (jp tb (k - 1)) (nb tb (k - 1))
noncomputable def jS (D : Nat → Nat → Nat) (tb : Nat → Nat) (m : Nat) : Nat → Nat
  | 0 => 0
  | k + 1 => jS D tb m k + (alo D (jp tb k) (jt D tb m k) + beh D (jp tb k) (jt D tb m k) (jg D tb k))
/-- a line is taken -/
def jok (D : Nat → Nat → Nat) (i j : Nat) : Prop := eB D i j ≤ D 12 5 ∧ (¬ eX D i j ∨ D 12 5 = 10001)
def okR (D : Nat → Nat → Nat) (tb : Nat → Nat) (m : Nat) : Prop := ∀ q, q < m → jp tb q < nb tb q ∧ nb tb q < D 12 0
theorem nb_or {a b : Nat} (ha : a < 256) (hb : b < 256) : (Int32.ofNat a <<< ((8 : Int32) &&& 31)) ||| Int32.ofNat b = Int32.ofNat (a * 256 + b) := by
  have e1 : Int32.ofNat a <<< ((8 : Int32) &&& 31) = Int32.ofNat (a * 256) := (show ∀ a, a < 256 → Int32.ofNat a <<< ((8 : Int32) &&& 31) = Int32.ofNat (a * 256) from by decide +kernel) a ha
  rw [e1]
  apply Int32.toBitVec_inj.mp
  rw [Int32.toBitVec_or]
  show BitVec.ofNat 32 (a * 256) ||| BitVec.ofNat 32 b = BitVec.ofNat 32 (a * 256 + b)
  apply BitVec.eq_of_toNat_eq
  have h := Nat.two_pow_add_eq_or_of_lt (i := 8) (b := b) (by omega) a
  rw [BitVec.toNat_or, BitVec.toNat_ofNat, BitVec.toNat_ofNat, BitVec.toNat_ofNat, Nat.mod_eq_of_lt (by omega), Nat.mod_eq_of_lt (by omega), Nat.mod_eq_of_lt (by omega), show a * 256 = 2 ^ 8 * a from by omega]
  exact h.symm
section JUD
variable {D : Nat → Nat → Nat} {o : Nat} {tb : Nat → Nat} {tn : Nat}
theorem P149 {M : sm_M} {k : Nat} (hT : ∀ i, i < tn → tb i < 256 ∧ iV M 25 i = sb (tb i)) (hn : tn ≤ 8192) (hk : 2 * k + 1 < tn) : p149_0 M 25 8192 (Int32.ofNat (2 * k)) = Int32.ofNat (nb tb k) ∧ q149_0 M 25 8192 (Int32.ofNat (2 * k)) := by
  obtain ⟨a1, a2⟩ := hT (2 * k) (by omega)
  obtain ⟨b1, b2⟩ := hT (2 * k + 1) (by omega)
  have c1 : ¬ Int32.ofNat 8192 ≤ Int32.ofNat (2 * k + 1) := fun z => absurd ((o_le (by omega) (by omega)).mp z) (by omega)
  constructor
  · unfold p149_0 nb
    rw [o_s, if_neg (o_nn (by omega)), if_neg c1, o_cl (by omega), o_cl (by omega), a2, b2, sb_and a1, sb_and b1]
    exact nb_or a1 b1
  · unfold q149_0
    rw [o_s]
    exact ⟨fun _ => trivial, fun _ => ⟨fun _ => trivial, fun _ => ⟨(o_in (by omega)).mpr (by omega), (o_in (by omega)).mpr (by omega)⟩⟩⟩
theorem nb_b {k : Nat} (h1 : tb (2 * k) < 256) (h2 : tb (2 * k + 1) < 256) : nb tb k < 65536 := by unfold nb; omega
theorem ev_c (hn : tn ≤ 8192) : Int32.ofNat tn - Int32.ofNat tn / (2 : Int32) * (2 : Int32) = Int32.ofNat (tn % 2) := by
  rw [show (2 : Int32) = Int32.ofNat 2 from rfl, ← Int32.ofNat_div (by omega) (by omega), ← Int32.ofNat_mul, ← Int32.ofNat_sub _ _ (by omega)]
  congr 1
  omega
theorem s148_1 {M : sm_M} (hS : SH M) (ho : fS o) (hw : wK D) (hK : cK M o D) (hT : ∀ i, i < tn → tb i < 256 ∧ iV M 25 i = sb (tb i)) (hn : tn ≤ 8192) (he : tn % 2 = 0) : ∀ (d k : Nat), tn / 2 - k = d → k ≤ tn / 2 → okR D tb k → sm_w 148 (13, [some (.ref o), some (.ref 25), some (.int (Int32.ofNat tn)), some (.int (Int32.ofNat (jp tb k))), some (.int (Int32.ofNat (2 * k))), none], []) M (rI (fun v M2 => ((v = 1 ∧ okR D tb (tn / 2)) ∨ (v = 0 ∧ ¬ okR D tb (tn / 2))) ∧ M2 = M)) := by
  have hn6 := hw.1
  intro d
  induction d with
  | zero =>
    intro k hd hk hok
    have e : k = tn / 2 := by omega
    subst e
    refine g148_1 hS ho a_25 ?_
    rw [o_s]
    exact ⟨fun _ => ⟨Or.inl ⟨rfl, hok⟩, rfl⟩, fun c => absurd ((o_le (by omega) (by omega)).mpr (by omega)) c⟩
  | succ d ih =>
    intro k hd hk hok
    obtain ⟨p1, p2⟩ := P149 hT hn (show 2 * k + 1 < tn by omega)
    have hb := nb_b (hT (2 * k) (by omega)).1 (hT (2 * k + 1) (by omega)).1
    have hjp : jp tb k < 65536 := by
      unfold jp
      split
      · omega
      · exact nb_b (hT (2 * (k - 1)) (by omega)).1 (hT (2 * (k - 1) + 1) (by omega)).1
    refine g148_1 hS ho a_25 ?_
    rw [o_s, p1, hK.1]
    refine ⟨fun c => absurd ((o_le (by omega) (by omega)).mp c) (by omega), fun _ => ⟨p2, fun c => ⟨Or.inr ⟨rfl, fun w => ?_⟩, rfl⟩, fun c => ⟨fun c2 => ?_, fun c2 => ⟨Or.inr ⟨rfl, fun w => ?_⟩, rfl⟩⟩⟩⟩
    · have := w k (by omega)
      have := (o_le (by omega) (by omega)).mp c
      omega
    · have c := mt (o_le (n := nb tb k) (m := jp tb k) (by omega) (by omega)).mpr c
      have c2 := (o_lt (n := nb tb k) (by omega) (by omega)).mp c2
      have h := ih (k + 1) (by omega) (by omega) (fun q hq => by
        by_cases e : q = k
        · rw [e]; exact ⟨by omega, c2⟩
        · exact hok q (by omega))
      have e1 : jp tb (k + 1) = nb tb k := if_neg (by omega)
      rw [e1] at h
      rw [show Int32.ofNat (2 * k) + 2 = Int32.ofNat (2 * (k + 1)) from (Int32.ofNat_add (2 * k) 2).symm]
      exact h
    · have := w k (by omega)
      exact c2 ((o_lt (by omega) (by omega)).mpr this.2)
theorem s148 {M : sm_M} (hS : SH M) (ho : fS o) (hw : wK D) (hK : cK M o D) (hT : ∀ i, i < tn → tb i < 256 ∧ iV M 25 i = sb (tb i)) (hn : tn ≤ 8192) : sm_cI 148 [.ref o, .ref 25, .int (Int32.ofNat tn)] M (fun v M2 => ((v = 1 ∧ (tn % 2 = 0 ∧ okR D tb (tn / 2))) ∨ (v = 0 ∧ ¬ (tn % 2 = 0 ∧ okR D tb (tn / 2)))) ∧ M2 = M) := by
  refine g148_0 hS ho a_25 ?_
  rw [ev_c hn, o_eq0 (by omega)]
  refine ⟨fun c => ?_, fun c => ⟨Or.inr ⟨rfl, fun w => c w.1⟩, rfl⟩⟩
  refine (s148_1 hS ho hw hK hT hn c _ 0 rfl (Nat.zero_le _) (fun q hq => by omega)).mono fun oo M2 z => ?_
  obtain ⟨v, z1, z2, z3⟩ := z
  refine ⟨v, z1, ?_, z3⟩
  rcases z2 with ⟨a, b⟩ | ⟨a, b⟩
  · exact Or.inl ⟨a, c, b⟩
  · exact Or.inr ⟨a, fun w => b w.2⟩
theorem P119 {M : sm_M} {l i j : Nat} (hl : wL D) (hL : cLn M o D) (hln : cLine M l D i j) : p119_0 M l (iV M o 4) = 0 ↔ ¬ jok D i j := by
  have hB := eB_le D i j
  have h5 := hl.2.2.2.2.2
  obtain ⟨v0, v1, v2, v3, v4, v5, v6, v7, v8, v9, v10⟩ := hln
  have k1 : Int32.ofNat (D 12 5) < Int32.ofNat (eB D i j) ↔ D 12 5 < eB D i j := o_lt (by omega) (by omega)
  have k2 : Int32.ofNat (D 12 5) = (10001 : Int32) ↔ D 12 5 = 10001 := o_eq (m := 10001) (by omega) (by omega)
  unfold p119_0 jok
  rw [v9, hL.1]
  by_cases c1 : D 12 5 < eB D i j
  · rw [if_pos (k1.mpr c1)]
    exact ⟨fun _ w => by omega, fun _ => rfl⟩
  · rw [if_neg (mt k1.mp c1)]
    by_cases c2 : eX D i j
    · rw [if_neg (fun z => v7.mp z c2)]
      by_cases c3 : D 12 5 = 10001
      · rw [if_pos (k2.mpr c3)]
        exact ⟨fun z => absurd z (by decide), fun z => absurd ⟨by omega, Or.inr c3⟩ z⟩
      · rw [if_neg (mt k2.mp c3)]
        exact ⟨fun _ w => by rcases w.2 with q | q; exact q c2; exact c3 q, fun _ => rfl⟩
    · rw [if_pos (v7.mpr c2)]
      exact ⟨fun z => absurd z (by decide), fun z => absurd ⟨by omega, Or.inl c2⟩ z⟩
theorem s150_1 {A : sm_M} (ho : fS o) (hw : wK D) (hl : wL D) (hn : tn ≤ 8192) (he : tn % 2 = 0) (hok : okR D tb (tn / 2)) : ∀ (d k : Nat), tn / 2 + 1 - k = d → k ≤ tn / 2 + 1 → (∀ q, q < k → jok D (jp tb q) (jt D tb (tn / 2) q)) → ∀ M, SH M → cK M o D → cLn M o D → (∀ i, i < tn → tb i < 256 ∧ iV M 25 i = sb (tb i)) → Fr (pl 41) A M → ∀ from' gr : Nat, (k ≤ tn / 2 → from' = jp tb k ∧ gr = jg D tb k) → sm_w 150 (12, [some (.ref o), some (.ref 25), some (.int (Int32.ofNat tn)), some (.ref 41), some (.long (Int64.ofNat (jS D tb (tn / 2) k))), none, some (.int (Int32.ofNat from')), some (.int (Int32.ofNat gr)), some (.int (Int32.ofNat (2 * k))), none], []) M (rJ (fun v M2 => (((∀ q, q ≤ tn / 2 → jok D (jp tb q) (jt D tb (tn / 2) q)) ∧ v = Int64.ofNat (jS D tb (tn / 2) (tn / 2 + 1))) ∨ (¬ (∀ q, q ≤ tn / 2 → jok D (jp tb q) (jt D tb (tn / 2) q)) ∧ v = -1)) ∧ Fr (pl 41) A M2)) := by
  have hn6 := hw.1
  have hd1 : ∀ a k, o ≤ a → a ≤ o + 13 → ¬ pl 41 a k := fun a k z1 z2 => by unfold pl; unfold fS at ho; omega
  intro d
  induction d with
  | zero =>
    intro k hd hk hj M hS hK hL hT hA fr gr hfg
    have e : k = tn / 2 + 1 := by omega
    subst e
    refine g150_1 hS ho a_25 fL_41 ⟨fun _ => ⟨Or.inl ⟨fun q hq => hj q (by omega), rfl⟩, hA⟩, fun c => absurd ((o_lt (by omega) (by omega)).mpr (by omega)) c⟩
  | succ d ih =>
    intro k hd hk hj M hS hK hL hT hA fr gr hfg
    obtain ⟨h1, h2⟩ := hfg (by omega)
    subst h1 h2
    have hji : jp tb k < jt D tb (tn / 2) k ∧ jt D tb (tn / 2) k ≤ D 12 0 := by
      unfold jt
      by_cases c : k < tn / 2
      · rw [if_pos c]
        have := hok k c
        omega
      · rw [if_neg c]
        unfold jp
        split
        · omega
        · have := hok (k - 1) (by omega)
          omega
    have hg3 : jg D tb k ≤ 3 := by
      unfold jg
      split
      · omega
      · exact eC_le _ _ _
    -- behind the measuring of a line to j
    have body : ∀ (j : Nat), j = jt D tb (tn / 2) k → sm_cV 112 [.ref o, .ref 41, .int (Int32.ofNat (jp tb k)), .int (Int32.ofNat j)] M (fun M1 => SH M1 → (((p119_0 M1 41 (iV M1 o 4)) = 0 → (((∀ q, q ≤ tn / 2 → jok D (jp tb q) (jt D tb (tn / 2) q)) ∧ (-1 : Int64) = Int64.ofNat (jS D tb (tn / 2) (tn / 2 + 1))) ∨ (¬ (∀ q, q ≤ tn / 2 → jok D (jp tb q) (jt D tb (tn / 2) q)) ∧ (-1 : Int64) = -1)) ∧ Fr (pl 41) A M1) ∧ (¬ (p119_0 M1 41 (iV M1 o 4)) = 0 → (q121_0 M1 o 41) ∧ sm_w 150 (12, [some (.ref o), some (.ref 25), some (.int (Int32.ofNat tn)), some (.ref 41), some (.long (Int64.ofNat (jS D tb (tn / 2) k) + ((p121_0 M1 o 41) + (p123_0 M1 o (Int32.ofNat (jg D tb k)) 41)))), none, some (.int (Int32.ofNat j)), some (.int (iV M1 41 10)), some (.int (Int32.ofNat (2 * k) + (2 : Int32))), none], []) M1 (rJ (fun v M2 => (((∀ q, q ≤ tn / 2 → jok D (jp tb q) (jt D tb (tn / 2) q)) ∧ v = Int64.ofNat (jS D tb (tn / 2) (tn / 2 + 1))) ∨ (¬ (∀ q, q ≤ tn / 2 → jok D (jp tb q) (jt D tb (tn / 2) q)) ∧ v = -1)) ∧ Fr (pl 41) A M2))))) := fun j hjj => by
      subst hjj
      refine (s112 hS ho fL_41 hw hK hji.1 hji.2).mono fun M1 k1 s1 => ?_
      obtain ⟨kl, kf⟩ := k1
      have K1 := hK.fr kf hd1
      have L1 := hL.fr kf hd1
      rw [P119 hl L1 kl]
      refine ⟨fun c => ⟨Or.inr ⟨fun w => c (w k (by omega)), rfl⟩, hA.tr kf⟩, fun c => ?_⟩
      have c := Classical.not_not.mp c
      obtain ⟨p1, p2⟩ := P121 hw hji.1 hji.2 K1 kl
      refine ⟨p2, ?_⟩
      rw [p1, P123 hg3 kl, j_add, j_add, kl.2.2.2.2.2.2.2.2.2.2, show Int32.ofNat (2 * k) + 2 = Int32.ofNat (2 * (k + 1)) from (Int32.ofNat_add (2 * k) 2).symm]
      refine ih (k + 1) (by omega) (by omega) (fun q hq => ?_) M1 s1 K1 L1 (fun i hi => ⟨(hT i hi).1, by rw [kf.2.1 25 i (by unfold pl; omega)]; exact (hT i hi).2⟩) (hA.tr kf) _ _ (fun hk1 => ?_)
      · by_cases e : q = k
        · rw [e]; exact c
        · exact hj q (by omega)
      · have e1 : jt D tb (tn / 2) k = nb tb k := if_pos (by omega)
        have e2 : jp tb (k + 1) = nb tb k := if_neg (by omega)
        have e3 : jg D tb (k + 1) = eC D (jp tb k) (nb tb k) := if_neg (by omega)
        rw [e1, e2, e3]
        exact ⟨rfl, rfl⟩
    refine g150_1 hS ho a_25 fL_41 ⟨fun c => absurd ((o_lt (by omega) (by omega)).mp c) (by omega), fun _ => ⟨fun c => ?_, fun c => ?_⟩⟩
    · have c := (o_le (by omega) (by omega)).mp c
      rw [hK.1]
      exact body (D 12 0) (by unfold jt; rw [if_neg (by omega)])
    · have c := mt (o_le (n := tn) (m := 2 * k) (by omega) (by omega)).mpr c
      obtain ⟨p1, p2⟩ := P149 hT hn (show 2 * k + 1 < tn by omega)
      rw [p1]
      exact ⟨p2, body (nb tb k) (by unfold jt; rw [if_pos (by omega)])⟩
end JUD
