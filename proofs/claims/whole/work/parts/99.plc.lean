/-! THE CLASS'S PLACES. -/
section PLC
variable {x0 x1 nx1 f n : Nat} {L : Nat → Nat} {T : Nat → Nat → Nat → Nat}
def exm (T : Nat → Nat → Nat → Nat) (n : Nat) (L : Nat → Nat) (e : Nat) : Prop := T 6 e 0 = n ∧ ∀ i, i < n → T 4 e i = sml (L i)
noncomputable def exq (T : Nat → Nat → Nat → Nat) (n : Nat) (L : Nat → Nat) : Nat := fs (fun e => @decide (exm T n L e) (Classical.propDecidable _)) (T 0 0 1) 0
/-- a hyphen may stand behind k letters -/
def plc (T : Nat → Nat → Nat → Nat) (n : Nat) (L : Nat → Nat) (k : Nat) : Prop := T 0 0 2 ≤ k ∧ k + T 0 0 3 ≤ n ∧ (exq T n L < T 0 0 1 ∧ T 5 (exq T n L) k = 1 ∨ ¬ exq T n L < T 0 0 1 ∧ ∃ v, isL T (mt T n (rwd n L)) (k + 1) v ∧ v % 2 = 1)
theorem exq_u {e : Nat} (h : ∀ k, k < e → ¬ exm T n L k) (he : e < T 0 0 1) (hm : exm T n L e) : exq T n L = e := by
  unfold exq
  rcases Nat.lt_or_ge (fs (fun e => @decide (exm T n L e) (Classical.propDecidable _)) (T 0 0 1) 0) e with z | z
  · have h2 := fs_is (p := fun e => @decide (exm T n L e) (Classical.propDecidable _)) (Nat.zero_le _) (show fs (fun e => @decide (exm T n L e) (Classical.propDecidable _)) (T 0 0 1) 0 < T 0 0 1 by omega)
    simp at h2
    exact absurd h2 (h _ z)
  · rcases Nat.lt_or_ge e (fs (fun e => @decide (exm T n L e) (Classical.propDecidable _)) (T 0 0 1) 0) with y | y
    · have h3 := fs_no (p := fun e => @decide (exm T n L e) (Classical.propDecidable _)) (n := T 0 0 1) (i := 0) (k := e) (Nat.zero_le _) (Nat.zero_le _) y
      simp at h3
      exact absurd hm h3
    · omega
theorem exq_n (h : ∀ k, k < T 0 0 1 → ¬ exm T n L k) : exq T n L = T 0 0 1 := by
  have h1 : exq T n L ≤ T 0 0 1 := fs_le (Nat.zero_le _)
  rcases Nat.lt_or_ge (exq T n L) (T 0 0 1) with z | z
  · have h2 := fs_is (p := fun e => @decide (exm T n L e) (Classical.propDecidable _)) (Nat.zero_le _) z
    simp at h2
    exact absurd h2 (h _ z)
  · omega
theorem exq_is (h : exq T n L < T 0 0 1) : exm T n L (exq T n L) := by
  have h2 := fs_is (p := fun e => @decide (exm T n L e) (Classical.propDecidable _)) (Nat.zero_le _) h
  simp at h2
  exact h2
theorem s69_1 {M : sm_M} {e N : Nat} {par sg nd : Nat → Nat} (hS : SH M) (hx : fH x0) (hx1 : sA x1 1 nx1) (hw : wT T) (hfn : f + n ≤ nx1) (hnx : nx1 ≤ 8192) (hG : cG M x0 N par sg nd T) (hB : ∀ i, i < n → L i < 128 ∧ iV M x1 (f + i) = Int32.ofNat (L i)) (he : e < T 0 0 1) (hen : T 6 e 0 = n) : ∀ (d i : Nat), n - i = d → i ≤ n → (∀ j, j < i → T 4 e j = sml (L j)) → sm_w 69 (9, [some (.ref x0), some (.int (Int32.ofNat e)), some (.ref x1), some (.int (Int32.ofNat f)), some (.int (Int32.ofNat (30 * e))), some (.int (Int32.ofNat i))], []) M (rI (fun v M2 => ((v = 1 ∧ exm T n L e) ∨ (v = 0 ∧ ¬ exm T n L e)) ∧ M2 = M)) := by
  obtain ⟨g1, g2, g3⟩ := hG.2.2.2.2 e he
  obtain ⟨w1, w2, w3⟩ := hw.2.2 e he
  have hE := hw.1
  intro d
  induction d with
  | zero =>
    intro i hd hi hj
    have ei : i = n := by omega
    subst ei
    refine g69_1 hS hx hx1 ⟨(o_in (by omega)).mpr (by omega), ?_⟩
    rw [o_cl (by omega), g1, hen]
    exact ⟨fun _ => ⟨Or.inl ⟨rfl, hen, hj⟩, rfl⟩, fun c => absurd ((o_le (by omega) (by omega)).mpr (Nat.le_refl _)) c⟩
  | succ d ih =>
    intro i hd hi hj
    refine g69_1 hS hx hx1 ⟨(o_in (by omega)).mpr (by omega), ?_⟩
    rw [o_cl (by omega), g1, hen, show Int32.ofNat (30 * e) + Int32.ofNat i = Int32.ofNat (30 * e + i) from (Int32.ofNat_add _ _).symm, show Int32.ofNat f + Int32.ofNat i = Int32.ofNat (f + i) from (Int32.ofNat_add _ _).symm, o_cl (by omega), o_cl (by omega), g2 i (by omega), (hB i (by omega)).2, p70_s M (hB i (by omega)).1]
    have hb := hB i (by omega)
    have hs : sml (L i) < 256 := by unfold sml; split <;> omega
    have h4 := w2 i (by omega)
    refine ⟨fun c => absurd ((o_le (by omega) (by omega)).mp c) (by omega), fun _ => ⟨(o_in (by omega)).mpr (by omega), (o_in (by omega)).mpr (by omega), ?_⟩⟩
    rw [o_eq (by omega) (by omega), o_s]
    refine ⟨fun c => ih (i + 1) (by omega) (by omega) fun j hj2 => ?_, fun c => ⟨Or.inr ⟨rfl, fun z => c (z.2 i (by omega))⟩, rfl⟩⟩
    by_cases ej : j = i
    · rw [ej]; exact c
    · exact hj j (by omega)
theorem s69 {M : sm_M} {e N : Nat} {par sg nd : Nat → Nat} (hS : SH M) (hx : fH x0) (hx1 : sA x1 1 nx1) (hw : wT T) (hfn : f + n ≤ nx1) (hnx : nx1 ≤ 8192) (hG : cG M x0 N par sg nd T) (hB : ∀ i, i < n → L i < 128 ∧ iV M x1 (f + i) = Int32.ofNat (L i)) (he : e < T 0 0 1) (hen : T 6 e 0 = n) : sm_cI 69 [.ref x0, .int (Int32.ofNat e), .ref x1, .int (Int32.ofNat f)] M (fun v M2 => ((v = 1 ∧ exm T n L e) ∨ (v = 0 ∧ ¬ exm T n L e)) ∧ M2 = M) := by
  refine g69_0 hS hx hx1 ?_
  rw [show Int32.ofNat e * 30 = Int32.ofNat (30 * e) from by rw [Nat.mul_comm]; exact (Int32.ofNat_mul e 30).symm]
  exact s69_1 hS hx hx1 hw hfn hnx hG hB he hen n 0 (by omega) (by omega) fun j hj => by omega
theorem s68_1 {M : sm_M} {N : Nat} {par sg nd : Nat → Nat} (hS : SH M) (hx : fH x0) (hx1 : sA x1 1 nx1) (hw : wT T) (hfn : f + n ≤ nx1) (hnx : nx1 ≤ 8192) (hG : cG M x0 N par sg nd T) (hB : ∀ i, i < n → L i < 128 ∧ iV M x1 (f + i) = Int32.ofNat (L i)) : ∀ (d e : Nat), T 0 0 1 - e = d → e ≤ T 0 0 1 → (∀ j, j < e → ¬ exm T n L j) → sm_w 68 (3, [some (.ref x0), some (.ref x1), some (.int (Int32.ofNat f)), some (.int (Int32.ofNat n)), some (.int (Int32.ofNat e))], []) M (rI (fun v M2 => v = (if exq T n L < T 0 0 1 then Int32.ofNat (exq T n L) else -1) ∧ M2 = M)) := by
  have hE := hw.1
  intro d
  induction d with
  | zero =>
    intro e hd hi hj
    have ei : e = T 0 0 1 := by omega
    subst ei
    refine g68_1 hS hx hx1 ?_
    rw [hG.1.2.1, exq_n hj, if_neg (by omega)]
    exact ⟨fun _ => ⟨rfl, rfl⟩, fun c => absurd ((o_le (by omega) (by omega)).mpr (Nat.le_refl _)) c⟩
  | succ d ih =>
    intro e hd hi hj
    obtain ⟨g1, g2, g3⟩ := hG.2.2.2.2 e (by omega)
    obtain ⟨w1, w2, w3⟩ := hw.2.2 e (by omega)
    refine g68_1 hS hx hx1 ?_
    rw [hG.1.2.1, o_cl (by omega), g1, o_eq (by omega) (by omega), o_s]
    have go : ¬ exm T n L e → sm_w 68 (3, [some (.ref x0), some (.ref x1), some (.int (Int32.ofNat f)), some (.int (Int32.ofNat n)), some (.int (Int32.ofNat (e + 1)))], []) M (rI (fun v M2 => v = (if exq T n L < T 0 0 1 then Int32.ofNat (exq T n L) else -1) ∧ M2 = M)) := fun hne => ih (e + 1) (by omega) (by omega) fun j hj2 => by
      by_cases ej : j = e
      · rw [ej]; exact hne
      · exact hj j (by omega)
    refine ⟨fun c => absurd ((o_le (by omega) (by omega)).mp c) (by omega), fun _ => ⟨(o_in (by omega)).mpr (by omega), fun c => ?_, fun c => go fun z => c z.1⟩⟩
    refine (s69 hS hx hx1 hw hfn hnx hG hB (by omega) c).mono fun v M2 k2 s2 => ?_
    obtain ⟨k21, k22⟩ := k2
    subst k22
    rcases k21 with ⟨v1, v2⟩ | ⟨v1, v2⟩
    · rw [v1, exq_u hj (by omega) v2, if_pos (by omega)]
      exact ⟨fun c => absurd c (by decide), fun _ => ⟨rfl, rfl⟩⟩
    · rw [v1]
      exact ⟨fun _ => go v2, fun c => absurd rfl c⟩
theorem s68 {M : sm_M} {N : Nat} {par sg nd : Nat → Nat} (hS : SH M) (hx : fH x0) (hx1 : sA x1 1 nx1) (hw : wT T) (hfn : f + n ≤ nx1) (hnx : nx1 ≤ 8192) (hG : cG M x0 N par sg nd T) (hB : ∀ i, i < n → L i < 128 ∧ iV M x1 (f + i) = Int32.ofNat (L i)) : sm_cI 68 [.ref x0, .ref x1, .int (Int32.ofNat f), .int (Int32.ofNat n)] M (fun v M2 => v = (if exq T n L < T 0 0 1 then Int32.ofNat (exq T n L) else -1) ∧ M2 = M) :=
  g68_0 hS hx hx1 (s68_1 hS hx hx1 hw hfn hnx hG hB _ 0 rfl (Nat.zero_le _) fun j hj => by omega)
def p90 (x0 x4 f n : Nat) : Nat → Nat → Prop := fun a i => a = x0 + 9 ∨ a = x4 ∧ f ≤ i ∧ i < f + n
/-- the places below k are marked, and nothing else -/
def mkd (M M2 : sm_M) (x4 f n : Nat) (T : Nat → Nat → Nat → Nat) (L : Nat → Nat) (k : Nat) : Prop := ∀ p, ((∃ j, p = f + j ∧ j < k ∧ plc T n L j) → iV M2 x4 p = 1) ∧ ((¬ ∃ j, p = f + j ∧ j < k ∧ plc T n L j) → iV M2 x4 p = iV M x4 p)
theorem odd_i {v : Nat} (h : v ≤ 9) : (Int32.ofNat v &&& (1 : Int32)) = 1 ↔ v % 2 = 1 := (show ∀ v, v < 10 → ((Int32.ofNat v &&& (1 : Int32)) = 1 ↔ v % 2 = 1) from by decide) v (by omega)
theorem s90_1 {A : sm_M} {x4 nx4 : Nat} (hx : fH x0) (hx4 : sA x4 0 nx4) (h4 : x4 < 68 ∨ 88 ≤ x4) (hw : wT T) (hn : n ≤ 4000) (hf4 : f + n ≤ nx4) (hnx : nx4 ≤ 8192) {v7 : Int32} (h7 : v7 = (if exq T n L < T 0 0 1 then Int32.ofNat (exq T n L) else -1)) (hlb : T 0 0 3 ≤ n) : ∀ (d k : Nat), n + 1 - k = d → T 0 0 2 ≤ k → k ≤ n + 1 → ∀ M, SH M → cTb M x0 T → (¬ exq T n L < T 0 0 1 → lvA M x0 n T (mt T n (rwd n L))) → mkd A M x4 f n T L k → Fr (p90 x0 x4 f n) A M → sm_w 90 (82, [some (.ref x0), none, some (.int (Int32.ofNat f)), none, some (.ref x4), none, some (.int (Int32.ofNat (n - T 0 0 3))), some (.int (v7)), some (.int (Int32.ofNat k)), none], []) M (rV (fun M2 => mkd A M2 x4 f n T L (n + 1) ∧ Fr (p90 x0 x4 f n) A M2)) := by
  have hE := hw.1
  have hxx := fH_s hx
  intro d
  induction d with
  | zero =>
    intro k hd hk1 hk M hS hT hV hm hA
    have e : k = n + 1 := by omega
    subst e
    exact g90_1 hS hx hx4 ⟨fun _ => ⟨hm, hA⟩, fun c => absurd ((o_lt (by omega) (by omega)).mpr (by omega)) c⟩
  | succ d ih =>
    intro k hd hk1 hk M hS hT hV hm hA
    obtain ⟨N, par, sg, nd, hC, hG⟩ := hT
    refine g90_1 hS hx hx4 ?_
    rw [o_lt (by omega) (by omega), show Int32.ofNat f + Int32.ofNat k = Int32.ofNat (f + k) from (Int32.ofNat_add _ _).symm, o_s]
    refine ⟨fun c => ⟨fun p => ⟨fun z => (hm p).1 ?_, fun z => (hm p).2 fun y => z ?_⟩, hA⟩, fun c => ?_⟩
    · obtain ⟨j, z1, z2, z3⟩ := z
      refine ⟨j, z1, ?_, z3⟩
      have := z3.2.1
      omega
    · obtain ⟨j, z1, z2, z3⟩ := y
      exact ⟨j, z1, by omega, z3⟩
    · have no : ¬ plc T n L k → sm_w 90 (82, [some (.ref x0), none, some (.int (Int32.ofNat f)), none, some (.ref x4), none, some (.int (Int32.ofNat (n - T 0 0 3))), some (.int (v7)), some (.int (Int32.ofNat (k + 1))), none], []) M (rV (fun M2 => mkd A M2 x4 f n T L (n + 1) ∧ Fr (p90 x0 x4 f n) A M2)) := fun hno => by
        refine ih (k + 1) (by omega) (by omega) (by omega) M hS ⟨N, par, sg, nd, hC, hG⟩ hV (fun p => ⟨fun z => (hm p).1 ?_, fun z => (hm p).2 fun y => z ?_⟩) hA
        · obtain ⟨j, z1, z2, z3⟩ := z
          refine ⟨j, z1, ?_, z3⟩
          rcases Nat.lt_or_ge j k with y | y
          · exact y
          · exact absurd (by rw [show k = j from by omega]; exact z3) hno
        · obtain ⟨j, z1, z2, z3⟩ := y
          exact ⟨j, z1, by omega, z3⟩
      have yes : plc T n L k → ∀ M3, SH M3 → M3 = sm_wI M x4 (Int32.ofNat (f + k)).toNatClampNeg 1 → sm_w 90 (82, [some (.ref x0), none, some (.int (Int32.ofNat f)), none, some (.ref x4), none, some (.int (Int32.ofNat (n - T 0 0 3))), some (.int (v7)), some (.int (Int32.ofNat (k + 1))), none], []) M3 (rV (fun M2 => mkd A M2 x4 f n T L (n + 1) ∧ Fr (p90 x0 x4 f n) A M2)) := fun hyes M3 s3 e3 => by
        rw [o_cl (by omega)] at e3
        have i3 : ∀ a i, ¬ a = x4 → iV M3 a i = iV M a i := fun a i z => by rw [e3, iV_wI, if_neg (fun y => z y.1)]
        refine ih (k + 1) (by omega) (by omega) (by omega) M3 s3 ⟨N, par, sg, nd, hC.eq fun a i h1 h2 => i3 a i (by omega), hG.eq (fun a i h1 h2 => i3 a i (by omega)) fun i => by rw [e3, jV_wI]⟩ (fun z => ?_) (fun p => ⟨fun z => ?_, fun z => ?_⟩) (by rw [e3]; exact hA.wI (Or.inr ⟨rfl, by omega, by omega⟩))
        · obtain ⟨V, hVV⟩ := hV z
          exact ⟨V, fun j hj => ⟨by rw [i3 _ _ (by omega)]; exact (hVV j hj).1, (hVV j hj).2⟩⟩
        · rw [e3, iV_wI]
          by_cases ep : p = f + k
          · rw [if_pos ⟨rfl, ep⟩]
          · rw [if_neg (fun y => ep y.2)]
            obtain ⟨j, z1, z2, z3⟩ := z
            exact (hm p).1 ⟨j, z1, by omega, z3⟩
        · rw [e3, iV_wI]
          by_cases ep : p = f + k
          · exact absurd ⟨k, ep, by omega, hyes⟩ z
          · rw [if_neg (fun y => ep y.2)]
            exact (hm p).2 fun ⟨j, z1, z2, z3⟩ => z ⟨j, z1, by omega, z3⟩
      by_cases hex : exq T n L < T 0 0 1
      · rw [if_pos hex] at h7
        obtain ⟨m1, m2⟩ := exq_is hex
        obtain ⟨g1, g2, g3⟩ := hG.2.2.2.2 _ hex
        obtain ⟨w1, w2, w3⟩ := hw.2.2 _ hex
        have gk := g3 k (by omega)
        subst h7
        have hpl : plc T n L k ↔ T 5 (exq T n L) k = 1 := by
          unfold plc
          constructor
          · rintro ⟨_, _, z | z⟩
            · exact z.2
            · exact absurd hex z.1
          · intro z
            exact ⟨by omega, by omega, Or.inl ⟨hex, z⟩⟩
        have c30 : ¬ (30 : Int32) ≤ Int32.ofNat k := fun z => absurd ((o_le (n := 30) (by omega) (by omega)).mp z) (by omega)
        refine ⟨fun _ => ⟨?_, ?_⟩, fun c => absurd (Int32.not_lt.mp (o_nn (by omega))) c⟩
        · unfold q95_0
          exact ⟨fun _ => trivial, fun _ => (o_in (by omega)).mpr (by omega)⟩
        · unfold p95_0
          rw [if_neg c30, o_cl (n := exq T n L) (by omega)]
          by_cases hb : T 5 (exq T n L) k = 1
          · rw [if_pos (gk.mpr hb)]
            exact ⟨fun z => absurd z (by decide), fun _ => ⟨(o_in (by omega)).mpr (by omega), yes (hpl.mpr hb)⟩⟩
          · rw [if_neg (fun z => hb (gk.mp z))]
            exact ⟨fun _ => no fun z => hb (hpl.mp z), fun z => absurd rfl z⟩
      · rw [if_neg hex] at h7
        subst h7
        obtain ⟨V, hVV⟩ := hV hex
        obtain ⟨v1, v2⟩ := hVV k (by omega)
        have hpl : plc T n L k ↔ V k % 2 = 1 := by
          unfold plc
          constructor
          · rintro ⟨_, _, z | ⟨_, v, z1, z2⟩⟩
            · exact absurd z.1 hex
            · rw [isL_u v2 z1]; exact z2
          · intro z
            exact ⟨by omega, by omega, Or.inr ⟨hex, V k, v2, z⟩⟩
        refine ⟨fun z => absurd z (by decide), fun _ => ⟨(o_in (by omega)).mpr (by omega), ?_⟩⟩
        rw [o_cl (n := k) (by omega), v1, odd_i (isL_9 hw v2)]
        exact ⟨fun z => ⟨(o_in (by omega)).mpr (by omega), yes (hpl.mpr z)⟩, fun z => no fun y => z (hpl.mp y)⟩
theorem s90 {M : sm_M} {x4 nx4 : Nat} (hS : SH M) (hx : fH x0) (hx1 : sA x1 1 nx1) (hx4 : sA x4 0 nx4) (h1 : x1 < 68 ∨ 88 ≤ x1) (h4 : x4 < 68 ∨ 88 ≤ x4) (hw : wT T) (hn : n ≤ 4000) (hf1 : f + n ≤ nx1) (hnx1 : nx1 ≤ 8192) (hf4 : f + n ≤ nx4) (hnx : nx4 ≤ 8192) (hT : cTb M x0 T) (hL : ∀ i, i < n → lt (L i) = true) (hB : ∀ i, i < n → iV M x1 (f + i) = Int32.ofNat (L i)) : sm_cV 90 [.ref x0, .ref x1, .int (Int32.ofNat f), .int (Int32.ofNat (f + n)), .ref x4] M (fun M2 => mkd M M2 x4 f n T L (n + 1) ∧ Fr (p90 x0 x4 f n) M M2) := by
  have hE := hw.1
  have hxx := fH_s hx
  obtain ⟨N, par, sg, nd, hC, hG⟩ := hT
  refine g90_0 hS hx hx1 hx4 ?_
  have en : Int32.ofNat (f + n) - Int32.ofNat f = Int32.ofNat n := by
    rw [← Int32.ofNat_sub _ _ (by omega)]
    congr 1
    omega
  rw [en, hG.1.2.2.1, hG.1.2.2.2]
  have none_ : ¬ (T 0 0 2 + T 0 0 3 ≤ n) → mkd M M x4 f n T L (n + 1) := fun z p => ⟨fun ⟨j, y1, y2, y3⟩ => absurd (show T 0 0 2 + T 0 0 3 ≤ n by have := y3.1; have := y3.2.1; omega) z, fun _ => rfl⟩
  refine ⟨fun c => absurd c (o_nn (by omega)), fun _ => ⟨fun c => absurd ((o_lt (by omega) (by omega)).mp c) (by omega), fun _ => ⟨fun c => absurd ((o_lt (by omega) (by omega)).mp c) (by omega), fun _ => ⟨fun _ => ⟨fun c => ?_, fun c => ⟨none_ fun z => c ?_, Fr.rf _ _⟩⟩, fun c => absurd ((o_lt (m := 4001) (by omega) (by omega)).mpr (by omega)) c⟩⟩⟩⟩
  · have hlb : T 0 0 3 ≤ n ∧ T 0 0 2 + T 0 0 3 ≤ n := by
      rw [z_le, o_ti (by omega), z_sub, o_ti (by omega), o_ti (by omega)] at c
      · omega
      · rw [o_ti (by omega), o_ti (by omega)]; omega
      · rw [o_ti (by omega), o_ti (by omega)]; omega
    rw [← Int32.ofNat_sub _ _ hlb.1]
    refine (s68 hS hx hx1 hw hf1 hnx1 hG fun i hi => ⟨(lt_sm (hL i hi)).2.2.1, hB i hi⟩).mono fun v M1 k1 s1 => ?_
    obtain ⟨k11, k12⟩ := k1
    subst k12
    rw [hG.1.2.2.1]
    have m0 : ∀ M4, (∀ p, iV M4 x4 p = iV M1 x4 p) → mkd M1 M4 x4 f n T L (T 0 0 2) := fun M4 e4 p => ⟨fun ⟨j, y1, y2, y3⟩ => absurd y3.1 (by omega), fun _ => e4 p⟩
    refine ⟨fun c2 => ?_, fun c2 => ?_⟩
    · have hex : exq T n L < T 0 0 1 := by
        rcases Nat.lt_or_ge (exq T n L) (T 0 0 1) with z | z
        · exact z
        · rw [if_neg (by omega)] at k11
          subst k11
          exact absurd c2 (by decide)
      exact s90_1 hx hx4 h4 hw hn hf4 hnx k11 hlb.1 _ (T 0 0 2) rfl (Nat.le_refl _) (by omega) M1 s1 ⟨N, par, sg, nd, hC, hG⟩ (fun z => absurd hex z) (m0 M1 fun _ => rfl) (Fr.rf _ _)
    · refine (s91 s1 hx hx1 (by omega) hw hn hf1 hnx1 hL ⟨N, par, sg, nd, hC, hG⟩ hB).mono fun M4 k4 s4 => ?_
      obtain ⟨k41, f4⟩ := k4
      have i4 : ∀ a k, x0 ≤ a → a ≤ x0 + 8 → iV M4 a k = iV M1 a k := fun a k h1 h2 => f4.2.1 a k (by unfold plv; omega)
      rw [i4 _ _ (by omega) (by omega), hG.1.2.2.1]
      exact s90_1 hx hx4 h4 hw hn hf4 hnx k11 hlb.1 _ (T 0 0 2) rfl (Nat.le_refl _) (by omega) M4 s4 ⟨N, par, sg, nd, hC.eq i4, hG.eq i4 fun k => f4.2.2 _ k (by unfold plv; omega)⟩ (fun _ => k41) (m0 M4 fun p => f4.2.1 _ _ (by unfold plv; omega)) (f4.mono fun a k z => Or.inl z)
  · rw [z_le, o_ti (by omega), z_sub, o_ti (by omega), o_ti (by omega)]
    · omega
    · rw [o_ti (by omega), o_ti (by omega)]; omega
    · rw [o_ti (by omega), o_ti (by omega)]; omega
end PLC
