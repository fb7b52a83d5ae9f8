/-! SIGNS OF A FONT. -/
def dg (c : Nat) : Bool := 48 ≤ c && c ≤ 57
def sl (c : Nat) : Bool := 97 ≤ c && c ≤ 122
theorem P41 (M : sm_M) {c : Nat} (h : c < 256) : p41_0 M (Int32.ofNat c) = 0 ↔ ¬ sl c = true := by
  unfold p41_0
  exact (show ∀ c, c < 256 → ((if Int32.ofNat c < (97 : Int32) then (0 : Int32) else (if (122 : Int32) < Int32.ofNat c then (0 : Int32) else (1 : Int32))) = 0 ↔ ¬ sl c = true) from by decide +kernel) c h
theorem P42 (M : sm_M) {c : Nat} (h : c < 256) : p42_0 M (Int32.ofNat c) = 0 ↔ ¬ dg c = true := by
  unfold p42_0
  exact (show ∀ c, c < 256 → ((if Int32.ofNat c < (48 : Int32) then (0 : Int32) else (if (57 : Int32) < Int32.ofNat c then (0 : Int32) else (1 : Int32))) = 0 ↔ ¬ dg c = true) from by decide +kernel) c h
theorem P173 (M : sm_M) {c : Nat} (h : c < 256) : p173_0 M (Int32.ofNat c) = 0 ↔ ¬ sl c = true := P41 M h
theorem P174 (M : sm_M) {c : Nat} (h : c < 256) : p174_0 M (Int32.ofNat c) = 0 ↔ ¬ dg c = true := P42 M h
theorem dg_48 {c : Nat} (h : dg c = true) : 48 ≤ c ∧ c ≤ 57 := by
  unfold dg at h
  simp at h
  exact h
theorem sl_97 {c : Nat} (h : sl c = true) : 97 ≤ c ∧ c ≤ 122 := by
  unfold sl at h
  simp at h
  exact h
theorem sl_dg {c : Nat} (h : sl c = true) : ¬ dg c = true := fun z => by
  have := sl_97 h
  have := dg_48 z
  omega
section LEX
variable {tb : Nat → Nat} {tn : Nat}
/-- the place behind the blanks -/
def nt (tb : Nat → Nat) (tn i : Nat) : Nat := fs (fun j => !(bk (tb j))) tn i
/-- the place behind the digits -/
def dr (tb : Nat → Nat) (tn i : Nat) : Nat := fs (fun j => !(dg (tb j))) tn i
/-- the number of k digits -/
def dv (tb : Nat → Nat) (s : Nat) : Nat → Nat
  | 0 => 0
  | k + 1 => 10 * dv tb s k + (tb (s + k) - 48)
def kB (tb : Nat → Nat) (tn s : Nat) : Prop := s + 2 < tn ∧ tb s = 34 ∧ tb (s + 2) = 34 ∧ 32 ≤ tb (s + 1) ∧ tb (s + 1) ≤ 126 ∧ ¬ tb (s + 1) = 34
def kNu (tb : Nat → Nat) (tn s m : Nat) : Prop := s < dr tb tn s ∧ dr tb tn s - s ≤ 7 ∧ dv tb s (dr tb tn s - s) ≤ m
def kS (tb : Nat → Nat) (tn s c : Nat) : Prop := s < tn ∧ tb s = c
theorem nt_b {i : Nat} (h : i ≤ tn) : i ≤ nt tb tn i ∧ nt tb tn i ≤ tn := ⟨fs_ge h, fs_le h⟩
theorem nt_n {i : Nat} (h : i ≤ tn) (h2 : nt tb tn i < tn) : bk (tb (nt tb tn i)) = false := by
  have := fs_is (p := fun j => !(bk (tb j))) h h2
  simp at this
  exact this
theorem dr_b {i : Nat} (h : i ≤ tn) : i ≤ dr tb tn i ∧ dr tb tn i ≤ tn := ⟨fs_ge h, fs_le h⟩
theorem dr_d {i k : Nat} (h : i ≤ tn) (h1 : i ≤ k) (h2 : k < dr tb tn i) : dg (tb k) = true := by
  have := fs_no (p := fun j => !(dg (tb j))) h h1 h2
  simpa using this
theorem dr_n {i : Nat} (h : i ≤ tn) (h2 : dr tb tn i < tn) : dg (tb (dr tb tn i)) = false := by
  have := fs_is (p := fun j => !(dg (tb j))) h h2
  simp at this
  exact this
theorem dr_u {i e : Nat} (h : i ≤ e) (he : e ≤ tn) (h1 : ∀ k, i ≤ k → k < e → dg (tb k) = true) (h2 : e = tn ∨ dg (tb e) = false) : dr tb tn i = e := by
  obtain ⟨b1, b2⟩ := dr_b (tb := tb) (tn := tn) (i := i) (by omega)
  rcases Nat.lt_trichotomy (dr tb tn i) e with z | z | z
  · have := dr_n (tb := tb) (i := i) (by omega) (by omega : dr tb tn i < tn)
    rw [h1 _ b1 z] at this
    exact absurd this (by decide)
  · exact z
  · have := dr_d (tb := tb) (i := i) (by omega) h z
    rcases h2 with y | y
    · omega
    · rw [y] at this
      exact absurd this (by decide)
theorem dv_b (s : Nat) : ∀ k, (∀ i, i < k → tb (s + i) ≤ 57) → dv tb s k < 10 ^ k
  | 0, _ => by show 0 < 10 ^ 0; decide
  | k + 1, h => by
    have h1 := dv_b s k fun i hi => h i (by omega)
    have h2 := h k (by omega)
    have e : (10 : Nat) ^ (k + 1) = 10 * 10 ^ k := by rw [Nat.pow_succ]; omega
    show 10 * dv tb s k + (tb (s + k) - 48) < _
    omega
theorem ten_le {k : Nat} (h : k ≤ 8) : (10 : Nat) ^ k ≤ 100000000 := (show ∀ k, k < 9 → (10 : Nat) ^ k ≤ 100000000 from by decide) k (by omega)
theorem s29_1 {M : sm_M} {o : Nat} (hS : SH M) (ho : fB o) (hY : cY M o tb tn) (hn : tn ≤ 8192) : ∀ (d i : Nat), tn - i = d → i ≤ tn → sm_w 29 (2, [some (.ref o), none, some (.int (Int32.ofNat i))], []) M (rI (fun v M2 => v = Int32.ofNat (nt tb tn i) ∧ M2 = M)) := by
  intro d
  induction d with
  | zero =>
    intro i hd hi
    have e : i = tn := by omega
    subst e
    refine g29_1 hS ho ?_
    rw [hY.2.1]
    refine ⟨fun _ => ⟨?_, rfl⟩, fun c => absurd ((o_le (by omega) (by omega)).mpr (Nat.le_refl _)) c⟩
    unfold nt
    rw [fs_e (Nat.le_refl _)]
  | succ d ih =>
    intro i hd hi
    have hb := (hY.2.2 i (by omega)).1
    refine g29_1 hS ho ?_
    rw [hY.2.1, p30_Y hY (by omega), if_pos (by omega), p31_of M hb, o_s]
    refine ⟨fun c => absurd ((o_le (by omega) (by omega)).mp c) (by omega), fun _ => ⟨q30_Y hY (by omega), ?_⟩⟩
    by_cases hk : bk (tb i) = true
    · rw [if_pos hk]
      refine ⟨fun c => absurd c (by decide), fun _ => ?_⟩
      have z := ih (i + 1) (by omega) (by omega)
      rw [show nt tb tn (i + 1) = nt tb tn i from by unfold nt; exact (fs_f (p := fun j => !(bk (tb j))) (by omega) (by simp [hk])).symm] at z
      exact z
    · rw [if_neg hk]
      refine ⟨fun _ => ⟨?_, rfl⟩, fun c => absurd rfl c⟩
      unfold nt
      rw [fs_t (p := fun j => !(bk (tb j))) (by omega) (by simpa using hk)]
theorem s29 {M : sm_M} {o i : Nat} (hS : SH M) (ho : fB o) (hY : cY M o tb tn) (hn : tn ≤ 8192) (hi : i ≤ tn) : sm_cI 29 [.ref o, .int (Int32.ofNat i)] M (fun v M2 => v = Int32.ofNat (nt tb tn i) ∧ M2 = M) :=
  g29_0 hS ho (s29_1 hS ho hY hn _ i rfl hi)
/-- the names -/
def nmB (x i : Nat) : Nat := (if x = 1 then [119, 105, 100, 116, 104] else if x = 3 then [107, 101, 114, 110] else if x = 5 then [106, 111, 105, 110] else [101, 110, 100, 115]).getD i 0
def NM (M : sm_M) : Prop := ∀ x, fN x → iV M x 1 = 0 ∧ ∀ i, i < cN x → iV M (x + 1) i = Int32.ofNat (nmB x i)
theorem fN_s {x : Nat} (h : fN x) : x = 1 ∨ x = 3 ∨ x = 5 ∨ x = 7 := h
theorem cN_b {x : Nat} : 4 ≤ cN x ∧ cN x ≤ 5 := by unfold cN; split <;> omega
theorem nmB_b {x i : Nat} (hx : fN x) (hi : i < cN x) : 97 ≤ nmB x i ∧ nmB x i ≤ 122 := by
  have h5 := (cN_b (x := x)).2
  rcases fN_s hx with e | e | e | e <;> subst e
  · exact (show ∀ i, i < 5 → 97 ≤ nmB 1 i ∧ nmB 1 i ≤ 122 from by decide) i hi
  · exact (show ∀ i, i < 4 → 97 ≤ nmB 3 i ∧ nmB 3 i ≤ 122 from by decide) i hi
  · exact (show ∀ i, i < 4 → 97 ≤ nmB 5 i ∧ nmB 5 i ≤ 122 from by decide) i hi
  · exact (show ∀ i, i < 4 → 97 ≤ nmB 7 i ∧ nmB 7 i ≤ 122 from by decide) i hi
theorem NM.eq {M M2 : sm_M} (h : NM M) (e : ∀ a k, a < 23 → iV M2 a k = iV M a k) : NM M2 := fun x hx => by
  have := fN_s hx
  obtain ⟨h1, h2⟩ := h x hx
  exact ⟨by rw [e _ _ (by omega)]; exact h1, fun i hi => by rw [e _ _ (by omega)]; exact h2 i hi⟩
theorem P34 {M : sm_M} {x : Nat} (h : NM M) (hx : fN x) : p34_0 M x = Int32.ofNat (cN x) ∧ q34_0 M x := by
  obtain ⟨h1, h2⟩ := h x hx
  unfold p34_0 q34_0 p35_0 q35_0
  rw [h1]
  refine ⟨?_, rfl⟩
  rcases fN_s hx with e | e | e | e <;> subst e <;> decide
theorem ch_k {b : Nat} (h : b < 128) : (((Int32.ofNat b &&& (255 : Int32)).toUInt32 % 65536).toInt32 = Int32.ofNat b) ∧ narrow (sm_ry 4) (.int (Int32.ofNat b)) = .int (Int32.ofNat b) := by
  refine ⟨(show ∀ b, b < 128 → ((Int32.ofNat b &&& (255 : Int32)).toUInt32 % 65536).toInt32 = Int32.ofNat b from by decide +kernel) b h, ?_⟩
  show Value.int ((Int32.ofNat b).toUInt32 % 65536).toInt32 = _
  rw [(show ∀ b, b < 128 → ((Int32.ofNat b).toUInt32 % 65536).toInt32 = Int32.ofNat b from by decide +kernel) b h]
theorem P37 {M : sm_M} {x i : Nat} (h : NM M) (hx : fN x) (hi : i < cN x) : p37_0 M x (Int32.ofNat i) = Int32.ofNat (nmB x i) ∧ q37_0 M x (Int32.ofNat i) := by
  obtain ⟨h1, h2⟩ := h x hx
  have hb := nmB_b hx hi
  have h5 := cN_b (x := x)
  have e38 : p38_0 M x = 1 := by unfold p38_0; rw [h1]; rfl
  have e39 : p39_0 M (x + 1) (cN x) (Int32.ofNat i) = Int32.ofNat (nmB x i) := by
    unfold p39_0
    rw [o_cl (by omega), h2 i hi]
    exact (ch_k (by omega)).1
  unfold p37_0 q37_0
  rw [e38, e39]
  refine ⟨if_neg (by decide), fun c => absurd c (by decide), fun _ => ⟨?_, (ch_k (by omega)).2⟩⟩
  unfold q39_0 q40_0
  rw [o_cl (by omega), h2 i hi, (ch_k (by omega)).1]
  exact ⟨⟨o_nn (by omega), (o_lt (by omega) (by omega)).mpr hi⟩, (o_in (by omega)).mpr hi, (ch_k (by omega)).2⟩
def kH (tb : Nat → Nat) (tn s x : Nat) : Prop := ∀ i, i < cN x → s + i < tn ∧ tb (s + i) = nmB x i
def kW (tb : Nat → Nat) (tn s x : Nat) : Prop := kH tb tn s x ∧ ¬ (s + cN x < tn ∧ (sl (tb (s + cN x)) = true ∨ dg (tb (s + cN x)) = true))
theorem s36_1 {M : sm_M} {x s : Nat} (hS : SH M) (hN : NM M) (hx : fN x) (hY : cY M 24 tb tn) (hn : tn ≤ 8192) (hs : s ≤ 8192) : ∀ (d i : Nat), cN x - i = d → i ≤ cN x → (∀ j, j < i → s + j < tn ∧ tb (s + j) = nmB x j) → sm_w 36 (2, [some (.ref 24), some (.ref x), some (.int (Int32.ofNat s)), some (.int (Int32.ofNat i))], []) M (rI (fun v M2 => (v = 1 ∧ kH tb tn s x ∨ v = 0 ∧ ¬ kH tb tn s x) ∧ M2 = M)) := by
  have h5 := cN_b (x := x)
  intro d
  induction d with
  | zero =>
    intro i hd hi hj
    have e : i = cN x := by omega
    subst e
    refine g36_1 hS (Or.inl rfl) hx ⟨(P34 hN hx).2, ?_⟩
    rw [(P34 hN hx).1]
    exact ⟨fun _ => ⟨Or.inl ⟨rfl, hj⟩, rfl⟩, fun c => absurd ((o_le (by omega) (by omega)).mpr (Nat.le_refl _)) c⟩
  | succ d ih =>
    intro i hd hi hj
    obtain ⟨a1, a2⟩ := P37 (i := i) hN hx (by omega)
    have hb := nmB_b (i := i) hx (by omega)
    refine g36_1 hS (Or.inl rfl) hx ⟨(P34 hN hx).2, ?_⟩
    rw [(P34 hN hx).1, show Int32.ofNat s + Int32.ofNat i = Int32.ofNat (s + i) from (Int32.ofNat_add _ _).symm, p30_Y hY (by omega), a1, o_s]
    refine ⟨fun c => absurd ((o_le (by omega) (by omega)).mp c) (by omega), fun _ => ⟨q30_Y hY (by omega), a2, fun c => ih (i + 1) (by omega) (by omega) fun j hj2 => ?_, fun c => ⟨Or.inr ⟨rfl, fun z => ?_⟩, rfl⟩⟩⟩
    · by_cases ej : j = i
      · subst ej
        by_cases u : s + j < tn
        · rw [if_pos u] at c
          have hb2 := (hY.2.2 _ u).1
          exact ⟨u, (o_eq (by omega) (by omega)).mp c⟩
        · rw [if_neg u] at c
          have : (-1 : Int32).toInt = (Int32.ofNat (nmB x j)).toInt := by rw [c]
          rw [o_ti (by omega), show (-1 : Int32).toInt = -1 from rfl] at this
          omega
      · exact hj j (by omega)
    · obtain ⟨z1, z2⟩ := z i (by omega)
      rw [if_pos z1, z2] at c
      exact c rfl
theorem s36 {M : sm_M} {x s : Nat} (hS : SH M) (hN : NM M) (hx : fN x) (hY : cY M 24 tb tn) (hn : tn ≤ 8192) (hs : s ≤ 8192) : sm_cI 36 [.ref 24, .ref x, .int (Int32.ofNat s)] M (fun v M2 => (v = 1 ∧ kH tb tn s x ∨ v = 0 ∧ ¬ kH tb tn s x) ∧ M2 = M) :=
  g36_0 hS (Or.inl rfl) hx (s36_1 hS hN hx hY hn hs _ 0 rfl (Nat.zero_le _) fun j hj => by omega)
theorem P41e {M : sm_M} {k : Nat} (hY : cY M 24 tb tn) : p41_0 M (if k < tn then Int32.ofNat (tb k) else -1) = 0 ↔ ¬ (k < tn ∧ sl (tb k) = true) := by
  by_cases u : k < tn
  · rw [if_pos u, P41 M (hY.2.2 k u).1]
    exact ⟨fun z y => z y.2, fun z y => z ⟨u, y⟩⟩
  · rw [if_neg u]
    exact ⟨fun _ y => u y.1, fun _ => by unfold p41_0; decide⟩
theorem P42e {M : sm_M} {k : Nat} (hY : cY M 24 tb tn) : p42_0 M (if k < tn then Int32.ofNat (tb k) else -1) = 0 ↔ ¬ (k < tn ∧ dg (tb k) = true) := by
  by_cases u : k < tn
  · rw [if_pos u, P42 M (hY.2.2 k u).1]
    exact ⟨fun z y => z y.2, fun z y => z ⟨u, y⟩⟩
  · rw [if_neg u]
    exact ⟨fun _ y => u y.1, fun _ => by unfold p42_0; decide⟩
theorem s33 {M : sm_M} {x s : Nat} (hS : SH M) (hN : NM M) (hx : fN x) (hY : cY M 24 tb tn) (hn : tn ≤ 8192) (hs : s ≤ tn) (hp : iV M 33 1 = Int32.ofNat s) : sm_cI 33 [.ref 33, .ref x] M (fun v M2 => (v = 1 ∧ kW tb tn s x ∧ M2 = sm_wI M 33 1 (Int32.ofNat (s + cN x))) ∨ (v = 0 ∧ ¬ kW tb tn s x ∧ M2 = M)) := by
  have h5 := cN_b (x := x)
  obtain ⟨a1, a2⟩ := P34 hN hx
  refine g33_0 hS hx ?_
  rw [hp, a1, show Int32.ofNat s + Int32.ofNat (cN x) = Int32.ofNat (s + cN x) from (Int32.ofNat_add _ _).symm, p30_Y hY (by omega)]
  refine ⟨a2, q30_Y hY (by omega), (s36 hS hN hx hY hn (by omega)).mono fun v4 M3 k3 s3 => ?_⟩
  obtain ⟨k31, k32⟩ := k3
  subst k32
  rw [P41e hY, P42e hY, a1, hp, show Int32.ofNat s + Int32.ofNat (cN x) = Int32.ofNat (s + cN x) from (Int32.ofNat_add _ _).symm]
  refine ⟨fun c => Or.inr ⟨rfl, fun z => ?_, rfl⟩, fun c => ⟨fun c1 => ⟨fun c2 => ⟨a2, fun M7 s7 e7 => Or.inl ⟨rfl, ⟨?_, ?_⟩, e7⟩⟩, fun c2 => Or.inr ⟨rfl, fun z => ?_, rfl⟩⟩, fun c1 => Or.inr ⟨rfl, fun z => ?_, rfl⟩⟩⟩
  · rcases k31 with y | y
    · rw [y.1] at c; exact absurd c (by decide)
    · exact y.2 z.1
  · rcases k31 with y | y
    · exact y.2
    · exact absurd y.1 c
  · rintro ⟨z1, z2 | z2⟩
    · exact c1 ⟨z1, z2⟩
    · exact c2 ⟨z1, z2⟩
  · have y := Classical.not_not.mp c2
    exact z.2 ⟨y.1, Or.inr y.2⟩
  · have y := Classical.not_not.mp c1
    exact z.2 ⟨y.1, Or.inl y.2⟩
def p33 : Nat → Nat → Prop := fun a k => a = 33 ∧ (k = 1 ∨ k = 2)
/-- the tape is as it was -/
theorem cY.fr {M M2 : sm_M} {o : Nat} {p : Nat → Nat → Prop} (h : cY M o tb tn) (f : Fr p M M2) (hp : ¬ p o 1 ∧ ∀ k, ¬ p (o + 1) k) : cY M2 o tb tn := ⟨h.1, by rw [f.2.1 _ _ hp.1]; exact h.2.1, fun i hi => by rw [f.2.1 _ _ (hp.2 i)]; exact h.2.2 i hi⟩
theorem cY.w3 {M : sm_M} {k : Nat} {x : Int32} (h : cY M 24 tb tn) : cY (sm_wI M 33 k x) 24 tb tn := h.fr (p := fun a b => a = 33 ∧ b = k) ((Fr.rf _ _).wI ⟨rfl, rfl⟩) ⟨by omega, fun k => by omega⟩
/-- where the reader stands, and what it has found -/
def cL (M : sm_M) (i : Nat) (b : Int32) : Prop := iV M 33 1 = Int32.ofNat i ∧ iV M 33 2 = b
theorem s48 {M : sm_M} {i c : Nat} {b : Int32} (hS : SH M) (hY : cY M 24 tb tn) (hn : tn ≤ 8192) (hi : i ≤ tn) (hc : c < 256) (hL : cL M i b) : sm_cI 48 [.ref 33, .int (Int32.ofNat c)] M (fun v M2 => ((v = 1 ∧ kS tb tn (nt tb tn i) c ∧ cL M2 (nt tb tn i + 1) b) ∨ (v = 0 ∧ ¬ kS tb tn (nt tb tn i) c ∧ cL M2 (nt tb tn i) b)) ∧ Fr p33 M M2) := by
  obtain ⟨b1, b2⟩ := nt_b (tb := tb) hi
  refine g48_0 hS ?_
  rw [hL.1]
  refine (s29 hS (Or.inl rfl) hY hn hi).mono fun v8 M7 k7 s7 => ?_
  obtain ⟨k71, k72⟩ := k7
  subst k72
  intro M10 s10 e10
  rw [k71] at e10
  have p10 : iV M10 33 1 = Int32.ofNat (nt tb tn i) := by rw [e10, iV_wI, if_pos ⟨rfl, rfl⟩]
  have f10 : Fr p33 M7 M10 := by rw [e10]; exact (Fr.rf _ _).wI ⟨rfl, Or.inl rfl⟩
  have b10 : iV M10 33 2 = b := by rw [e10, iV_wI, if_neg (by omega)]; exact hL.2
  have y10 : cY M10 24 tb tn := by rw [e10]; exact hY.w3
  rw [p10, p30_Y y10 (by omega), o_s]
  refine ⟨q30_Y y10 (by omega), fun c1 M5 s5 e5 => ⟨Or.inl ⟨rfl, ?_, by rw [e5, iV_wI, if_pos ⟨rfl, rfl⟩], by rw [e5, iV_wI, if_neg (by omega)]; exact b10⟩, by rw [e5]; exact f10.wI ⟨rfl, Or.inl rfl⟩⟩, fun c1 => ⟨Or.inr ⟨rfl, fun z => ?_, p10, b10⟩, f10⟩⟩
  · by_cases u : nt tb tn i < tn
    · rw [if_pos u] at c1
      exact ⟨u, (o_eq (by have := (hY.2.2 _ u).1; omega) (by omega)).mp c1⟩
    · rw [if_neg u] at c1
      have : (-1 : Int32).toInt = (Int32.ofNat c).toInt := by rw [c1]
      rw [o_ti (by omega), show (-1 : Int32).toInt = -1 from rfl] at this
      omega
  · rw [if_pos z.1, z.2] at c1
    exact c1 rfl
theorem m1_ne {c : Nat} (h : c < 2147483648) : ¬ (-1 : Int32) = Int32.ofNat c := fun e => by
  have : (-1 : Int32).toInt = (Int32.ofNat c).toInt := by rw [e]
  rw [o_ti h, show (-1 : Int32).toInt = -1 from rfl] at this
  omega
theorem s44 {M : sm_M} {i : Nat} {b : Int32} (hS : SH M) (hY : cY M 24 tb tn) (hn : tn ≤ 8192) (hi : i ≤ tn) (hL : cL M i b) : sm_cI 44 [.ref 33] M (fun v M2 => ((v = Int32.ofNat (tb (nt tb tn i + 1)) ∧ kB tb tn (nt tb tn i) ∧ cL M2 (nt tb tn i + 3) b) ∨ (v = -1 ∧ ¬ kB tb tn (nt tb tn i) ∧ cL M2 (nt tb tn i) (Int32.ofNat (nt tb tn i)))) ∧ Fr p33 M M2) := by
  obtain ⟨b1, b2⟩ := nt_b (tb := tb) hi
  refine g44_0 hS ?_
  rw [hL.1]
  refine (s29 hS (Or.inl rfl) hY hn hi).mono fun v25 M24 k24 s24 => ?_
  obtain ⟨k71, k72⟩ := k24
  subst k72
  intro M27 s27 e27
  rw [k71] at e27
  have p27 : iV M27 33 1 = Int32.ofNat (nt tb tn i) := by rw [e27, iV_wI, if_pos ⟨rfl, rfl⟩]
  have f27 : Fr p33 M24 M27 := by rw [e27]; exact (Fr.rf _ _).wI ⟨rfl, Or.inl rfl⟩
  have b27 : iV M27 33 2 = b := by rw [e27, iV_wI, if_neg (by omega)]; exact hL.2
  have y27 : cY M27 24 tb tn := by rw [e27]; exact hY.w3
  have bad : ¬ kB tb tn (nt tb tn i) → ∀ M4, SH M4 → M4 = sm_wI M27 33 2 (Int32.ofNat (nt tb tn i)) → (((-1 : Int32) = Int32.ofNat (tb (nt tb tn i + 1)) ∧ kB tb tn (nt tb tn i) ∧ cL M4 (nt tb tn i + 3) b) ∨ ((-1 : Int32) = -1 ∧ ¬ kB tb tn (nt tb tn i) ∧ cL M4 (nt tb tn i) (Int32.ofNat (nt tb tn i)))) ∧ Fr p33 M24 M4 := fun z M4 s4 e4 => ⟨Or.inr ⟨rfl, z, by rw [e4, iV_wI, if_neg (by omega)]; exact p27, by rw [e4, iV_wI, if_pos ⟨rfl, rfl⟩]⟩, by rw [e4]; exact f27.wI ⟨rfl, Or.inr rfl⟩⟩
  rw [p27, show Int32.ofNat (nt tb tn i) + 2 = Int32.ofNat (nt tb tn i + 2) from (Int32.ofNat_add _ 2).symm, show Int32.ofNat (nt tb tn i) + 3 = Int32.ofNat (nt tb tn i + 3) from (Int32.ofNat_add _ 3).symm, o_s, p30_Y y27 (by omega), p30_Y y27 (by omega), p30_Y y27 (by omega)]
  have byte : ∀ k c, (c : Nat) < 256 → ((if k < tn then Int32.ofNat (tb k) else -1) = Int32.ofNat c ↔ k < tn ∧ tb k = c) := fun k c hc => by
    by_cases u : k < tn
    · rw [if_pos u, o_eq (by have := (hY.2.2 _ u).1; omega) (by omega)]
      exact ⟨fun z => ⟨u, z⟩, fun z => z.2⟩
    · rw [if_neg u]
      exact ⟨fun z => absurd z (m1_ne (by omega)), fun z => absurd z.1 u⟩
  have out : ∀ M, SH M → M = M27 → ¬ kB tb tn (nt tb tn i) → ∀ x1, sm_w 44 (56, [some (.ref 33), some (.int x1), none], []) M (rI (fun v M2 => ((v = Int32.ofNat (tb (nt tb tn i + 1)) ∧ kB tb tn (nt tb tn i) ∧ cL M2 (nt tb tn i + 3) b) ∨ (v = -1 ∧ ¬ kB tb tn (nt tb tn i) ∧ cL M2 (nt tb tn i) (Int32.ofNat (nt tb tn i)))) ∧ Fr p33 M24 M2)) := fun M sM eM z x1 => by
    subst eM
    refine g44_1 sM ?_
    rw [p27]
    exact bad z
  refine ⟨q30_Y y27 (by omega), q30_Y y27 (by omega), fun c1 => ⟨q30_Y y27 (by omega), fun c2 => ?_, fun c2 => out M27 s27 rfl (fun z => c2 ((byte _ 34 (by omega)).mpr ⟨by have := z.1; omega, z.2.2.1⟩)) _⟩, fun c1 => out M27 s27 rfl (fun z => c1 ((byte _ 34 (by omega)).mpr ⟨by have := z.1; omega, z.2.1⟩)) _⟩
  have d1 := (byte (nt tb tn i) 34 (by omega)).mp c1
  have d2 := (byte (nt tb tn i + 2) 34 (by omega)).mp c2
  have u : nt tb tn i + 1 < tn := by omega
  have hb := (hY.2.2 _ u).1
  rw [if_pos u]
  refine ⟨fun c3 => bad fun z => absurd ((o_lt (m := 32) (by omega) (by omega)).mp c3) (by have := z.2.2.2.1; omega), fun c3 => ⟨fun c4 => bad fun z => absurd ((o_lt (n := 126) (by omega) (by omega)).mp c4) (by have := z.2.2.2.2.1; omega), fun c4 => ⟨fun c5 => bad fun z => z.2.2.2.2.2 ((o_eq (m := 34) (by omega) (by omega)).mp c5), fun c5 M22 s22 e22 => ⟨Or.inl ⟨rfl, ⟨d2.1, d1.2, d2.2, ?_, ?_, fun z => c5 (by rw [z]; rfl)⟩, by rw [e22, iV_wI, if_pos ⟨rfl, rfl⟩], by rw [e22, iV_wI, if_neg (by omega)]; exact b27⟩, by rw [e22]; exact f27.wI ⟨rfl, Or.inl rfl⟩⟩⟩⟩⟩
  · rcases Nat.lt_or_ge (tb (nt tb tn i + 1)) 32 with z | z
    · exact absurd ((o_lt (m := 32) (by omega) (by omega)).mpr z) c3
    · exact z
  · rcases Nat.lt_or_ge 126 (tb (nt tb tn i + 1)) with z | z
    · exact absurd ((o_lt (n := 126) (by omega) (by omega)).mpr z) c4
    · exact z
theorem s46_1 {A : sm_M} {i s m : Nat} {b : Int32} (hS : SH A) (hY : cY A 24 tb tn) (hn : tn ≤ 8192) (hs : s ≤ tn) (hm : m ≤ 100000) (hL : cL A s b) : ∀ (d k : Nat), 8 - k = d → k ≤ 8 → s + k ≤ tn → (∀ j, s ≤ j → j < s + k → dg (tb j) = true) → sm_w 46 (8, [some (.ref 33), some (.int (Int32.ofNat m)), some (.int (Int32.ofNat k)), some (.int (Int32.ofNat (dv tb s k)))], []) A (rI (fun v M2 => ((v = Int32.ofNat (dv tb s (dr tb tn s - s)) ∧ kNu tb tn s m ∧ cL M2 (dr tb tn s) b) ∨ (v = -1 ∧ ¬ kNu tb tn s m ∧ cL M2 s (Int32.ofNat s))) ∧ Fr p33 A M2)) := by
  have vb : ∀ k, k ≤ 8 → (∀ j, s ≤ j → j < s + k → dg (tb j) = true) → dv tb s k < 100000000 := fun k hk h => by
    have h1 := dv_b (tb := tb) s k fun i hi => by have := dg_48 (h (s + i) (by omega) (by omega)); omega
    have h2 := ten_le hk
    omega
  have bad : ¬ kNu tb tn s m → ∀ M4, SH M4 → M4 = sm_wI A 33 2 (Int32.ofNat s) → (((-1 : Int32) = Int32.ofNat (dv tb s (dr tb tn s - s)) ∧ kNu tb tn s m ∧ cL M4 (dr tb tn s) b) ∨ ((-1 : Int32) = -1 ∧ ¬ kNu tb tn s m ∧ cL M4 s (Int32.ofNat s))) ∧ Fr p33 A M4 := fun z M4 s4 e4 => ⟨Or.inr ⟨rfl, z, by rw [e4, iV_wI, if_neg (by omega)]; exact hL.1, by rw [e4, iV_wI, if_pos ⟨rfl, rfl⟩]⟩, by rw [e4]; exact (Fr.rf _ _).wI ⟨rfl, Or.inr rfl⟩⟩
  obtain ⟨r1, r2⟩ := dr_b (tb := tb) hs
  intro d
  induction d with
  | zero =>
    intro k hd hk hsk hdg
    have e : k = 8 := by omega
    subst e
    have hno : ¬ kNu tb tn s m := fun z => by
      have z2 := z.2.1
      rcases Nat.lt_or_ge (dr tb tn s) (s + 8) with y | y
      · have := dr_n hs (show dr tb tn s < tn by omega)
        rw [hdg _ r1 y] at this
        exact absurd this (by decide)
      · omega
    refine g46_1 hS ?_
    rw [hL.1]
    refine ⟨fun _ => ⟨fun c => absurd ((o_lt (n := 8) (m := 1) (by omega) (by omega)).mp c) (by omega), fun _ => ⟨fun _ => bad hno, fun c => absurd ((o_lt (n := 7) (m := 8) (by omega) (by omega)).mpr (by omega)) c⟩⟩, fun c => absurd ((o_lt (n := 7) (m := 8) (by omega) (by omega)).mpr (by omega)) c⟩
  | succ d ih =>
    intro k hd hk hsk hdg
    have c7 : ¬ (7 : Int32) < Int32.ofNat k := fun z => absurd ((o_lt (n := 7) (by omega) (by omega)).mp z) (by omega)
    refine g46_1 hS ?_
    rw [hL.1, show Int32.ofNat s + Int32.ofNat k = Int32.ofNat (s + k) from (Int32.ofNat_add _ _).symm, p30_Y hY (by omega), P42e hY, o_s]
    refine ⟨fun c => absurd c c7, fun _ => ⟨q30_Y hY (by omega), fun c => ?_, fun c => ⟨q30_Y hY (by omega), ?_⟩⟩⟩
    · have edr : dr tb tn s = s + k := dr_u (by omega) hsk hdg (by
        rcases Nat.lt_or_ge (s + k) tn with z | z
        · right
          cases h : dg (tb (s + k)) with
          | false => rfl
          | true => exact absurd ⟨z, h⟩ c
        · left; omega)
      have vk := vb k (by omega) hdg
      have ekN : kNu tb tn s m ↔ 1 ≤ k ∧ k ≤ 7 ∧ dv tb s k ≤ m := by
        unfold kNu
        rw [edr, show s + k - s = k from by omega]
        omega
      refine ⟨fun c1 => bad fun z => absurd ((o_lt (m := 1) (by omega) (by omega)).mp c1) (by have := ekN.mp z; omega), fun c1 => ⟨fun c2 => absurd c2 c7, fun _ => ⟨fun c3 M11 s11 e11 => ⟨Or.inl ⟨by rw [edr, show s + k - s = k from by omega], ekN.mpr ⟨?_, by omega, (o_le (by omega) (by omega)).mp c3⟩, by rw [e11, iV_wI, if_pos ⟨rfl, rfl⟩, edr], by rw [e11, iV_wI, if_neg (by omega)]; exact hL.2⟩, by rw [e11]; exact (Fr.rf _ _).wI ⟨rfl, Or.inl rfl⟩⟩, fun c3 => bad fun z => c3 ((o_le (by omega) (by omega)).mpr (ekN.mp z).2.2)⟩⟩⟩
      rcases Nat.lt_or_ge k 1 with z | z
      · exact absurd ((o_lt (m := 1) (by omega) (by omega)).mpr z) c1
      · exact z
    · obtain ⟨u, ud⟩ := Classical.not_not.mp c
      have u2 := dg_48 ud
      have vk := vb k (by omega) hdg
      rw [if_pos u, show Int32.ofNat (dv tb s k) * 10 + Int32.ofNat (tb (s + k)) - 48 = Int32.ofNat (dv tb s (k + 1)) from by
        rw [show (10 : Int32) = Int32.ofNat 10 from rfl, show (48 : Int32) = Int32.ofNat 48 from rfl, ← Int32.ofNat_mul, ← Int32.ofNat_add, ← Int32.ofNat_sub _ _ (by omega)]
        congr 1
        show _ = 10 * dv tb s k + (tb (s + k) - 48)
        omega]
      refine ih (k + 1) (by omega) (by omega) (by omega) fun j j1 j2 => ?_
      by_cases ej : j = s + k
      · rw [ej]; exact ud
      · exact hdg j j1 (by omega)
theorem s46 {M : sm_M} {i m : Nat} {b : Int32} (hS : SH M) (hY : cY M 24 tb tn) (hn : tn ≤ 8192) (hi : i ≤ tn) (hm : m ≤ 100000) (hL : cL M i b) : sm_cI 46 [.ref 33, .int (Int32.ofNat m)] M (fun v M2 => ((v = Int32.ofNat (dv tb (nt tb tn i) (dr tb tn (nt tb tn i) - nt tb tn i)) ∧ kNu tb tn (nt tb tn i) m ∧ cL M2 (dr tb tn (nt tb tn i)) b) ∨ (v = -1 ∧ ¬ kNu tb tn (nt tb tn i) m ∧ cL M2 (nt tb tn i) (Int32.ofNat (nt tb tn i)))) ∧ Fr p33 M M2) := by
  obtain ⟨b1, b2⟩ := nt_b (tb := tb) hi
  refine g46_0 hS ?_
  rw [hL.1]
  refine (s29 hS (Or.inl rfl) hY hn hi).mono fun v5 M4 k4 s4 => ?_
  obtain ⟨k71, k72⟩ := k4
  subst k72
  intro M7 s7 e7
  rw [k71] at e7
  have f7 : Fr p33 M4 M7 := by rw [e7]; exact (Fr.rf _ _).wI ⟨rfl, Or.inl rfl⟩
  have L7 : cL M7 (nt tb tn i) b := ⟨by rw [e7, iV_wI, if_pos ⟨rfl, rfl⟩], by rw [e7, iV_wI, if_neg (by omega)]; exact hL.2⟩
  refine (s46_1 (i := i) s7 (by rw [e7]; exact hY.w3) hn b2 hm L7 _ 0 rfl (by omega) (by omega) fun j j1 j2 => by omega).mono fun o M2 k2 => ?_
  obtain ⟨v, k21, k22, k23⟩ := k2
  exact ⟨v, k21, k22, f7.tr k23⟩
end LEX
