/-! PARTS. -/
theorem P89s (M : sm_M) {c : Nat} (h : c < 256) : p89_0 M (sb c) = 0 ↔ ¬ lt c = true := by
  by_cases z : c < 128
  · rw [sb_lo z]; exact P89 M z
  · have e : lt c = false := by unfold lt; simp; omega
    have n0 := sb_hi h (by omega)
    have n1 : sb c < (97 : Int32) := Int32.lt_trans n0 (by decide)
    have n2 : sb c < (65 : Int32) := Int32.lt_trans n0 (by decide)
    constructor
    · intro _; rw [e]; decide
    · intro _
      unfold p89_0 p41_0
      rw [if_pos n1, if_pos rfl, if_pos n2]
theorem P200b (M : sm_M) {c : Nat} (h : c < 256) : p200_0 M (Int32.ofNat c) = 0 ↔ ¬ lt c = true := by
  by_cases z : c < 128
  · exact P200 M z
  · have e : lt c = false := by unfold lt; simp; omega
    constructor
    · intro _; rw [e]; decide
    · intro _
      unfold p200_0 p173_0
      have a1 : ¬ Int32.ofNat c < (97 : Int32) := fun y => absurd ((o_lt (m := 97) (by omega) (by omega)).mp y) (by omega)
      have a2 : (122 : Int32) < Int32.ofNat c := (o_lt (n := 122) (by omega) (by omega)).mpr (by omega)
      have a3 : ¬ Int32.ofNat c < (65 : Int32) := fun y => absurd ((o_lt (m := 65) (by omega) (by omega)).mp y) (by omega)
      have a4 : (90 : Int32) < Int32.ofNat c := (o_lt (n := 90) (by omega) (by omega)).mpr (by omega)
      rw [if_neg a1, if_pos a2, if_pos rfl, if_neg a3, if_pos a4]
theorem bN_o {c : Nat} (h : c < 128) : bN (Int32.ofNat c) = c := (show ∀ c, c < 128 → bN (Int32.ofNat c) = c from by decide +kernel) c h
section PTS
variable {tb : Nat → Nat} {tn th : Nat} {T : Nat → Nat → Nat → Nat} {A : sm_M}
def okT (tb : Nat → Nat) (tn : Nat) : Prop := (1 ≤ tn ∧ tn ≤ 60) ∧ ∀ i, i < tn → lt (tb i) = true
/-- what is put out of the first i letters -/
noncomputable def po (T : Nat → Nat → Nat → Nat) (tb : Nat → Nat) (tn : Nat) : Nat → (Nat → Nat) × Nat
  | 0 => (fun _ => 0, 0)
  | i + 1 => @ite _ (plc T tn tb i) (Classical.propDecidable _) (tp (tp (po T tb tn i).1 (po T tb tn i).2 45) ((po T tb tn i).2 + 1) (tb i), (po T tb tn i).2 + 2) (tp (po T tb tn i).1 (po T tb tn i).2 (tb i), (po T tb tn i).2 + 1)
theorem po_y {i : Nat} (h : plc T tn tb i) : po T tb tn (i + 1) = (tp (tp (po T tb tn i).1 (po T tb tn i).2 45) ((po T tb tn i).2 + 1) (tb i), (po T tb tn i).2 + 2) := if_pos h
theorem po_n {i : Nat} (h : ¬ plc T tn tb i) : po T tb tn (i + 1) = (tp (po T tb tn i).1 (po T tb tn i).2 (tb i), (po T tb tn i).2 + 1) := if_neg h
theorem po_l (T : Nat → Nat → Nat → Nat) (tb : Nat → Nat) (tn : Nat) : ∀ i, (po T tb tn i).2 ≤ 2 * i
  | 0 => Nat.le_refl _
  | i + 1 => by
    have := po_l T tb tn i
    by_cases z : plc T tn tb i
    · rw [po_y z]; show (po T tb tn i).2 + 2 ≤ _; omega
    · rw [po_n z]; show (po T tb tn i).2 + 1 ≤ _; omega
def p152 (th : Nat) : Nat → Nat → Prop := fun a k => a = 24 ∧ k = 1 ∨ a = 26 ∧ k = 1 ∨ a = 27 ∨ a = 29 ∨ a = th + 9
theorem s153_1 {M : sm_M} (hS : SH M) (hn : tn ≤ 8192) (hB : ∀ i, i < tn → tb i < 256 ∧ iV M 25 i = sb (tb i)) : ∀ (d i : Nat), tn - i = d → i ≤ tn → (∀ j, j < i → lt (tb j) = true) → sm_w 153 (2, [some (.ref 25), some (.int (Int32.ofNat tn)), some (.int (Int32.ofNat i))], []) M (rI (fun v M2 => (v = 0 ∧ ¬ (∀ i, i < tn → lt (tb i) = true) ∨ v = 1 ∧ ∀ i, i < tn → lt (tb i) = true) ∧ M2 = M)) := by
  have hx : sA 25 1 8192 := ⟨rfl, rfl⟩
  intro d
  induction d with
  | zero =>
    intro i hd hi hl
    have e : i = tn := by omega
    subst e
    exact g153_1 hS hx ⟨fun _ => ⟨Or.inr ⟨rfl, hl⟩, rfl⟩, fun c => absurd ((o_le (by omega) (by omega)).mpr (Nat.le_refl _)) c⟩
  | succ d ih =>
    intro i hd hi hl
    obtain ⟨b1, b2⟩ := hB i (by omega)
    refine g153_1 hS hx ?_
    rw [o_cl (n := i) (by omega), b2, P89s M b1, o_s]
    refine ⟨fun c => absurd ((o_le (by omega) (by omega)).mp c) (by omega), fun _ => ⟨fun c => absurd ((o_le (by omega) (by omega)).mp c) (by omega), fun _ => ⟨(o_in (by omega)).mpr (by omega), fun c => ⟨Or.inl ⟨rfl, fun z => c (z i (by omega))⟩, rfl⟩, fun c => ih (i + 1) (by omega) (by omega) fun j hj => ?_⟩⟩⟩
    by_cases ej : j = i
    · rw [ej]; exact Classical.not_not.mp c
    · exact hl j (by omega)
theorem s153 {M : sm_M} (hS : SH M) (hn : tn ≤ 8192) (hB : ∀ i, i < tn → tb i < 256 ∧ iV M 25 i = sb (tb i)) : sm_cI 153 [.ref 25, .int (Int32.ofNat tn)] M (fun v M2 => (v = 0 ∧ ¬ (∀ i, i < tn → lt (tb i) = true) ∨ v = 1 ∧ ∀ i, i < tn → lt (tb i) = true) ∧ M2 = M) :=
  g153_0 hS ⟨rfl, rfl⟩ (s153_1 hS hn hB _ 0 rfl (Nat.zero_le _) fun j hj => by omega)
def K152 (A : sm_M) (th : Nat) (T : Nat → Nat → Nat → Nat) (tb : Nat → Nat) (tn : Nat) (v : Int32) (M2 : sm_M) : Prop := okT tb tn ∧ v = Int32.ofNat (po T tb tn tn).2 ∧ cY M2 26 (po T tb tn tn).1 (po T tb tn tn).2 ∧ iV M2 24 1 = 0 ∧ Fr (p152 th) A M2
theorem s152_1 {X : Nat → sm_M → Prop} (hth : fH th) (ok : okT tb tn) : ∀ (d i : Nat), tn - i = d → i ≤ tn → ∀ M, SH M → (∀ j, j < tn → iV M 25 j = Int32.ofNat (tb j)) → (∀ j, j < tn → (iV M 29 j = 1 ↔ plc T tn tb j)) → cY M 26 (po T tb tn i).1 (po T tb tn i).2 → iV M 24 1 = 0 → Fr (p152 th) A M → sm_w 152 (90, [some (.ref 23), some (.int (Int32.ofNat tn)), some (.int (Int32.ofNat i))], []) M (yI X (K152 A th T tb tn)) := by
  have hok := ok.1
  have hhh := fH_s hth
  have c6 : cB 26 = 6000 := rfl
  intro d
  induction d with
  | zero =>
    intro i hd hi M hS hB h29 hY h24 hA
    have e : i = tn := by omega
    subst e
    exact g152_1 hS ⟨fun _ => ⟨ok, hY.2.1, hY, h24, hA⟩, fun c => absurd ((o_le (by omega) (by omega)).mpr (Nat.le_refl _)) c⟩
  | succ d ih =>
    intro i hd hi M hS hB h29 hY h24 hA
    have hl := po_l T tb tn i
    have hc := (lt_sm (ok.2 i (by omega))).2.2.1
    have go : ∀ M6, SH M6 → (∀ a k, ¬ (a = 26 ∧ k = 1 ∨ a = 27) → iV M6 a k = iV M a k) → cY M6 26 (po T tb tn (i + 1)).1 (po T tb tn (i + 1)).2 → Fr (p152 th) A M6 → sm_w 152 (90, [some (.ref 23), some (.int (Int32.ofNat tn)), some (.int (Int32.ofNat (i + 1)))], []) M6 (yI X (K152 A th T tb tn)) := fun M6 s6 e6 y6 f6 => ih (i + 1) (by omega) (by omega) M6 s6 (fun j hj => by rw [e6 _ _ (by omega)]; exact hB j hj) (fun j hj => by rw [e6 _ _ (by omega)]; exact h29 j hj) y6 (by rw [e6 _ _ (by omega)]; exact h24) f6
    have fy : ∀ B C : sm_M, Fr (pY 26) B C → ∀ a k, ¬ (a = 26 ∧ k = 1 ∨ a = 27) → iV C a k = iV B a k := fun B C f a k z => f.2.1 a k (by unfold pY; omega)
    have fp : ∀ B C : sm_M, Fr (p152 th) A B → Fr (pY 26) B C → Fr (p152 th) A C := fun B C g f => g.tr (f.mono fun a k z => by unfold pY at z; unfold p152; omega)
    refine g152_1 hS ?_
    rw [o_cl (n := i) (by omega), h29 i (by omega), o_s]
    refine ⟨fun c => absurd ((o_le (by omega) (by omega)).mp c) (by omega), fun _ => ⟨(o_in (by omega)).mpr (by omega), fun c => ?_, fun c => ⟨(o_in (by omega)).mpr (by omega), ?_⟩⟩⟩
    · refine (s20 hS (Or.inr rfl) hY (by omega)).mono fun M2 k2 s2 => ?_
      obtain ⟨k21, f2⟩ := k2
      refine ⟨(o_in (by omega)).mpr (by omega), ?_⟩
      rw [fy M M2 f2 25 i (by omega), hB i (by omega)]
      refine (s20 s2 (Or.inr rfl) k21 (by omega)).mono fun M6 k6 s6 => ?_
      obtain ⟨k61, f6⟩ := k6
      refine go M6 s6 (fun a k z => by rw [fy M2 M6 f6 a k z, fy M M2 f2 a k z]) ?_ (fp M2 M6 (fp M M2 hA f2) f6)
      rw [po_y c]
      rw [bN_o hc, show bN (45 : Int32) = 45 from rfl] at k61
      exact k61
    · rw [hB i (by omega)]
      refine (s20 hS (Or.inr rfl) hY (by omega)).mono fun M2 k2 s2 => ?_
      obtain ⟨k21, f2⟩ := k2
      refine go M2 s2 (fy M M2 f2) ?_ (fp M M2 hA f2)
      rw [po_n c]
      rw [bN_o hc] at k21
      exact k21
theorem s152 {M : sm_M} (hS : SH M) (hth : fH th) (hr : sm_rv M 23 11 = some th) (hw : wT T) (hT : cTb M th T) (hY : cY M 24 tb tn) : sm_xI 152 [.ref 23] M (fun r M2 => ¬ okT tb tn ∧ ∃ M1, SH M1 ∧ r = M1.1 ∧ M2 = sm_new M1 48 6 ∧ iV M1 24 1 = 0 ∧ Fr (fun a k => a = 24 ∧ k = 1) M M1) (K152 M th T tb tn) := by
  have hhh := fH_s hth
  have hn : tn ≤ 8192 := hY.1
  have hwb := hw.1
  refine g152_0 hS fun M1 s1 e1 => ?_
  have f1 : Fr (fun a k => a = 24 ∧ k = 1) M M1 := by rw [e1]; exact (Fr.rf _ _).wI ⟨rfl, rfl⟩
  have z1 : iV M1 24 1 = 0 := by rw [e1, iV_wI, if_pos ⟨rfl, rfl⟩]
  have bad : ¬ okT tb tn → ¬ okT tb tn ∧ ∃ M3, SH M3 ∧ M1.1 = M3.1 ∧ sm_new M1 48 6 = sm_new M3 48 6 ∧ iV M3 24 1 = 0 ∧ Fr (fun a k => a = 24 ∧ k = 1) M M3 := fun z => ⟨z, M1, s1, rfl, rfl, z1, f1⟩
  rw [hY.2.1]
  refine ⟨fun c => bad fun z => absurd ((o_lt (m := 1) (by omega) (by omega)).mp c) (by have := z.1; omega), fun c1 => ⟨fun c => bad fun z => absurd ((o_lt (n := 60) (by omega) (by omega)).mp c) (by have := z.1; omega), fun c2 => ?_⟩⟩
  have hl : 1 ≤ tn ∧ tn ≤ 60 := by
    constructor
    · rcases Nat.lt_or_ge tn 1 with z | z
      · exact absurd ((o_lt (m := 1) (by omega) (by omega)).mpr z) c1
      · exact z
    · rcases Nat.lt_or_ge 60 tn with z | z
      · exact absurd ((o_lt (n := 60) (by omega) (by omega)).mpr z) c2
      · exact z
  refine (s153 s1 hn fun i hi => ⟨(hY.2.2 i hi).1, by rw [f1.2.1 _ _ (by omega)]; exact (hY.2.2 i hi).2⟩).mono fun v4 M3 k3 s3 => ?_
  obtain ⟨k31, k32⟩ := k3
  subst k32
  refine ⟨fun c => ?_, fun c => ?_⟩
  · rcases k31 with y | y
    · exact bad fun z => y.2 z.2
    · rw [y.1] at c; exact absurd c (by decide)
  · have ok : okT tb tn := by
      rcases k31 with y | y
      · exact absurd y.1 c
      · exact ⟨hl, y.2⟩
    refine (s9 (x := 29) (n := 61) s3 ⟨rfl, rfl⟩ (by omega)).mono fun M6 k6 s6 => ?_
    obtain ⟨k61, f6⟩ := k6
    have F6 : Fr (p152 th) M M6 := (f1.mono (q := p152 th) fun a k z => Or.inl z).tr (f6.mono fun a k z => by unfold pl at z; unfold p152; omega)
    have L6 : ∀ i, i < tn → iV M6 25 i = Int32.ofNat (tb i) := fun i hi => by
      rw [F6.2.1 _ _ (by unfold p152; omega), (hY.2.2 i hi).2]
      exact sb_lo (lt_sm (ok.2 i hi)).2.2.1
    refine ⟨th, by rw [F6.1.2.2.2.2]; exact hr, hth, ?_⟩
    have e90 := s90 (x0 := th) (x1 := 25) (nx1 := 8192) (x4 := 29) (nx4 := 61) (f := 0) (n := tn) (L := tb) (T := T) s6 hth ⟨rfl, rfl⟩ ⟨rfl, rfl⟩ (by omega) (by omega) hw (by omega) (by omega) (by omega) (by omega) (by omega) (hT.eq (fun a k a1 a2 => F6.2.1 _ _ (by unfold p152; omega)) fun k => F6.2.2 _ _ (by unfold p152; omega)) ok.2 (fun i hi => by rw [Nat.zero_add]; exact L6 i hi)
    rw [Nat.zero_add] at e90
    refine e90.mono fun M12 k12 s12 => ?_
    obtain ⟨m12, f12⟩ := k12
    intro M15 s15 e15
    have F12 : Fr (p152 th) M M12 := F6.tr (f12.mono fun a k z => by unfold p90 at z; unfold p152; omega)
    have F15 : Fr (p152 th) M M15 := by rw [e15]; exact F12.wI (Or.inr (Or.inl ⟨rfl, rfl⟩))
    refine s152_1 hth ok _ 0 rfl (Nat.zero_le _) M15 s15 (fun j hj => ?_) (fun j hj => ?_) ⟨by show 0 ≤ _; omega, ?_, fun i hi => absurd hi (Nat.not_lt_zero _)⟩ ?_ F15
    · rw [e15, iV_wI, if_neg (by omega), f12.2.1 _ _ (by unfold p90; omega)]; exact L6 j hj
    · rw [e15, iV_wI, if_neg (by omega)]
      by_cases y : plc T tn tb j
      · rw [(m12 j).1 ⟨j, by omega, by omega, y⟩]
        exact ⟨fun _ => y, fun _ => rfl⟩
      · rw [(m12 j).2 (by rintro ⟨i, i1, i2, i3⟩; exact y (by rw [show j = i from by omega]; exact i3)), k61 j (by omega)]
        exact ⟨fun z => absurd z (by decide), fun z => absurd z y⟩
    · rw [e15, iV_wI, if_pos ⟨rfl, rfl⟩]
      rfl
    · rw [e15, iV_wI, if_neg (by omega), f12.2.1 _ _ (by unfold p90; omega), f6.2.1 _ _ (by unfold pl; omega)]
      exact z1
def p222 : Nat → Nat → Prop := fun a k => a = 116 ∧ (k = 0 ∨ k = 3 ∨ k = 4 ∨ k = 6 ∨ k = 8) ∨ a = 118 ∨ a = 119 ∨ 143 ≤ a ∧ a ≤ 145
def K222 (A : sm_M) (T : Nat → Nat → Nat → Nat) (tb : Nat → Nat) (tn : Nat) (v : Int32) (M2 : sm_M) : Prop := (okT tb tn ∧ iV M2 116 0 = 0 ∧ v = Int32.ofNat (po T tb tn tn).2 ∧ mO M2 (po T tb tn tn).1 (po T tb tn tn).2 ∧ iV M2 116 3 = 0 ∧ Fr p222 A M2) ∨ (¬ okT tb tn ∧ iV M2 116 0 = 1 ∧ iV M2 116 3 = 0 ∧ Fr (fun a k => pTk a k ∨ a = 116 ∧ k = 0) A M2)
/-- a byte is put out -/
theorem mO_add {M3 M5 M : sm_M} {ob : Nat → Nat} {on c : Nat} (h : mO M ob on) (hn : on < 6000) (e3 : M3 = sm_wI M 119 (Int32.ofNat on).toNatClampNeg (Int32.ofNat c)) (e5 : M5 = sm_wI M3 116 6 ((iV M3 116 6) + (1 : Int32))) : mO M5 (tp ob on c) (on + 1) ∧ Fr (fun a k => a = 116 ∧ k = 6 ∨ a = 119) M M5 := by
  rw [o_cl (by omega)] at e3
  have e6 : iV M3 116 6 = Int32.ofNat on := by rw [e3, iV_wI, if_neg (by omega)]; exact h.1
  rw [e6, o_s] at e5
  subst e5
  subst e3
  refine ⟨⟨by rw [iV_wI, if_pos ⟨rfl, rfl⟩], fun i hi => ?_⟩, ((Fr.rf _ M).wI (Or.inr rfl)).wI (Or.inl ⟨rfl, rfl⟩)⟩
  rw [iV_wI, if_neg (by omega), iV_wI]
  unfold tp
  by_cases ei : i = on
  · rw [if_pos ⟨rfl, ei⟩, if_pos ei]
  · rw [if_neg (fun z => ei z.2), if_neg ei]
    exact h.2 i (by omega)
theorem s222_3 (ok : okT tb tn) (hw : wT T) : ∀ (d i : Nat), tn - i = d → i ≤ tn → ∀ M, SH M → mR M tb tn → (∀ j, 1 ≤ j → j < tn → okP M T tn tb j) → mO M (po T tb tn i).1 (po T tb tn i).2 → iV M 116 0 = 0 → iV M 116 3 = 0 → Fr p222 A M → sm_w 222 (112, [some (.ref 116), some (.int (Int32.ofNat i))], []) M (rI (K222 A T tb tn)) := by
  have hok := ok.1
  intro d
  induction d with
  | zero =>
    intro i hd hi M hS hR hO hY h0 h3 hA
    have e : i = tn := by omega
    subst e
    refine g222_3 hS ?_
    rw [hR.1]
    exact ⟨fun _ => Or.inl ⟨ok, h0, hY.1, hY, h3, hA⟩, fun c => absurd ((o_le (by omega) (by omega)).mpr (Nat.le_refl _)) c⟩
  | succ d ih =>
    intro i hd hi M hS hR hO hY h0 h3 hA
    have hl := po_l T tb tn i
    have go : ∀ M6, SH M6 → Fr (fun a k => a = 116 ∧ k = 6 ∨ a = 119) M M6 → mO M6 (po T tb tn (i + 1)).1 (po T tb tn (i + 1)).2 → sm_w 222 (112, [some (.ref 116), some (.int (Int32.ofNat (i + 1)))], []) M6 (rI (K222 A T tb tn)) := fun M6 s6 f6 y6 => ih (i + 1) (by omega) (by omega) M6 s6 ⟨by rw [f6.2.1 _ _ (by omega)]; exact hR.1, fun j hj => by rw [f6.2.1 _ _ (by omega)]; exact hR.2 j hj⟩ (fun j j1 j2 => ⟨fun z => by rw [f6.2.1 _ _ (by omega)]; exact (hO j j1 j2).1 z, fun z => by rw [f6.2.1 _ _ (by omega)]; exact (hO j j1 j2).2 z⟩) y6 (by rw [f6.2.1 _ _ (by omega)]; exact h0) (by rw [f6.2.1 _ _ (by omega)]; exact h3) (hA.tr (f6.mono fun a k z => by unfold p222; omega))
    refine g222_3 hS ?_
    rw [hR.1, o_cl (n := i) (by omega), hR.2 i (by omega), hY.1, o_s]
    refine ⟨fun c => absurd ((o_le (by omega) (by omega)).mp c) (by omega), fun _ => ⟨fun c => ?_, fun c => ⟨(o_in (by omega)).mpr (by omega), fun c2 => ?_, fun c2 => ?_⟩⟩⟩
    · have i0 : i = 0 := by
        have := (o_le (m := 0) (by omega) (by omega)).mp c
        omega
      refine ⟨(o_in (by omega)).mpr (by omega), (o_in (by omega)).mpr (by omega), fun M3 s3 e3 M5 s5 e5 => ?_⟩
      obtain ⟨y1, y2⟩ := mO_add hY (by omega) e3 e5
      refine go M5 s5 y2 ?_
      rw [po_n]
      · exact y1
      · intro z
        have := z.1
        have := hw.1.2.2.1
        omega
    · have i1 : 1 ≤ i := by
        rcases Nat.lt_or_ge 0 i with z | z
        · exact z
        · exact absurd (by rw [show i = 0 from by omega]; decide) c
      have np : ¬ plc T tn tb i := fun z => by
        rw [(hO i i1 (by omega)).1 z] at c2
        exact absurd c2 (by decide)
      refine ⟨(o_in (by omega)).mpr (by omega), (o_in (by omega)).mpr (by omega), fun M3 s3 e3 M5 s5 e5 => ?_⟩
      obtain ⟨y1, y2⟩ := mO_add hY (by omega) e3 e5
      refine go M5 s5 y2 ?_
      rw [po_n np]
      exact y1
    · have i1 : 1 ≤ i := by
        rcases Nat.lt_or_ge 0 i with z | z
        · exact z
        · exact absurd (by rw [show i = 0 from by omega]; decide) c
      have yp : plc T tn tb i := Classical.byContradiction fun z => c2 ((hO i i1 (by omega)).2 z)
      refine ⟨(o_in (by omega)).mpr (by omega), fun M3 s3 e3 M5 s5 e5 => ?_⟩
      obtain ⟨y1, y2⟩ := mO_add (c := 45) hY (by omega) e3 e5
      rw [y1.1, y2.2.1 118 i (by omega), hR.2 i (by omega)]
      refine ⟨(o_in (by omega)).mpr (by omega), (o_in (by omega)).mpr (by omega), fun M21 s21 e21 M23 s23 e23 => ?_⟩
      obtain ⟨u1, u2⟩ := mO_add y1 (by omega) e21 e23
      refine go M23 s23 (y2.tr u2) ?_
      rw [po_y yp]
      exact u1
theorem s222_2 (ok : okT tb tn) (hw : wT T) (hT : mTb A T) : ∀ (d i : Nat), tn - i = d → i ≤ tn → ∀ M, SH M → mR M tb tn → (∀ j, j < i → iV M 143 (j + 1) = Int32.ofNat (sml (tb j))) → iV M 116 0 = 0 → iV M 116 3 = 0 → Fr p222 A M → sm_w 222 (66, [some (.ref 116), some (.int (Int32.ofNat i))], []) M (rI (K222 A T tb tn)) := by
  have hok := ok.1
  intro d
  induction d with
  | zero =>
    intro i hd hi M hS hR hw2 h0 h3 hA
    have e : i = tn := by omega
    subst e
    refine g222_2 hS ?_
    rw [hR.1]
    refine ⟨fun _ => ?_, fun c => absurd ((o_le (by omega) (by omega)).mpr (Nat.le_refl _)) c⟩
    refine (s202 (L := tb) hS hw (by omega) (by omega) ok.2 (hT.eq ⟨hA.2.1 _ _ (by unfold p222; omega), hA.2.1 _ _ (by unfold p222; omega), hA.2.1 _ _ (by unfold p222; omega), hA.2.1 _ _ (by unfold p222; omega)⟩ fun a k a1 a2 => hA.2.1 _ _ (by unfold p222; omega)) hw2).mono fun M1 k1 s1 M4 s4 e4 => ?_
    obtain ⟨k11, f1⟩ := k1
    have f4 : Fr (fun a k => a = 116 ∧ k = 6 ∨ p202 a k) M M4 := by rw [e4]; exact (f1.mono fun a k z => Or.inr z).wI (Or.inl ⟨rfl, rfl⟩)
    refine s222_3 ok hw _ 0 rfl (Nat.zero_le _) M4 s4 ⟨by rw [f4.2.1 _ _ (by unfold p202; omega)]; exact hR.1, fun j hj => by rw [f4.2.1 _ _ (by unfold p202; omega)]; exact hR.2 j hj⟩ (fun j j1 j2 => ⟨fun z => by rw [e4, iV_wI, if_neg (by omega)]; exact (k11 j j1 j2).1 z, fun z => by rw [e4, iV_wI, if_neg (by omega)]; exact (k11 j j1 j2).2 z⟩) ⟨by rw [e4, iV_wI, if_pos ⟨rfl, rfl⟩]; rfl, fun j hj => absurd hj (Nat.not_lt_zero _)⟩ (by rw [f4.2.1 _ _ (by unfold p202; omega)]; exact h0) (by rw [f4.2.1 _ _ (by unfold p202; omega)]; exact h3) (hA.tr (f4.mono fun a k z => by unfold p202 at z; unfold p222; omega))
  | succ d ih =>
    intro i hd hi M hS hR hw2 h0 h3 hA
    have hc := (lt_sm (ok.2 i (by omega))).2.2.1
    refine g222_2 hS ?_
    rw [hR.1, o_cl (n := i) (by omega), hR.2 i (by omega), P201 M hc, o_s, o_cl (n := i + 1) (by omega)]
    refine ⟨fun c => absurd ((o_le (by omega) (by omega)).mp c) (by omega), fun _ => ⟨(o_in (by omega)).mpr (by omega), (o_in (by omega)).mpr (by omega), fun M8 s8 e8 => ?_⟩⟩
    refine ih (i + 1) (by omega) (by omega) M8 s8 ⟨by rw [e8, iV_wI, if_neg (by omega)]; exact hR.1, fun j hj => by rw [e8, iV_wI, if_neg (by omega)]; exact hR.2 j hj⟩ (fun j hj => ?_) (by rw [e8, iV_wI, if_neg (by omega)]; exact h0) (by rw [e8, iV_wI, if_neg (by omega)]; exact h3) (by rw [e8]; exact hA.wI (Or.inr (Or.inr (Or.inr ⟨by omega, by omega⟩))))
    rw [e8, iV_wI]
    by_cases ej : j = i
    · rw [if_pos ⟨rfl, by omega⟩, ej]
    · rw [if_neg (by omega)]; exact hw2 j (by omega)
theorem s222_1 (hl : 1 ≤ tn ∧ tn ≤ 60) (hB : ∀ i, i < tn → tb i < 256) (hw : wT T) (hT : mTb A T) {M : sm_M} (hS : SH M) (hR : mR M tb tn) (h3 : iV M 116 3 = 0) (hA : Fr pTk A M) : ∀ (d i : Nat), tn - i = d → i ≤ tn → (∀ j, j < i → lt (tb j) = true) → sm_w 222 (27, [some (.ref 116), some (.int (Int32.ofNat i))], []) M (rI (K222 A T tb tn)) := by
  intro d
  induction d with
  | zero =>
    intro i hd hi hll
    have e : i = tn := by omega
    subst e
    refine g222_1 hS ?_
    rw [hR.1]
    refine ⟨fun _ M1 s1 e1 => ?_, fun c => absurd ((o_le (by omega) (by omega)).mpr (Nat.le_refl _)) c⟩
    exact s222_2 ⟨hl, hll⟩ hw hT _ 0 rfl (Nat.zero_le _) M1 s1 ⟨by rw [e1, iV_wI, if_neg (by omega)]; exact hR.1, fun j hj => by rw [e1, iV_wI, if_neg (by omega)]; exact hR.2 j hj⟩ (fun j hj => by omega) (by rw [e1, iV_wI, if_pos ⟨rfl, rfl⟩]) (by rw [e1, iV_wI, if_neg (by omega)]; exact h3) (by rw [e1]; exact (hA.mono (q := p222) fun a k z => by unfold pTk at z; unfold p222; omega).wI (Or.inl ⟨rfl, Or.inl rfl⟩))
  | succ d ih =>
    intro i hd hi hll
    refine g222_1 hS ?_
    rw [hR.1, o_cl (n := i) (by omega), hR.2 i (by omega), P200b M (hB i (by omega)), o_s]
    refine ⟨fun c => absurd ((o_le (by omega) (by omega)).mp c) (by omega), fun _ => ⟨(o_in (by omega)).mpr (by omega), fun c M7 s7 e7 => Or.inr ⟨fun z => c (z.2 i (by omega)), by rw [e7, iV_wI, if_pos ⟨rfl, rfl⟩], by rw [e7, iV_wI, if_neg (by omega)]; exact h3, by rw [e7]; exact (hA.mono fun a k z => Or.inl z).wI (Or.inr ⟨rfl, rfl⟩)⟩, fun c => ih (i + 1) (by omega) (by omega) fun j hj => ?_⟩⟩
    by_cases ej : j = i
    · rw [ej]; exact Classical.not_not.mp c
    · exact hll j (by omega)
theorem s222 {M : sm_M} (hS : SH M) (hn : tn ≤ 8192) (hB : ∀ i, i < tn → tb i < 256) (hY : mT M tb tn) (hw : wT T) (hT : mTb M T) : sm_cI 222 [.ref 116] M (K222 M T tb tn) := by
  refine g222_0 hS ((s169 hS hn hY).mono fun M1 k1 s1 => ?_)
  obtain ⟨hR, h3, h8, f1⟩ := k1
  rw [hR.1, show (1 : Int64) = (1 : Int32).toInt64 from rfl, show (60 : Int64) = (60 : Int32).toInt64 from rfl, p166_i]
  have le : (¬ Int32.ofNat tn < (1 : Int32) ∧ Int32.ofNat tn ≤ (60 : Int32)) ↔ 1 ≤ tn ∧ tn ≤ 60 := by
    rw [show (1 : Int32) = Int32.ofNat 1 from rfl, show (60 : Int32) = Int32.ofNat 60 from rfl, o_lt (by omega) (by omega), o_le (by omega) (by omega)]
    omega
  rw [le]
  refine ⟨fun c M7 s7 e7 => Or.inr ⟨fun z => c z.1, by rw [e7, iV_wI, if_pos ⟨rfl, rfl⟩], by rw [e7, iV_wI, if_neg (by omega)]; exact h3, by rw [e7]; exact (f1.mono fun a k z => Or.inl z).wI (Or.inr ⟨rfl, rfl⟩)⟩, fun c => ?_⟩
  exact s222_1 (Classical.not_not.mp c) hB hw hT s1 hR h3 f1 _ 0 rfl (Nat.zero_le _) fun j hj => by omega
end PTS
