/-! SET: the reference. -/
section SETM
variable {pb ps w : Nat → Nat} {kf jf : Nat → Nat → Int32} {pn pw : Nat} {T : Nat → Nat → Nat → Nat}
def zM (M : sm_M) : Prop := jV M 152 0 = 0 ∧ jV M 153 0 = 0 ∧ jV M 154 0 = 0 ∧ jV M 155 0 = 0
theorem zM.ofK {M : sm_M} {D : Nat → Nat → Nat} (h : mK M D) (hw : wK D) : zM M := by
  obtain ⟨a4, a5, a6, a7⟩ := h.2.1 0 (Nat.zero_le _)
  obtain ⟨b1, b2, b3, b4, b5, b6, b7⟩ := hw.2.2.2.2.1
  rw [b3] at a4; rw [b4] at a5; rw [b5] at a6; rw [b6] at a7
  exact ⟨a4, a5, a6, a7⟩
theorem zM.fr {M M2 : sm_M} {p : Nat → Nat → Prop} (h : zM M) (f : Fr p M M2) (hp : ∀ a, 152 ≤ a → a ≤ 155 → ¬ p a 0) : zM M2 := by
  obtain ⟨a1, a2, a3, a4⟩ := h
  exact ⟨by rw [f.2.2 _ _ (hp _ (by omega) (by omega))]; exact a1, by rw [f.2.2 _ _ (hp _ (by omega) (by omega))]; exact a2, by rw [f.2.2 _ _ (hp _ (by omega) (by omega))]; exact a3, by rw [f.2.2 _ _ (hp _ (by omega) (by omega))]; exact a4⟩
def p198 : Nat → Nat → Prop := fun a k => a = 116 ∧ (k = 0 ∨ 59 ≤ k ∧ k ≤ 69 ∨ 78 ≤ k ∧ k ≤ 85) ∨ 143 ≤ a ∧ a ≤ 145 ∨ 149 ≤ a ∧ a ≤ 163
def K198 (A : sm_M) (D : Nat → Nat → Nat) (v : Int32) (M2 : sm_M) : Prop := v = Int32.ofNat (D 12 7) ∧ iV M2 116 0 = 0 ∧ iV M2 116 59 = 1 ∧ wK D ∧ wL D ∧ mK M2 D ∧ mLn M2 D ∧ Fr p198 A M2
theorem s198_e {A M : sm_M} {D : Nat → Nat → Nat} {t h : Nat} (hS : SH M) (hw : wK D) (hK : mK M D) (hE : ∀ j, j ≤ D 12 0 → ∀ c, c < 4 → mE M (4 * j + c) (Ent (wt D t) j c)) (hb2 : bstF (Ent (wt D t) (wt D t 12 0)) 4 = some h) (h65 : iV M 116 65 = Int32.ofNat t) (h67 : jV M 116 67 = Int64.ofNat (D 12 8)) (hTx : ∀ i, i < D 12 1 → iV M 149 i = Int32.ofNat (D 8 i)) (h0 : iV M 116 0 = 0) (h59 : iV M 116 59 = 1) (hW : wK (sD (wt D t) h) ∧ wL (sD (wt D t) h)) (hA : Fr p198 A M) : sm_cV 213 [.ref 116] M (fun M2 => SH M2 → K198 A (sD (wt D t) h) (iV M2 116 64) M2) := by
  refine (s213 (D := wt D t) hS (hw.wt t) (hK.wt t) hE hb2).mono fun M2 k2 s2 => ?_
  obtain ⟨a1, a2, a3, f2⟩ := k2
  have hx := hb_v hb2
  refine ⟨a2, by rw [f2.2.1 _ _ (by unfold p213; omega)]; exact h0, by rw [f2.2.1 _ _ (by unfold p213; omega)]; exact h59, hW.1, hW.2, ?_, ?_, hA.tr (f2.mono fun a k z => by unfold p213 at z; unfold p198; omega)⟩
  · exact ((hK.wt t).sD h).fr f2 ⟨fun k k1 k2 => by unfold p213; omega, fun a k k1 k2 => by unfold p213; omega⟩
  · refine ⟨by rw [f2.2.1 _ _ (by unfold p213; omega)]; exact h65, a1, a2, by rw [f2.2.2 _ _ (by unfold p213; omega)]; exact h67, fun j hj => ?_, fun i hi => by rw [f2.2.1 _ _ (by unfold p213; omega)]; exact hTx i hi⟩
    obtain ⟨b1, b2, b3⟩ := a3 j hj
    refine ⟨?_, b2, b3⟩
    rw [b1]
    show _ = Int32.ofNat (if j = 0 then 0 else rE (wt D t) (wt D t 12 0, h) (j - 1))
    rw [(sD_lf (hw.wt t) hx hj).1]
theorem s198_2 {A M : sm_M} {x5 : Int32} {D : Nat → Nat → Nat} (hS : SH M) (hw : wK D) (q5 : Int32.ofNat x5.toNatClampNeg = x5 ∧ 1 ≤ x5.toNatClampNeg ∧ x5.toNatClampNeg ≤ 10000) (hK : mK M D) (h67 : jV M 116 67 = Int64.ofNat (D 12 8)) (hTx : ∀ i, i < D 12 1 → iV M 149 i = Int32.ofNat (D 8 i)) (h0 : iV M 116 0 = 0) (h59 : iV M 116 59 = 1) (hW : ∀ h, bstF (Ent (d1 D x5.toNatClampNeg) (d1 D x5.toNatClampNeg 12 0)) 4 = some h → wK (d2 D x5.toNatClampNeg) ∧ wL (d2 D x5.toNatClampNeg)) (hA : Fr p198 A M) : ∀ M6, SH M6 → M6 = sm_wI M 116 65 x5 → sm_cI 206 [.ref 116, .int (x5), .int ((0 : Int32))] M6 (fun v9 M8 => SH M8 → ((v9 = 0 → ∀ M11, SH M11 → M11 = sm_wI M8 116 65 (10000 : Int32) → sm_cI 206 [.ref 116, .int ((10000 : Int32)), .int ((0 : Int32))] M11 (fun v14 M13 => SH M13 → ((v14 = 0 → ∀ M16, SH M16 → M16 = sm_wI M13 116 65 (10001 : Int32) → sm_cI 206 [.ref 116, .int ((0 : Int32)), .int ((1 : Int32))] M16 (fun v19 M18 => SH M18 → sm_cV 213 [.ref 116] M18 (fun M21 => SH M21 → K198 A (d2 D x5.toNatClampNeg) (iV M21 116 64) M21))) ∧ (¬ v14 = 0 → sm_cV 213 [.ref 116] M13 (fun M24 => SH M24 → K198 A (d2 D x5.toNatClampNeg) (iV M24 116 64) M24))))) ∧ (¬ v9 = 0 → sm_cV 213 [.ref 116] M8 (fun M27 => SH M27 → K198 A (d2 D x5.toNatClampNeg) (iV M27 116 64) M27)))) := by
  have hnn : ∀ D2 : Nat → Nat → Nat, ∀ v M0 M9, wPost D2 M0 v M9 → v = 0 → ∀ c, c < 4 → Ent D2 (D2 12 0) c = none := fun D2 v M0 M9 k z => by
    rcases k.1 with y | y
    · exact y.2
    · rw [y.1] at z; exact absurd z (by decide)
  have hyy : ∀ D2 : Nat → Nat → Nat, ∀ v M0 M9, wPost D2 M0 v M9 → ¬ v = 0 → ∃ h, bstF (Ent D2 (D2 12 0)) 4 = some h := fun D2 v M0 M9 k z => by
    rcases k.1 with y | y
    · exact absurd y.1 z
    · obtain ⟨c, c1, c2⟩ := y.2
      exact bst_some c1 c2
  -- what stays behind a weighing and a write of field 65
  have keep : ∀ (B C : sm_M) (x : Int32), (mK B D ∧ jV B 116 67 = Int64.ofNat (D 12 8) ∧ (∀ i, i < D 12 1 → iV B 149 i = Int32.ofNat (D 8 i)) ∧ iV B 116 0 = 0 ∧ iV B 116 59 = 1 ∧ Fr p198 A B) → C = sm_wI B 116 65 x → mK C D ∧ jV C 116 67 = Int64.ofNat (D 12 8) ∧ (∀ i, i < D 12 1 → iV C 149 i = Int32.ofNat (D 8 i)) ∧ iV C 116 0 = 0 ∧ iV C 116 59 = 1 ∧ Fr p198 A C := fun B C x hB e => by
    obtain ⟨y1, y2, y3, y4, y5, y6⟩ := hB
    subst e
    exact ⟨y1.wI (by omega), y2, fun i hi => by rw [iV_wI, if_neg (by omega)]; exact y3 i hi, by rw [iV_wI, if_neg (by omega)]; exact y4, by rw [iV_wI, if_neg (by omega)]; exact y5, y6.wI (Or.inl ⟨rfl, by omega⟩)⟩
  have keepF : ∀ (B C : sm_M), (mK B D ∧ jV B 116 67 = Int64.ofNat (D 12 8) ∧ (∀ i, i < D 12 1 → iV B 149 i = Int32.ofNat (D 8 i)) ∧ iV B 116 0 = 0 ∧ iV B 116 59 = 1 ∧ Fr p198 A B) → Fr pwg B C → mK C D ∧ jV C 116 67 = Int64.ofNat (D 12 8) ∧ (∀ i, i < D 12 1 → iV C 149 i = Int32.ofNat (D 8 i)) ∧ iV C 116 0 = 0 ∧ iV C 116 59 = 1 ∧ Fr p198 A C := fun B C hB f => by
    obtain ⟨y1, y2, y3, y4, y5, y6⟩ := hB
    exact ⟨y1.fr f ⟨fun k k1 k2 => by unfold pwg; omega, fun a k k1 k2 => by unfold pwg; omega⟩, by rw [f.2.2 _ _ (by unfold pwg; omega)]; exact y2, fun i hi => by rw [f.2.1 _ _ (by unfold pwg; omega)]; exact y3 i hi, by rw [f.2.1 _ _ (by unfold pwg; omega)]; exact y4, by rw [f.2.1 _ _ (by unfold pwg; omega)]; exact y5, y6.tr (f.mono fun a k z => by unfold pwg at z; unfold p198; omega)⟩
  -- the end: the row under the bound t is taken
  have fin : ∀ (t : Nat) (B C : sm_M) (v : Int32), SH C → ft D x5.toNatClampNeg = t → (∃ h, bstF (Ent (wt D t) (wt D t 12 0)) 4 = some h) → wPost (wt D t) B v C → (mK C D ∧ jV C 116 67 = Int64.ofNat (D 12 8) ∧ (∀ i, i < D 12 1 → iV C 149 i = Int32.ofNat (D 8 i)) ∧ iV C 116 0 = 0 ∧ iV C 116 59 = 1 ∧ Fr p198 A C) → iV C 116 65 = Int32.ofNat t → sm_cV 213 [.ref 116] C (fun M21 => SH M21 → K198 A (d2 D x5.toNatClampNeg) (iV M21 116 64) M21) := fun t B C v sC et hh hw2 hC h65 => by
    obtain ⟨h, hh⟩ := hh
    obtain ⟨y1, y2, y3, y4, y5, y6⟩ := hC
    have e1 : d1 D x5.toNatClampNeg = wt D t := by unfold d1; rw [et]
    have e2 : d2 D x5.toNatClampNeg = sD (wt D t) h := by unfold d2; rw [e1, hb_is hh]
    have hWW := hW h (by rw [e1]; exact hh)
    rw [e2] at hWW ⊢
    exact s198_e sC hw y1 hw2.2.1 hh h65 y2 y3 y4 y5 hWW y6
  intro M6 s6 e6
  have k6 := keep M M6 x5 ⟨hK, h67, hTx, h0, h59, hA⟩ e6
  refine (s206 (D := wt D x5.toNatClampNeg) s6 (hw.wt _) (Or.inl ⟨rfl, q5.1.symm, q5.2.2⟩) (k6.1.wt _)).mono fun v9 M8 k8 s8 => ?_
  have k8b := keepF M6 M8 k6 k8.2.2
  refine ⟨fun c => fun M11 s11 e11 => ?_, fun c => ?_⟩
  · have n1 : ¬ rch D x5.toNatClampNeg := rch_no (hnn _ _ _ _ k8 c)
    have k11 := keep M8 M11 _ k8b e11
    refine (s206 (D := wt D 10000) s11 (hw.wt _) (Or.inl ⟨rfl, rfl, by show 10000 ≤ 10000; omega⟩) (k11.1.wt _)).mono fun v14 M13 k13 s13 => ?_
    have k13b := keepF M11 M13 k11 k13.2.2
    refine ⟨fun c2 => fun M16 s16 e16 => ?_, fun c2 => ?_⟩
    · have n2 : ¬ rch D 10000 := rch_no (hnn _ _ _ _ k13 c2)
      have k16 := keep M13 M16 _ k13b e16
      refine (s206 (D := wt D 10001) s16 (hw.wt _) (Or.inr ⟨rfl, rfl⟩) (k16.1.wt _)).mono fun v19 M18 k18 s18 => ?_
      have k18b := keepF M16 M18 k16 k18.2.2
      refine fin 10001 M16 M18 v19 s18 (by unfold ft; rw [if_neg n1, if_neg n2]) (rch_long hw) k18 k18b ?_
      rw [k18.2.2.2.1 _ _ (by unfold pwg; omega), e16, iV_wI, if_pos ⟨rfl, rfl⟩]
      rfl
    · have y2 : rch D 10000 := hyy _ _ _ _ k13 c2
      refine fin 10000 M11 M13 v14 s13 (by unfold ft; rw [if_neg n1, if_pos y2]) y2 k13 k13b ?_
      rw [k13.2.2.2.1 _ _ (by unfold pwg; omega), e11, iV_wI, if_pos ⟨rfl, rfl⟩]
      rfl
  · have y1 : rch D x5.toNatClampNeg := hyy _ _ _ _ k8 c
    refine fin x5.toNatClampNeg M6 M8 v9 s8 (by unfold ft; rw [if_pos y1]) y1 k8 k8b ?_
    rw [k8.2.2.2.1 _ _ (by unfold pwg; omega), e6, iV_wI, if_pos ⟨rfl, rfl⟩]
    exact q5.1.symm
theorem s198_1 {A : sm_M} {x1 x2 x3 x5 : Int32} {hy : Nat} {K : Int32 → sm_M → Prop} (hP : wP pb ps pn pw) (hF : wF w kf jf) (h1 : ¬ pn = 0) (h6 : un (uk (hyB T pb pn hy) pb pn) pn ≤ 600) (q1 : Int32.ofNat x1.toNatClampNeg = x1 ∧ 1000 ≤ x1.toNatClampNeg ∧ x1.toNatClampNeg ≤ 1000000) (q2 : Int32.ofNat x2.toNatClampNeg = x2 ∧ x2.toNatClampNeg ≤ 500000) (q3 : Int32.ofNat x3.toNatClampNeg = x3 ∧ x3.toNatClampNeg ≤ 3) (q5 : Int32.ofNat x5.toNatClampNeg = x5 ∧ 1 ≤ x5.toNatClampNeg ∧ x5.toNatClampNeg ≤ 10000) (hk : ∀ v M2, SH M2 → K198 A (d2 (d0 T pb ps pn w kf jf hy x1.toNatClampNeg x2.toNatClampNeg x3.toNatClampNeg) x5.toNatClampNeg) v M2 → K v M2) : ∀ (d i : Nat), pn - i = d → i ≤ pn → ∀ M, SH M → mP M pb ps pn pw → mH M (hyB T pb pn hy) pn → mF M w kf jf → zM M → iV M 116 0 = 0 → iV M 116 59 = 1 → iV M 116 60 = x1 → iV M 116 61 = x2 → iV M 116 62 = x3 → (∀ j, j < i → iV M 149 j = Int32.ofNat (pb j)) → Fr p198 A M → sm_w 198 (140, [some (.ref 116), none, none, none, none, some (.int (x5)), some (.int (Int32.ofNat i))], []) M (rI K) := by
  have hn := hP.1
  intro d
  induction d with
  | zero =>
    intro i hd hi M hS hmP hH hmF hz h0 h59 h60 h61 h62 hT hA
    have e : i = pn := by omega
    subst e
    refine g198_1 hS ?_
    rw [hmP.1]
    refine ⟨fun _ => fun M1 s1 e1 => ?_, fun c => absurd ((o_le (by omega) (by omega)).mpr (Nat.le_refl _)) c⟩
    have i1 : ∀ a k, ¬ (a = 116 ∧ k = 69) → iV M1 a k = iV M a k := fun a k z => by rw [e1, iV_wI, if_neg z]
    have j1 : ∀ a k, jV M1 a k = jV M a k := fun a k => by rw [e1, jV_wI]
    have P1 : mP M1 pb ps i pw := ⟨by rw [i1 _ _ (by omega)]; exact hmP.1, by rw [i1 _ _ (by omega)]; exact hmP.2.1, fun j hj => by rw [i1 _ _ (by omega), i1 _ _ (by omega)]; exact hmP.2.2 j hj⟩
    have z1 : zM M1 := by unfold zM; rw [j1, j1, j1, j1]; exact hz
    refine (s205 s1 hP hF h6 P1 (fun p hp => by rw [i1 _ _ (by omega)]; exact hH p hp) (hmF.eq (i1 _ _ (by omega)) (i1 _ _ (by omega)) fun a k z => i1 _ _ (by omega)) z1).mono fun M3 k3 s3 => ?_
    obtain ⟨k31, k32, f3⟩ := k3
    have i3 : ∀ k, ¬ (k = 63 ∨ k = 67 ∨ k = 69) → iV M3 116 k = iV M 116 k := fun k z => by rw [f3.2.1 _ _ (by unfold pmk; omega), i1 _ _ (by omega)]
    have A3 : Fr p198 A M3 := (show Fr p198 A M1 by rw [e1]; exact hA.wI (Or.inl ⟨rfl, by omega⟩)).tr (f3.mono fun a k z => by unfold pmk at z; unfold p198; omega)
    have W := d0_w (T := T) (hy := hy) (wi := x1.toNatClampNeg) (ind := x2.toNatClampNeg) (al := x3.toNatClampNeg) hP hF h1 h6 ⟨q1.2.1, q1.2.2, q2.2, q3.2⟩
    have K3 : mK M3 (d0 T pb ps i w kf jf hy x1.toNatClampNeg x2.toNatClampNeg x3.toNatClampNeg) := by
      obtain ⟨a1, a2, a3⟩ := k31
      refine ⟨a1, a2, a3, ?_, ?_, ?_⟩
      · rw [i3 _ (by omega), h60]; exact q1.1.symm
      · rw [i3 _ (by omega), h61]; exact q2.1.symm
      · rw [i3 _ (by omega), h62]; exact q3.1.symm
    have z := s198_2 (A := A) s3 W.1 q5 K3 k32 (fun j hj => by rw [f3.2.1 _ _ (by unfold pmk; omega), i1 _ _ (by omega)]; exact hT j hj) (by rw [i3 _ (by omega)]; exact h0) (by rw [i3 _ (by omega)]; exact h59) (fun h e => d2_w (T := T) hP hF h1 h6 ⟨q1.2.1, q1.2.2, q2.2, q3.2⟩ q5.2.2 e) A3
    intro M6 s6 e6
    refine (z M6 s6 e6).mono fun v9 M8 k8 s8 => ?_
    refine ⟨fun c M11 s11 e11 => ((k8 s8).1 c M11 s11 e11).mono fun v14 M13 k13 s13 => ⟨fun c2 M16 s16 e16 => ((k13 s13).1 c2 M16 s16 e16).mono fun v19 M18 k18 s18 => (k18 s18).mono fun M21 k21 s21 => hk _ _ s21 (k21 s21), fun c2 => ((k13 s13).2 c2).mono fun M24 k24 s24 => hk _ _ s24 (k24 s24)⟩, fun c => ((k8 s8).2 c).mono fun M27 k27 s27 => hk _ _ s27 (k27 s27)⟩
  | succ d ih =>
    intro i hd hi M hS hmP hH hmF hz h0 h59 h60 h61 h62 hT hA
    refine g198_1 hS ?_
    rw [hmP.1, o_cl (n := i) (by omega), (hmP.2.2 i (by omega)).1, o_s]
    refine ⟨fun c => absurd ((o_le (by omega) (by omega)).mp c) (by omega), fun _ => ⟨(o_in (by omega)).mpr (by omega), fun M2 s2 e2 => ?_⟩⟩
    have i2 : ∀ a k, ¬ a = 149 → iV M2 a k = iV M a k := fun a k z => by rw [e2, iV_wI, if_neg (fun y => z y.1)]
    have j2 : ∀ a k, jV M2 a k = jV M a k := fun a k => by rw [e2, jV_wI]
    refine ih (i + 1) (by omega) (by omega) M2 s2 ⟨by rw [i2 _ _ (by omega)]; exact hmP.1, by rw [i2 _ _ (by omega)]; exact hmP.2.1, fun j hj => by rw [i2 _ _ (by omega), i2 _ _ (by omega)]; exact hmP.2.2 j hj⟩ (fun p hp => by rw [i2 _ _ (by omega)]; exact hH p hp) (hmF.eq (i2 _ _ (by omega)) (i2 _ _ (by omega)) fun a k z => i2 _ _ (by omega)) (by unfold zM; rw [j2, j2, j2, j2]; exact hz) (by rw [i2 _ _ (by omega)]; exact h0) (by rw [i2 _ _ (by omega)]; exact h59) (by rw [i2 _ _ (by omega)]; exact h60) (by rw [i2 _ _ (by omega)]; exact h61) (by rw [i2 _ _ (by omega)]; exact h62) (fun j hj => ?_) (by rw [e2]; exact hA.wI (Or.inr (Or.inr ⟨by omega, by omega⟩)))
    rw [e2, iV_wI]
    by_cases ej : j = i
    · rw [if_pos ⟨rfl, ej⟩, ej]
    · rw [if_neg (fun z => ej z.2)]; exact hT j (by omega)
def E198 (A : sm_M) (T : Nat → Nat → Nat → Nat) (pb ps : Nat → Nat) (pn : Nat) (w : Nat → Nat) (kf jf : Nat → Nat → Int32) (x1 x2 x3 x4 x5 : Int32) (v : Int32) (M2 : sm_M) : Prop := (¬ okS x1 x2 x3 x4 x5 ∧ iV M2 116 0 = 1 ∧ zM M2 ∧ Fr (fun a k => a = 116 ∧ k = 0) A M2) ∨ (okS x1 x2 x3 x4 x5 ∧ pn = 0 ∧ iV M2 116 0 = 2 ∧ zM M2 ∧ Fr (fun a k => a = 116 ∧ k = 0) A M2) ∨ (okS x1 x2 x3 x4 x5 ∧ ¬ pn = 0 ∧ 600 < un (uk (hyB T pb pn x4.toNatClampNeg) pb pn) pn ∧ iV M2 116 0 = 3 ∧ zM M2 ∧ Fr (fun a k => a = 116 ∧ k = 0 ∨ p199 a k) A M2) ∨ (okS x1 x2 x3 x4 x5 ∧ ¬ pn = 0 ∧ un (uk (hyB T pb pn x4.toNatClampNeg) pb pn) pn ≤ 600 ∧ K198 A (d2 (d0 T pb ps pn w kf jf x4.toNatClampNeg x1.toNatClampNeg x2.toNatClampNeg x3.toNatClampNeg) x5.toNatClampNeg) v M2)
theorem s198_p {M : sm_M} {x1 x2 x3 x4 x5 y4 : Int32} (hS : SH M) (hP : wP pb ps pn pw) (hF : wF w kf jf) (hw : wT T) (h1 : ¬ pn = 0) (hmP : mP M pb ps pn pw) (hmF : mF M w kf jf) (hT : mTb M T) (hz : zM M) (ok : okS x1 x2 x3 x4 x5) (hx : y4 = 0 ∧ ¬ x4.toNatClampNeg = 1 ∨ y4 = 1 ∧ x4.toNatClampNeg = 1) : sm_cV 199 [.ref 116, .int (y4)] M (fun M31 => SH M31 → sm_cI 203 [.ref 116] M31 (fun v35 M34 => SH M34 → ((v35 ≤ (600 : Int32) → ∀ M37, SH M37 → M37 = sm_wI M34 116 0 (0 : Int32) → ∀ M39, SH M39 → M39 = sm_wI M37 116 59 (1 : Int32) → ∀ M41, SH M41 → M41 = sm_wI M39 116 60 x1 → ∀ M43, SH M43 → M43 = sm_wI M41 116 61 x2 → ∀ M45, SH M45 → M45 = sm_wI M43 116 62 x3 → sm_w 198 (140, [some (.ref 116), none, none, none, none, some (.int (x5)), some (.int ((0 : Int32)))], []) M45 (rI (E198 M T pb ps pn w kf jf x1 x2 x3 x4 x5))) ∧ (¬ v35 ≤ (600 : Int32) → ∀ M50, SH M50 → M50 = sm_wI M34 116 0 (3 : Int32) → E198 M T pb ps pn w kf jf x1 x2 x3 x4 x5 (0 : Int32) M50)))) := by
  have hn := hP.1
  obtain ⟨q1, q2, q3, q4, q5⟩ := okS_n ok
  have hun := un_le (uk (hyB T pb pn x4.toNatClampNeg) pb pn) pn
  refine (s199 hS hw hP hmP hT hx).mono fun M31 k31 s31 => ?_
  obtain ⟨hH, f31⟩ := k31
  refine (s203 s31 hP (hmP.fr9 f31) hH).mono fun v35 M34 k34 s34 => ?_
  obtain ⟨e35, e34⟩ := k34
  subst e34
  rw [e35]
  refine ⟨fun c M37 s37 e37 M39 s39 e39 M41 s41 e41 M43 s43 e43 M45 s45 e45 => ?_, fun c M50 s50 e50 => ?_⟩
  · have h6 : un (uk (hyB T pb pn x4.toNatClampNeg) pb pn) pn ≤ 600 := (o_le (m := 600) (by omega) (by omega)).mp c
    have f45 : Fr (fun a k => a = 116 ∧ (k = 0 ∨ 59 ≤ k ∧ k ≤ 62)) M34 M45 := by
      rw [e45, e43, e41, e39, e37]
      exact (((((Fr.rf _ _).wI ⟨rfl, by omega⟩).wI ⟨rfl, by omega⟩).wI ⟨rfl, by omega⟩).wI ⟨rfl, by omega⟩).wI ⟨rfl, by omega⟩
    have A45 : Fr p198 M M45 := (f31.mono fun a k z => by unfold p199 at z; unfold p198; omega).tr (f45.mono fun a k z => by unfold p198; omega)
    refine s198_1 (A := M) hP hF h1 h6 q1 q2 q3 q5 (fun v M2 s2 k2 => Or.inr (Or.inr (Or.inr ⟨ok, h1, h6, k2⟩))) _ 0 rfl (Nat.zero_le _) M45 s45 ((hmP.fr9 f31).fr f45 ⟨by omega, by omega, fun k => by omega, fun k => by omega⟩) (fun p hp => by rw [f45.2.1 _ _ (by omega)]; exact hH p hp) (hmF.eq (A45.2.1 _ _ (by unfold p198; omega)) (A45.2.1 _ _ (by unfold p198; omega)) fun a k z => A45.2.1 _ _ (by unfold p198; omega)) ((hz.fr f31 fun a a1 a2 => by unfold p199; omega).fr f45 fun a a1 a2 => by omega) ?_ ?_ ?_ ?_ ?_ (fun j hj => by omega) A45
    · rw [e45, iV_wI, if_neg (by omega), e43, iV_wI, if_neg (by omega), e41, iV_wI, if_neg (by omega), e39, iV_wI, if_neg (by omega), e37, iV_wI, if_pos ⟨rfl, rfl⟩]
    · rw [e45, iV_wI, if_neg (by omega), e43, iV_wI, if_neg (by omega), e41, iV_wI, if_neg (by omega), e39, iV_wI, if_pos ⟨rfl, rfl⟩]
    · rw [e45, iV_wI, if_neg (by omega), e43, iV_wI, if_neg (by omega), e41, iV_wI, if_pos ⟨rfl, rfl⟩]
    · rw [e45, iV_wI, if_neg (by omega), e43, iV_wI, if_pos ⟨rfl, rfl⟩]
    · rw [e45, iV_wI, if_pos ⟨rfl, rfl⟩]
  · have h6 : 600 < un (uk (hyB T pb pn x4.toNatClampNeg) pb pn) pn := by
      rcases Nat.lt_or_ge 600 (un (uk (hyB T pb pn x4.toNatClampNeg) pb pn) pn) with z | z
      · exact z
      · exact absurd ((o_le (m := 600) (by omega) (by omega)).mpr z) c
    refine Or.inr (Or.inr (Or.inl ⟨ok, h1, h6, by rw [e50, iV_wI, if_pos ⟨rfl, rfl⟩], ?_, ?_⟩))
    · have z : zM M34 := hz.fr f31 fun a a1 a2 => by unfold p199; omega
      rw [e50]
      exact z
    · rw [e50]
      exact (f31.mono fun a k z => Or.inr z).wI (Or.inl ⟨rfl, rfl⟩)
theorem s198 {M : sm_M} {x1 x2 x3 x4 x5 : Int32} (hS : SH M) (hP : wP pb ps pn pw) (hF : wF w kf jf) (hw : wT T) (hmP : mP M pb ps pn pw) (hmF : mF M w kf jf) (hT : mTb M T) (hz : zM M) : sm_cI 198 [.ref 116, .int (x1), .int (x2), .int (x3), .int (x4), .int (x5)] M (E198 M T pb ps pn w kf jf x1 x2 x3 x4 x5) := by
  have hn := hP.1
  have bad : ¬ okS x1 x2 x3 x4 x5 → ∀ M4, SH M4 → M4 = sm_wI M 116 0 (1 : Int32) → E198 M T pb ps pn w kf jf x1 x2 x3 x4 x5 0 M4 := fun z M4 s4 e4 => Or.inl ⟨z, by rw [e4, iV_wI, if_pos ⟨rfl, rfl⟩], by rw [e4]; exact hz, by rw [e4]; exact (Fr.rf _ _).wI ⟨rfl, rfl⟩⟩
  refine g198_0 hS ?_
  rw [show (1000 : Int64) = (1000 : Int32).toInt64 from rfl, show (1000000 : Int64) = (1000000 : Int32).toInt64 from rfl, show (0 : Int64) = (0 : Int32).toInt64 from rfl, show (500000 : Int64) = (500000 : Int32).toInt64 from rfl, show (3 : Int64) = (3 : Int32).toInt64 from rfl, show (1 : Int64) = (1 : Int32).toInt64 from rfl, show (10000 : Int64) = (10000 : Int32).toInt64 from rfl, p166_i, p166_i, p166_i, p166_i, p166_i, hmP.1]
  refine ⟨fun c => bad fun z => c z.1, fun a => ⟨fun c => bad fun z => c z.2.1, fun b => ⟨fun c => bad fun z => c z.2.2.1, fun cc => ⟨fun c => bad fun z => c z.2.2.2.1, fun e => ⟨fun c => bad fun z => c z.2.2.2.2, fun f => ?_⟩⟩⟩⟩⟩
  have ok : okS x1 x2 x3 x4 x5 := ⟨Classical.not_not.mp a, Classical.not_not.mp b, Classical.not_not.mp cc, Classical.not_not.mp e, Classical.not_not.mp f⟩
  obtain ⟨q1, q2, q3, q4, q5⟩ := okS_n ok
  refine ⟨fun c M29 s29 e29 => Or.inr (Or.inl ⟨ok, (o_eq (m := 0) (by omega) (by omega)).mp c, by rw [e29, iV_wI, if_pos ⟨rfl, rfl⟩], by rw [e29]; exact hz, by rw [e29]; exact (Fr.rf _ _).wI ⟨rfl, rfl⟩⟩), fun c => ?_⟩
  have hpn : ¬ pn = 0 := fun z => c (by rw [z]; rfl)
  exact ⟨fun c4 => s198_p hS hP hF hw hpn hmP hmF hT hz ok (Or.inr ⟨rfl, by rw [c4]; rfl⟩), fun c4 => s198_p hS hP hF hw hpn hmP hmF hT hz ok (Or.inl ⟨rfl, fun z => c4 (by rw [← q4.1, z]; rfl)⟩)⟩
end SETM
