/-! HYPHENS ARE READ: words and exceptions; the other side. -/
def b01 (n : Nat) : Int32 := if n = 1 then 1 else 0
theorem b01_a (n : Nat) : b01 n &&& 1 = b01 n ∧ (b01 n = 0 ↔ ¬ n = 1) := by
  unfold b01
  by_cases h : n = 1
  · rw [if_pos h]; exact ⟨by decide, fun z => absurd z (by decide), fun z => absurd h z⟩
  · rw [if_neg h]; exact ⟨by decide, fun _ => h, fun _ => rfl⟩
/-- the reference's table while it is read -/
def mTr (M : sm_M) (T : Tt) : Prop := (iV M 116 45 = Int32.ofNat (T 0 0 0) ∧ iV M 116 46 = Int32.ofNat (T 0 0 1) ∧ iV M 116 35 = Int32.ofNat (T 0 0 2) ∧ iV M 116 36 = Int32.ofNat (T 0 0 3)) ∧ (∀ p, p < T 0 0 0 → iV M 136 (300 + p) = Int32.ofNat (T 3 p 0) ∧ (∀ i, i < T 3 p 0 → iV M 135 (16 * (300 + p) + i) = Int32.ofNat (T 1 p i)) ∧ ∀ i, i ≤ T 3 p 0 → iV M 137 (17 * (300 + p) + i) = Int32.ofNat (T 2 p i)) ∧ ∀ e, e < T 0 0 1 → iV M 139 (60 + e) = Int32.ofNat (T 6 e 0) ∧ ∀ i, i < T 6 e 0 → iV M 138 (32 * (60 + e) + i) = Int32.ofNat (T 4 e i) ∧ iV M 140 (32 * (60 + e) + i) = b01 (T 5 e i)
theorem mTr.eq {M M2 : sm_M} {T : Tt} (h : mTr M T) (e1 : ∀ k, (k = 35 ∨ k = 36 ∨ k = 45 ∨ k = 46) → iV M2 116 k = iV M 116 k) (e : ∀ a k, 135 ≤ a → a ≤ 140 → iV M2 a k = iV M a k) : mTr M2 T := by
  obtain ⟨⟨h1, h2, h3, h4⟩, h5, h6⟩ := h
  refine ⟨⟨by rw [e1 _ (by omega)]; exact h1, by rw [e1 _ (by omega)]; exact h2, by rw [e1 _ (by omega)]; exact h3, by rw [e1 _ (by omega)]; exact h4⟩, fun p hp => ?_, fun x hx => ?_⟩
  · obtain ⟨b1, b2, b3⟩ := h5 p hp
    exact ⟨by rw [e _ _ (by omega) (by omega)]; exact b1, fun i hi => by rw [e _ _ (by omega) (by omega)]; exact b2 i hi, fun i hi => by rw [e _ _ (by omega) (by omega)]; exact b3 i hi⟩
  · obtain ⟨b1, b2⟩ := h6 x hx
    exact ⟨by rw [e _ _ (by omega) (by omega)]; exact b1, fun i hi => by rw [e _ _ (by omega) (by omega), e _ _ (by omega) (by omega)]; exact b2 i hi⟩
/-- what is written while hyphens are read -/
def pmh : Nat → Nat → Prop := fun a k => a = 116 ∧ (k = 8 ∨ k = 35 ∨ k = 36 ∨ k = 45 ∨ k = 46 ∨ k = 49 ∨ k = 50) ∨ a = 141 ∨ a = 142 ∨ a = 136 ∧ 300 ≤ k ∨ a = 135 ∧ 4800 ≤ k ∨ a = 137 ∧ 5100 ≤ k ∨ a = 139 ∧ 60 ≤ k ∨ (a = 138 ∨ a = 140) ∧ 1920 ≤ k
section HRM
variable {tb : Nat → Nat} {tn : Nat} {A : sm_M}
theorem s177f {M : sm_M} {x : Int32} {e : Nat} (hS : SH M) (he : e < 2147483648) (h8 : iV M 116 8 = Int32.ofNat e) : sm_cV 177 [.ref 116, .int (x)] M (fun M2 => M2 = M) := by
  refine g177_0 hS ?_
  rw [h8]
  exact ⟨fun _ => rfl, fun c => absurd (Int32.not_lt.mp (o_nn he)) c⟩
/-- signs of a word -/
def gw (tb : Nat → Nat) (wf wt : Nat) : Prop := ∀ k, wf ≤ k → k < wt → 33 ≤ tb k ∧ tb k ≤ 126
def flt (M : sm_M) (ok : Prop) (e : Nat) : Prop := (ok → iV M 116 8 = -1) ∧ (¬ ok → iV M 116 8 = Int32.ofNat e)
def p183 : Nat → Nat → Prop := fun a k => a = 116 ∧ (k = 8 ∨ k = 49 ∨ k = 50)
def mWd (M : sm_M) (wf wt : Nat) : Prop := iV M 116 49 = Int32.ofNat wf ∧ iV M 116 50 = Int32.ofNat wt
def Q183 (A : sm_M) (tb : Nat → Nat) (tn i : Nat) (M2 : sm_M) : Prop := mWd M2 (nt tb tn i) (we tb tn (nt tb tn i)) ∧ flt M2 (gw tb (nt tb tn i) (we tb tn (nt tb tn i))) (nt tb tn i) ∧ Fr p183 A M2
theorem s183_3 {i wf wt : Nat} (hR : mR A tb tn) (hn : tn ≤ 8192) (hB : ∀ i, i < tn → tb i < 256) (ef : nt tb tn i = wf) (et : we tb tn wf = wt) (h1 : wf ≤ wt) (h2 : wt ≤ tn) : ∀ (d k : Nat), wt - k = d → wf ≤ k → k ≤ wt → ∀ M, SH M → mWd M wf wt → flt M (gw tb wf k) wf → Fr p183 A M → sm_w 183 (87, [some (.ref 116), some (.int (Int32.ofNat k))], []) M (rV (Q183 A tb tn i)) := by
  intro d
  induction d with
  | zero =>
    intro k hd hk1 hk M hS hW h8 hA
    have e : k = wt := by omega
    subst e
    refine g183_3 hS ?_
    rw [hW.2]
    refine ⟨fun _ => ?_, fun c => absurd ((o_le (by omega) (by omega)).mpr (Nat.le_refl _)) c⟩
    unfold Q183
    rw [ef, et]
    exact ⟨hW, h8, hA⟩
  | succ d ih =>
    intro k hd hk1 hk M hS hW h8 hA
    have R := hR.fr hA ⟨by unfold p183; omega, fun k => by unfold p183; omega⟩
    have hb := hB k (by omega)
    have gws : gw tb wf (k + 1) ↔ gw tb wf k ∧ 33 ≤ tb k ∧ tb k ≤ 126 := by
      constructor
      · intro z
        exact ⟨fun j j1 j2 => z j j1 (by omega), z k hk1 (by omega)⟩
      · rintro ⟨z1, z2⟩ j j1 j2
        by_cases ej : j = k
        · rw [ej]; exact z2
        · exact z1 j j1 (by omega)
    have bad : ¬ (33 ≤ tb k ∧ tb k ≤ 126) → sm_cV 177 [.ref 116, .int (Int32.ofNat wf)] M (fun M2 => SH M2 → sm_w 183 (87, [some (.ref 116), some (.int (Int32.ofNat (k + 1)))], []) M2 (rV (Q183 A tb tn i))) := fun hno => by
      have hno2 : ¬ gw tb wf (k + 1) := fun z => hno (gws.mp z).2
      by_cases g : gw tb wf k
      · refine (s177 hS (h8.1 g)).mono fun M2 e2 s2 => ?_
        exact ih (k + 1) (by omega) (by omega) (by omega) M2 s2 ⟨by rw [e2, iV_wI, if_neg (by omega)]; exact hW.1, by rw [e2, iV_wI, if_neg (by omega)]; exact hW.2⟩ ⟨fun z => absurd z hno2, fun _ => by rw [e2, iV_wI, if_pos ⟨rfl, rfl⟩]⟩ (by rw [e2]; exact hA.wI ⟨rfl, by omega⟩)
      · refine (s177f hS (by omega) (h8.2 g)).mono fun M2 e2 s2 => ?_
        subst e2
        exact ih (k + 1) (by omega) (by omega) (by omega) M2 s2 hW ⟨fun z => absurd z hno2, fun _ => h8.2 g⟩ hA
    refine g183_3 hS ?_
    rw [hW.1, hW.2, o_cl (n := k) (by omega), R.2 k (by omega), o_s]
    refine ⟨fun c => absurd ((o_le (by omega) (by omega)).mp c) (by omega), fun _ => ⟨(o_in (by omega)).mpr (by omega), fun c => bad fun z => absurd ((o_lt (m := 33) (by omega) (by omega)).mp c) (by omega), fun c => ⟨(o_in (by omega)).mpr (by omega), fun c2 => ?_, fun c2 => bad fun z => c2 ((o_le (m := 126) (by omega) (by omega)).mpr z.2)⟩⟩⟩
    have y : 33 ≤ tb k ∧ tb k ≤ 126 := by
      refine ⟨?_, (o_le (m := 126) (by omega) (by omega)).mp c2⟩
      rcases Nat.lt_or_ge (tb k) 33 with z | z
      · exact absurd ((o_lt (m := 33) (by omega) (by omega)).mpr z) c
      · exact z
    exact ih (k + 1) (by omega) (by omega) (by omega) M hS hW ⟨fun z => h8.1 (gws.mp z).1, fun z => h8.2 fun w => z (gws.mpr ⟨w, y⟩)⟩ hA
theorem s183_2 {i wf : Nat} (hR : mR A tb tn) (hn : tn ≤ 8192) (hB : ∀ i, i < tn → tb i < 256) (ef : nt tb tn i = wf) (hwf : wf ≤ tn) : ∀ (d k : Nat), tn - k = d → wf ≤ k → k ≤ tn → we tb tn k = we tb tn wf → ∀ M, SH M → mWd M wf k → iV M 116 8 = -1 → Fr p183 A M → sm_w 183 (43, [some (.ref 116), none], []) M (rV (Q183 A tb tn i)) := by
  obtain ⟨w1, w2⟩ := we_b (tb := tb) hwf
  intro d
  have fin : ∀ k M, SH M → we tb tn wf = k → mWd M wf k → iV M 116 8 = -1 → Fr p183 A M → sm_w 183 (87, [some (.ref 116), some (.int (Int32.ofNat wf))], []) M (rV (Q183 A tb tn i)) := fun k M hS ek hW h8 hA => by
    subst ek
    exact s183_3 hR hn hB ef rfl w1 w2 _ wf rfl (Nat.le_refl _) w1 M hS hW ⟨fun _ => h8, fun z => absurd (fun k k1 k2 => by omega) z⟩ hA
  induction d with
  | zero =>
    intro k hd hk1 hk hwe M hS hW h8 hA
    have R := hR.fr hA ⟨by unfold p183; omega, fun k => by unfold p183; omega⟩
    have e : k = tn := by omega
    subst e
    refine g183_2 hS ?_
    rw [R.1, hW.2, hW.1]
    refine ⟨fun _ => fin k M hS ?_ hW h8 hA, fun c => absurd ((o_le (by omega) (by omega)).mpr (Nat.le_refl _)) c⟩
    rw [← hwe]
    unfold we
    exact fs_e (Nat.le_refl _)
  | succ d ih =>
    intro k hd hk1 hk hwe M hS hW h8 hA
    have R := hR.fr hA ⟨by unfold p183; omega, fun k => by unfold p183; omega⟩
    refine g183_2 hS ?_
    rw [R.1, hW.2, hW.1, o_cl (n := k) (by omega), R.2 k (by omega), p172_of M (hB k (by omega)), o_s]
    refine ⟨fun c => absurd ((o_le (by omega) (by omega)).mp c) (by omega), fun _ => ⟨(o_in (by omega)).mpr (by omega), ?_⟩⟩
    by_cases hk3 : bk (tb k) = true
    · rw [if_pos hk3]
      refine ⟨fun c => absurd c (by decide), fun _ => fin k M hS ?_ hW h8 hA⟩
      rw [← hwe]
      unfold we
      exact fs_t (p := fun j => bk (tb j)) (by omega) hk3
    · rw [if_neg hk3]
      refine ⟨fun _ M2 s2 e2 => ?_, fun c => absurd rfl c⟩
      refine ih (k + 1) (by omega) (by omega) (by omega) ?_ M2 s2 ⟨by rw [e2, iV_wI, if_neg (by omega)]; exact hW.1, by rw [e2, iV_wI, if_pos ⟨rfl, rfl⟩]⟩ (by rw [e2, iV_wI, if_neg (by omega)]; exact h8) (by rw [e2]; exact hA.wI ⟨rfl, by omega⟩)
      rw [← hwe]
      unfold we
      exact (fs_f (p := fun j => bk (tb j)) (by omega) hk3).symm
theorem s183_1 {i : Nat} (hR : mR A tb tn) (hn : tn ≤ 8192) (hB : ∀ i, i < tn → tb i < 256) : ∀ (d j : Nat), tn - j = d → j ≤ tn → nt tb tn j = nt tb tn i → ∀ M, SH M → iV M 116 49 = Int32.ofNat j → iV M 116 8 = -1 → Fr p183 A M → sm_w 183 (8, [some (.ref 116), none], []) M (rV (Q183 A tb tn i)) := by
  intro d
  have here : ∀ s M, SH M → s ≤ tn → ¬ (s < tn ∧ bk (tb s) = true) → nt tb tn s = nt tb tn i → iV M 116 49 = Int32.ofNat s → iV M 116 8 = -1 → Fr p183 A M → sm_w 183 (8, [some (.ref 116), none], []) M (rV (Q183 A tb tn i)) := fun s M hS hs hnb hnt h10 h8 hA => by
    have es : nt tb tn i = s := by
      rw [← hnt]
      unfold nt
      refine fs_u (Nat.le_refl _) hs (fun k k1 k2 => by omega) ?_
      rcases Nat.lt_or_ge s tn with z | z
      · right
        have : ¬ bk (tb s) = true := fun y => hnb ⟨z, y⟩
        simpa using this
      · left; omega
    obtain ⟨a1, a2⟩ := P171 (k := s) (hR.fr hA ⟨by unfold p183; omega, fun k => by unfold p183; omega⟩) hn (by omega)
    refine g183_1 hS ?_
    rw [h10, a1, P172e M hB]
    refine ⟨a2, fun _ M2 s2 e2 => ?_, fun c => absurd hnb c⟩
    exact s183_2 hR hn hB es hs _ s rfl (Nat.le_refl _) hs rfl M2 s2 ⟨by rw [e2, iV_wI, if_neg (by omega)]; exact h10, by rw [e2, iV_wI, if_pos ⟨rfl, rfl⟩]⟩ (by rw [e2, iV_wI, if_neg (by omega)]; exact h8) (by rw [e2]; exact hA.wI ⟨rfl, by omega⟩)
  induction d with
  | zero =>
    intro j hd hj hnt M hS h10 h8 hA
    exact here j M hS hj (fun z => by omega) hnt h10 h8 hA
  | succ d ih =>
    intro j hd hj hnt M hS h10 h8 hA
    by_cases y : bk (tb j) = true
    · obtain ⟨a1, a2⟩ := P171 (k := j) (hR.fr hA ⟨by unfold p183; omega, fun k => by unfold p183; omega⟩) hn (by omega)
      refine g183_1 hS ?_
      rw [h10, a1, P172e M hB]
      refine ⟨a2, fun c => absurd ⟨by omega, y⟩ c, fun _ M4 s4 e4 => ?_⟩
      rw [o_s] at e4
      refine ih (j + 1) (by omega) (by omega) ?_ M4 s4 (by rw [e4, iV_wI, if_pos ⟨rfl, rfl⟩]) (by rw [e4, iV_wI, if_neg (by omega)]; exact h8) (by rw [e4]; exact hA.wI ⟨rfl, by omega⟩)
      rw [← hnt]
      unfold nt
      exact (fs_f (p := fun j => !(bk (tb j))) (by omega) (by simp [y])).symm
    · exact here j M hS hj (fun z => y z.2) hnt h10 h8 hA
theorem s183 {M : sm_M} {i : Nat} (hS : SH M) (hR : mR M tb tn) (hn : tn ≤ 8192) (hB : ∀ i, i < tn → tb i < 256) (hi : i ≤ tn) (h50 : iV M 116 50 = Int32.ofNat i) (h8 : iV M 116 8 = -1) : sm_cV 183 [.ref 116] M (Q183 M tb tn i) := by
  refine g183_0 hS fun M1 s1 e1 => ?_
  rw [h50] at e1
  exact s183_1 (A := M) hR hn hB _ i rfl hi rfl M1 s1 (by rw [e1, iV_wI, if_pos ⟨rfl, rfl⟩]) (by rw [e1, iV_wI, if_neg (by omega)]; exact h8) (by rw [e1]; exact (Fr.rf _ _).wI ⟨rfl, by omega⟩)
/-- behind the letters no place is told -/
theorem xP_z {b0 : Nat} : ∀ j k, xl tb b0 j < k → xP tb b0 j k = 0
  | 0, k, _ => rfl
  | j + 1, k, h => by
    by_cases y : sl (tb (b0 + j)) = true
    · have eP : xP tb b0 (j + 1) = xP tb b0 j := if_pos y
      rw [xl_y y] at h
      rw [eP]; exact xP_z j k (by omega)
    · have eP : xP tb b0 (j + 1) = tp (xP tb b0 j) (xl tb b0 j) 1 := if_neg y
      rw [xl_n y] at h
      rw [eP, tp_o _ _ _ (by omega)]; exact xP_z j k h
theorem xP_l {b0 : Nat} : ∀ j, xg tb b0 j → (lsl tb b0 j ↔ 0 < xl tb b0 j ∧ ¬ xP tb b0 j (xl tb b0 j) = 1)
  | 0, _ => ⟨fun z => by have := z.1; omega, fun z => absurd z.1 (by show ¬ 0 < 0; omega)⟩
  | j + 1, h => by
    rw [lsl_s]
    by_cases y : sl (tb (b0 + j)) = true
    · have eP : xP tb b0 (j + 1) = xP tb b0 j := if_pos y
      rw [eP, xl_y y, xP_z j _ (by omega)]
      exact ⟨fun _ => ⟨by omega, by omega⟩, fun _ => y⟩
    · have eP : xP tb b0 (j + 1) = tp (xP tb b0 j) (xl tb b0 j) 1 := if_neg y
      rw [eP, xl_n y, tp_e]
      exact ⟨fun z => absurd z y, fun z => absurd rfl z.2⟩
def Q185 (A : sm_M) (T : Tt) (tb : Nat → Nat) (wf wt : Nat) (M2 : sm_M) : Prop := ((okX tb wf wt ∧ rmE T (xL tb (wf + 1) (wt - (wf + 1))) (xl tb (wf + 1) (wt - (wf + 1)))) ∧ iV M2 116 8 = -1 ∧ mTr M2 (tEx T (xL tb (wf + 1) (wt - (wf + 1))) (xl tb (wf + 1) (wt - (wf + 1))) (xP tb (wf + 1) (wt - (wf + 1)))) ∨ ¬ (okX tb wf wt ∧ rmE T (xL tb (wf + 1) (wt - (wf + 1))) (xl tb (wf + 1) (wt - (wf + 1)))) ∧ iV M2 116 8 = Int32.ofNat wf) ∧ Fr (fun a k => a = 116 ∧ (k = 8 ∨ k = 46) ∨ a = 141 ∨ a = 142 ∨ a = 139 ∧ 60 ≤ k ∨ (a = 138 ∨ a = 140) ∧ 1920 ≤ k) A M2
def pex : Nat → Nat → Prop := fun a k => a = 116 ∧ (k = 8 ∨ k = 46) ∨ a = 141 ∨ a = 142 ∨ a = 139 ∧ 60 ≤ k ∨ (a = 138 ∨ a = 140) ∧ 1920 ≤ k
theorem s186_1 {M : sm_M} {L : Nat → Nat} {n e : Nat} {T : Tt} (hS : SH M) (hT : wT T) (hM : mTr M T) (he : e < T 0 0 1) (hn : T 6 e 0 = n) (hl : ∀ i, i < n → sl (L i) = true) (hL : ∀ i, i < n → iV M 141 i = Int32.ofNat (L i)) : ∀ (d i : Nat), n - i = d → i ≤ n → (∀ j, j < i → T 4 e j = sml (L j)) → sm_w 186 (14, [some (.ref 116), some (.int (Int32.ofNat (60 + e))), some (.int (Int32.ofNat n)), some (.int (Int32.ofNat i))], []) M (rI (fun v M2 => (v = 1 ∧ exm T n L e ∨ v = 0 ∧ ¬ exm T n L e) ∧ M2 = M)) := by
  obtain ⟨w1, w2, w3⟩ := hT.2.2 e he
  have hE := hT.1
  obtain ⟨u1, u2⟩ := hM.2.2 e he
  intro d
  induction d with
  | zero =>
    intro i hd hi hj
    have ei : i = n := by omega
    subst ei
    exact g186_1 hS ⟨fun _ => ⟨Or.inl ⟨rfl, hn, hj⟩, rfl⟩, fun c => absurd ((o_le (by omega) (by omega)).mpr (Nat.le_refl _)) c⟩
  | succ d ih =>
    intro i hd hi hj
    obtain ⟨s1, s2⟩ := sml_sl (hl i (by omega))
    have w4 := w2 i (by omega)
    refine g186_1 hS ?_
    rw [show (32 : Int32) * Int32.ofNat (60 + e) + Int32.ofNat i = Int32.ofNat (32 * (60 + e) + i) from by rw [show (32 : Int32) = Int32.ofNat 32 from rfl, ← Int32.ofNat_mul, ← Int32.ofNat_add], o_cl (n := 32 * (60 + e) + i) (by omega), o_cl (n := i) (by omega), (u2 i (by omega)).1, hL i (by omega), o_eq (by omega) (by omega), o_s]
    refine ⟨fun c => absurd ((o_le (by omega) (by omega)).mp c) (by omega), fun _ => ⟨(o_in (by omega)).mpr (by omega), (o_in (by omega)).mpr (by omega), fun c => ih (i + 1) (by omega) (by omega) fun j hj2 => ?_, fun c => ⟨Or.inr ⟨rfl, fun z => c (by rw [z.2 i (by omega), s1])⟩, rfl⟩⟩⟩
    by_cases ej : j = i
    · rw [ej, s1]; exact c
    · exact hj j (by omega)
theorem s186 {M : sm_M} {L : Nat → Nat} {n e : Nat} {T : Tt} (hS : SH M) (hT : wT T) (hM : mTr M T) (he : e < T 0 0 1) (hn : n ≤ 30) (hl : ∀ i, i < n → sl (L i) = true) (hL : ∀ i, i < n → iV M 141 i = Int32.ofNat (L i)) : sm_cI 186 [.ref 116, .int (Int32.ofNat (60 + e)), .int (Int32.ofNat n)] M (fun v M2 => (v = 1 ∧ exm T n L e ∨ v = 0 ∧ ¬ exm T n L e) ∧ M2 = M) := by
  obtain ⟨w1, w2, w3⟩ := hT.2.2 e he
  have hE := hT.1
  obtain ⟨u1, u2⟩ := hM.2.2 e he
  refine g186_0 hS ?_
  rw [o_cl (n := 60 + e) (by omega), u1, o_eq (by omega) (by omega)]
  exact ⟨(o_in (by omega)).mpr (by omega), fun c => s186_1 hS hT hM he c hl hL _ 0 rfl (Nat.zero_le _) fun j hj => by omega, fun c => ⟨Or.inr ⟨rfl, fun z => c z.1⟩, rfl⟩⟩
/-- the letters are kept -/
theorem s185_7 {L g : Nat → Nat} {n : Nat} {T : Tt} {K : sm_M → Prop} (hT : wT T) (hn : n ≤ 30) (hr : exq T n L < 60) (hA0 : ∀ i, i < n → iV A 141 i = Int32.ofNat (L i)) (hA1 : ∀ i, i < n → (iV A 142 i = 1 ↔ g i = 1)) (hk : ∀ M2, SH M2 → (∀ i, i < n → iV M2 138 (32 * (60 + exq T n L) + i) = Int32.ofNat (L i) ∧ iV M2 140 (32 * (60 + exq T n L) + i) = b01 (g i)) → Fr (fun a k => (a = 138 ∨ a = 140) ∧ 32 * (60 + exq T n L) ≤ k ∧ k < 32 * (60 + exq T n L) + n) A M2 → K M2) : ∀ (d k : Nat), n - k = d → k ≤ n → ∀ M, SH M → (∀ i, i < k → iV M 138 (32 * (60 + exq T n L) + i) = Int32.ofNat (L i) ∧ iV M 140 (32 * (60 + exq T n L) + i) = b01 (g i)) → Fr (fun a k => (a = 138 ∨ a = 140) ∧ 32 * (60 + exq T n L) ≤ k ∧ k < 32 * (60 + exq T n L) + n) A M → sm_w 185 (246, [some (.ref 116), none, none, some (.int (Int32.ofNat n)), none, some (.int (Int32.ofNat (exq T n L + 60))), some (.int (Int32.ofNat k))], []) M (rV K) := by
  intro d
  induction d with
  | zero =>
    intro k hd hk2 M hS hD hA
    have e : k = n := by omega
    subst e
    exact g185_7 hS ⟨fun _ => hk M hS hD hA, fun c => absurd ((o_le (by omega) (by omega)).mpr (Nat.le_refl _)) c⟩
  | succ d ih =>
    intro k hd hk2 M hS hD hA
    refine g185_7 hS ?_
    rw [show (32 : Int32) * Int32.ofNat (exq T n L + 60) + Int32.ofNat k = Int32.ofNat (32 * (60 + exq T n L) + k) from by rw [show (32 : Int32) = Int32.ofNat 32 from rfl, ← Int32.ofNat_mul, ← Int32.ofNat_add, Nat.add_comm 60], o_cl (n := 32 * (60 + exq T n L) + k) (by omega), o_cl (n := k) (by omega), hA.2.1 141 k (by omega), hA0 k (by omega), o_s]
    have v40 : vp_in (Int32.ofNat k) 40 := (o_in (by omega)).mpr (by omega)
    have v38 : vp_in (Int32.ofNat (32 * (60 + exq T n L) + k)) 3840 := (o_in (by omega)).mpr (by omega)
    refine ⟨fun c => absurd ((o_le (by omega) (by omega)).mp c) (by omega), fun _ => ⟨v40, v38, fun M3 s3 e3 => ⟨v40, ?_⟩⟩⟩
    have h142 : iV M3 142 k = 1 ↔ g k = 1 := by rw [e3, iV_wI, if_neg (by omega), hA.2.1 142 k (by omega)]; exact hA1 k (by omega)
    rw [h142]
    have go : ∀ M7 x, SH M7 → M7 = sm_wI M3 140 (32 * (60 + exq T n L) + k) x → x = b01 (g k) → sm_w 185 (246, [some (.ref 116), none, none, some (.int (Int32.ofNat n)), none, some (.int (Int32.ofNat (exq T n L + 60))), some (.int (Int32.ofNat (k + 1)))], []) M7 (rV K) := fun M7 x s7 e7 hx => by
      refine ih (k + 1) (by omega) (by omega) M7 s7 (fun i hi => ?_) (by rw [e7, e3]; exact (hA.wI ⟨Or.inl rfl, by omega, by omega⟩).wI ⟨Or.inr rfl, by omega, by omega⟩)
      by_cases ei : i = k
      · rw [ei]
        refine ⟨by rw [e7, iV_wI, if_neg (by omega), e3, iV_wI, if_pos ⟨rfl, rfl⟩], ?_⟩
        rw [e7, iV_wI, if_pos ⟨rfl, rfl⟩]
        exact hx
      · rw [e7, iV_wI, if_neg (by omega), e3, iV_wI, if_neg (by omega), iV_wI, if_neg (by omega), iV_wI, if_neg (by omega)]
        exact hD i (by omega)
    exact ⟨fun c => ⟨v38, fun M7 s7 e7 => go M7 _ s7 e7 (by unfold b01; rw [if_pos c]; decide)⟩, fun c => ⟨v38, fun M10 s10 e10 => go M10 _ s10 e10 (by unfold b01; rw [if_neg c]; decide)⟩⟩
/-- the exception is sought, and told -/
theorem s185_6 {L g : Nat → Nat} {n wf : Nat} {T : Tt} {M : sm_M} {K : sm_M → Prop} (hS : SH M) (hT : wT T) (hwf : wf ≤ 8192) (hn : n ≤ 30) (hl : ∀ i, i < n → sl (L i) = true) (hg : ∀ i, n ≤ i → ¬ g i = 1) (h8 : iV M 116 8 = -1) (hM : mTr M T) (hL : ∀ i, i < n → iV M 141 i = Int32.ofNat (L i)) (hP : ∀ i, i < n → (iV M 142 i = 1 ↔ g i = 1)) (hkn : ¬ rmE T L n → ∀ M2, SH M2 → M2 = sm_wI M 116 8 (Int32.ofNat wf) → K M2) (hky : rmE T L n → ∀ M2, SH M2 → mTr M2 (tEx T L n g) → iV M2 116 8 = -1 → Fr pex M M2 → K M2) : ∀ (d k : Nat), T 0 0 1 - k = d → k ≤ T 0 0 1 → (∀ j, j < k → ¬ exm T n L j) → sm_w 185 (172, [some (.ref 116), some (.int (Int32.ofNat wf)), none, some (.int (Int32.ofNat n)), none, some (.int (Int32.ofNat k)), none], []) M (rV K) := by
  have hE := hT.1
  -- behind the search
  have tell : ∀ k, k ≤ T 0 0 1 → exq T n L = k → ((Int32.ofNat k = (60 : Int32) → sm_cV 177 [.ref 116, .int (Int32.ofNat wf)] M (fun M1 => SH M1 → K M1)) ∧ (¬ Int32.ofNat k = (60 : Int32) → ((Int32.ofNat k = (iV M 116 46) → ∀ M4, SH M4 → M4 = sm_wI M 116 46 ((iV M 116 46) + (1 : Int32)) → (vp_in (Int32.ofNat k + (60 : Int32)) 120) ∧ ∀ M7, SH M7 → M7 = sm_wI M4 139 (Int32.ofNat k + (60 : Int32)).toNatClampNeg (Int32.ofNat n) → sm_w 185 (246, [some (.ref 116), none, none, some (.int (Int32.ofNat n)), none, some (.int (Int32.ofNat k + (60 : Int32))), some (.int ((0 : Int32)))], []) M7 (rV K)) ∧ (¬ Int32.ofNat k = (iV M 116 46) → (vp_in (Int32.ofNat k + (60 : Int32)) 120) ∧ ∀ M10, SH M10 → M10 = sm_wI M 139 (Int32.ofNat k + (60 : Int32)).toNatClampNeg (Int32.ofNat n) → sm_w 185 (246, [some (.ref 116), none, none, some (.int (Int32.ofNat n)), none, some (.int (Int32.ofNat k + (60 : Int32))), some (.int ((0 : Int32)))], []) M10 (rV K))))) := fun k hk ek => by
    rw [hM.1.2.1, show Int32.ofNat k + (60 : Int32) = Int32.ofNat (k + 60) from (Int32.ofNat_add k 60).symm, o_s, o_eq (by omega) (by omega)]
    refine ⟨fun c => ?_, fun c => ?_⟩
    · have c60 := (o_eq (m := 60) (by omega) (by omega)).mp c
      exact (s177 hS h8).mono fun M1 e1 s1 => hkn (fun z => by rcases z with z | z <;> omega) M1 s1 e1
    · have c60 : ¬ k = 60 := fun z => c (by rw [z]; rfl)
      have hr : rmE T L n := by unfold rmE; omega
      have vi : vp_in (Int32.ofNat (k + 60)) 120 := (o_in (by omega)).mpr (by omega)
      rw [o_cl (n := k + 60) (by omega)]
      -- both ways end alike
      have fin : ∀ M7, SH M7 → Fr (fun a j => a = 116 ∧ j = 46 ∨ a = 139 ∧ j = 60 + k) M M7 → iV M7 116 46 = Int32.ofNat (tEx T L n g 0 0 1) → iV M7 139 (60 + k) = Int32.ofNat n → sm_w 185 (246, [some (.ref 116), none, none, some (.int (Int32.ofNat n)), none, some (.int (Int32.ofNat (k + 60))), some (.int ((0 : Int32)))], []) M7 (rV K) := fun M7 s7 f7 a46 a139 => by
        rw [← ek]
        refine s185_7 (A := M7) hT hn (by omega) (fun i hi => by rw [f7.2.1 _ _ (by omega)]; exact hL i hi) (fun i hi => by rw [f7.2.1 _ _ (by omega)]; exact hP i hi) (fun M2 s2 hD f2 => ?_) _ 0 rfl (Nat.zero_le _) M7 s7 (fun i hi => by omega) (Fr.rf _ _)
        have e0 : ∀ a b c, ¬ (a = 4 ∨ a = 5 ∨ a = 6) → ¬ (a = 0 ∧ b = 0 ∧ c = 1) → tEx T L n g a b c = T a b c := fun a b c z1 z2 => tEx_x (fun z => z1 z.1) z2
        have i2 : ∀ a j, ¬ ((a = 138 ∨ a = 140) ∧ 32 * (60 + exq T n L) ≤ j ∧ j < 32 * (60 + exq T n L) + n) → ¬ (a = 116 ∧ j = 46 ∨ a = 139 ∧ j = 60 + k) → iV M2 a j = iV M a j := fun a j z1 z2 => by rw [f2.2.1 _ _ z1, f7.2.1 _ _ z2]
        refine hky hr M2 s2 ⟨⟨?_, ?_, ?_, ?_⟩, fun p hp => ?_, fun e he => ?_⟩ (by rw [i2 _ _ (by omega) (by omega)]; exact h8) ((f7.mono (q := pex) fun a j z => by unfold pex; omega).tr (f2.mono fun a j z => by unfold pex; omega))
        · rw [e0 _ _ _ (by omega) (by omega), i2 _ _ (by omega) (by omega)]; exact hM.1.1
        · rw [f2.2.1 _ _ (by omega)]; exact a46
        · rw [e0 _ _ _ (by omega) (by omega), i2 _ _ (by omega) (by omega)]; exact hM.1.2.2.1
        · rw [e0 _ _ _ (by omega) (by omega), i2 _ _ (by omega) (by omega)]; exact hM.1.2.2.2
        · rw [e0 _ _ _ (by omega) (by omega)] at hp
          obtain ⟨b1, b2, b3⟩ := hM.2.1 p hp
          rw [e0 3 _ _ (by omega) (by omega)]
          exact ⟨by rw [i2 _ _ (by omega) (by omega)]; exact b1, fun i hi => by rw [e0 _ _ _ (by omega) (by omega), i2 _ _ (by omega) (by omega)]; exact b2 i hi, fun i hi => by rw [e0 _ _ _ (by omega) (by omega), i2 _ _ (by omega) (by omega)]; exact b3 i hi⟩
        · by_cases ee : e = exq T n L
          · rw [ee, tEx_6]
            refine ⟨by rw [ek, f2.2.1 _ _ (by omega)]; exact a139, fun i hi => ?_⟩
            rw [tEx_4, tEx_5]
            exact hD i hi
          · have he2 : e < T 0 0 1 := by
              rw [tEx_1] at he
              by_cases z : exq T n L < T 0 0 1
              · rw [if_pos z] at he; exact he
              · rw [if_neg z] at he; omega
            obtain ⟨b1, b2⟩ := hM.2.2 e he2
            have w6 := (hT.2.2 e he2).1
            rw [tEx_x (a := 6) (by omega) (by omega)]
            refine ⟨by rw [i2 _ _ (by omega) (by omega)]; exact b1, fun i hi => ?_⟩
            rw [tEx_x (a := 4) (by omega) (by omega), tEx_x (a := 5) (by omega) (by omega), i2 _ _ (by omega) (by omega), i2 _ _ (by omega) (by omega)]
            exact b2 i hi
      refine ⟨fun c2 M4 s4 e4 => ⟨vi, fun M7 s7 e7 => fin M7 s7 ?_ ?_ ?_⟩, fun c2 => ⟨vi, fun M10 s10 e10 => fin M10 s10 ?_ ?_ ?_⟩⟩
      · rw [e7, e4]; exact ((Fr.rf _ _).wI (Or.inl ⟨rfl, rfl⟩)).wI (Or.inr ⟨rfl, by omega⟩)
      · rw [tEx_1, if_neg (by omega), e7, iV_wI, if_neg (by omega), e4, iV_wI, if_pos ⟨rfl, rfl⟩]
      · rw [e7, iV_wI, if_pos ⟨rfl, by omega⟩]
      · rw [e10]; exact (Fr.rf _ _).wI (Or.inr ⟨rfl, by omega⟩)
      · rw [tEx_1, if_pos (by omega), e10, iV_wI, if_neg (by omega)]; exact hM.1.2.1
      · rw [e10, iV_wI, if_pos ⟨rfl, by omega⟩]
  intro d
  induction d with
  | zero =>
    intro k hd hk hj
    have e : k = T 0 0 1 := by omega
    subst e
    have t := tell (T 0 0 1) (Nat.le_refl _) (exq_n hj)
    refine g185_6 hS ⟨fun _ => t, fun c => absurd ?_ c⟩
    rw [hM.1.2.1]
    exact (o_le (by omega) (by omega)).mpr (Nat.le_refl _)
  | succ d ih =>
    intro k hd hk hj
    refine g185_6 hS ⟨fun c => ?_, fun _ => ?_⟩
    · rw [hM.1.2.1] at c
      exact absurd ((o_le (by omega) (by omega)).mp c) (by omega)
    · rw [show (60 : Int32) + Int32.ofNat k = Int32.ofNat (60 + k) from (Int32.ofNat_add 60 k).symm]
      refine (s186 hS hT hM (show k < T 0 0 1 by omega) hn hl hL).mono fun v13 M12 k12 s12 => ?_
      obtain ⟨k121, k122⟩ := k12
      subst k122
      rcases k121 with ⟨y1, y2⟩ | ⟨y1, y2⟩
      · rw [y1]
        exact ⟨fun c => absurd c (by decide), fun _ => tell k (by omega) (exq_u hj (by omega) y2)⟩
      · rw [y1, o_s]
        refine ⟨fun _ => ih (k + 1) (by omega) (by omega) fun j hj2 => ?_, fun c => absurd rfl c⟩
        by_cases ej : j = k
        · rw [ej]; exact y2
        · exact hj j (by omega)
theorem s185_f {M : sm_M} {wf : Nat} {x2 x3 x5 : Int32} {K : sm_M → Prop} (hS : SH M) (h8 : iV M 116 8 = -1) (hk : ∀ M2, SH M2 → M2 = sm_wI M 116 8 (Int32.ofNat wf) → K M2) : sm_w 185 (45, [some (.ref 116), some (.int (Int32.ofNat wf)), some (.int (x2)), some (.int (x3)), some (.int ((0 : Int32))), some (.int (x5)), none], []) M (rV K) := by
  have w := (s177 (x := Int32.ofNat wf) hS h8).mono fun M1 e1 (s1 : SH M1) => hk M1 s1 e1
  exact g185_2 hS ⟨fun _ => ⟨fun _ => w, fun c => absurd rfl c⟩, fun _ => ⟨fun _ => ⟨fun _ => w, fun c => absurd rfl c⟩, fun c => absurd rfl c⟩⟩
theorem s185_2 {wf wt : Nat} {T : Tt} (hT : wT T) (hR : mR A tb tn) (hn : tn ≤ 8192) (hB : ∀ i, i < tn → tb i < 256) (h1 : wf + 1 < wt) (h2 : wt ≤ tn) (h8 : iV A 116 8 = -1) (hM : mTr A T) : ∀ (d j : Nat), wt - (wf + 1) - j = d → j ≤ wt - (wf + 1) → xg tb (wf + 1) j → (j = wt - (wf + 1) → lsl tb (wf + 1) j) → ∀ M, SH M → (∀ i, i < xl tb (wf + 1) j → iV M 141 i = Int32.ofNat (xL tb (wf + 1) j i)) → (∀ k, k < 40 → iV M 142 k = Int32.ofNat (xP tb (wf + 1) j k)) → Fr (fun a _ => a = 141 ∨ a = 142) A M → sm_w 185 (45, [some (.ref 116), some (.int (Int32.ofNat wf)), some (.int (Int32.ofNat wt)), some (.int (Int32.ofNat (xl tb (wf + 1) j))), some (.int ((1 : Int32))), some (.int (Int32.ofNat (wf + 1 + j))), none], []) M (rV (Q185 A T tb wf wt)) := by
  have frx : ∀ {B C : sm_M}, Fr (fun a _ => a = 141 ∨ a = 142) B C → Fr pex B C := fun f => f.mono fun a k z => by unfold pex; omega
  have bad : ∀ M, Fr (fun a _ => a = 141 ∨ a = 142) A M → ¬ okX tb wf wt → ∀ M2, SH M2 → M2 = sm_wI M 116 8 (Int32.ofNat wf) → Q185 A T tb wf wt M2 := fun M f z M2 s2 e2 => ⟨Or.inr ⟨fun y => z y.1, by rw [e2, iV_wI, if_pos ⟨rfl, rfl⟩]⟩, by rw [e2]; exact (frx f).wI (Or.inl ⟨rfl, Or.inl rfl⟩)⟩
  intro d
  induction d with
  | zero =>
    intro j hd hj hg hl M hS hL hP hA
    have ej : j = wt - (wf + 1) := by omega
    subst ej
    have x30 := xg_x _ hg
    obtain ⟨l1, l2⟩ := xL_i (tb := tb) (b0 := wf + 1) (wt - (wf + 1))
    have ok : okX tb wf wt := ⟨hg, hl rfl⟩
    have F := frx hA
    refine g185_2 hS ⟨fun _ => ⟨fun c => absurd c (by decide), fun _ => ?_⟩, fun c => absurd ((o_le (by omega) (by omega)).mpr (by omega)) c⟩
    refine s185_6 (g := xP tb (wf + 1) (wt - (wf + 1))) hS hT (by omega) x30 l1 (fun i hi => ?_) (by rw [hA.2.1 _ _ (by omega)]; exact h8) (hM.eq (fun k hk => hA.2.1 _ _ (by omega)) fun a k a1 a2 => hA.2.1 _ _ (by omega)) hL (fun i hi => ?_) (fun hno M2 s2 e2 => ⟨Or.inr ⟨fun y => hno y.2, by rw [e2, iV_wI, if_pos ⟨rfl, rfl⟩]⟩, by rw [e2]; exact F.wI (Or.inl ⟨rfl, Or.inl rfl⟩)⟩) (fun hr M2 s2 m2 z8 f2 => ⟨Or.inl ⟨⟨ok, hr⟩, z8, m2⟩, F.tr f2⟩) _ 0 rfl (Nat.zero_le _) fun j hj => by omega
    · rcases Nat.lt_or_ge (xl tb (wf + 1) (wt - (wf + 1))) i with z | z
      · rw [xP_z _ _ z]; omega
      · rw [show i = xl tb (wf + 1) (wt - (wf + 1)) from by omega]
        exact ((xP_l _ hg).mp ok.2).2
    · rw [hP i (by omega)]
      have := l2 i
      constructor
      · intro z
        exact (o_eq (m := 1) (by omega) (by omega)).mp z
      · intro z
        rw [z]; rfl
  | succ d ih =>
    intro j hd hj hg hl M hS hL hP hA
    have R := hR.fr hA ⟨by omega, fun k => by omega⟩
    have h8M : iV M 116 8 = -1 := by rw [hA.2.1 _ _ (by omega)]; exact h8
    have x30 := xg_x _ hg
    obtain ⟨l1, l2⟩ := xL_i (tb := tb) (b0 := wf + 1) j
    have u : wf + 1 + j < tn := by omega
    have hc := hB _ u
    have up : okX tb wf wt → xg tb (wf + 1) (j + 1) := fun z => xg_le (wt - (wf + 1) - (j + 1)) (j + 1) (by rw [show j + 1 + (wt - (wf + 1) - (j + 1)) = wt - (wf + 1) from by omega]; exact z.1)
    refine g185_2 hS ?_
    rw [o_cl (n := wf + 1 + j) (by omega), R.2 _ u, P173 M hc, o_s, o_cl (n := xl tb (wf + 1) j) (by omega)]
    refine ⟨fun c => absurd ((o_le (by omega) (by omega)).mp c) (by omega), fun _ => ⟨fun c => absurd c (by decide), fun _ => ⟨(o_in (by omega)).mpr (by omega), fun c => ?_, fun c => ?_⟩⟩⟩
    · -- no letter
      have at137 : ¬ okX tb wf wt → sm_w 185 (137, [some (.ref 116), some (.int (Int32.ofNat wf)), some (.int (Int32.ofNat wt)), some (.int (Int32.ofNat (xl tb (wf + 1) j))), none, some (.int (Int32.ofNat (wf + 1 + j))), none], []) M (rV (Q185 A T tb wf wt)) := fun z => by
        refine g185_4 hS (g185_5 hS ⟨fun _ => ?_, fun c => absurd rfl c⟩)
        exact s185_f hS h8M (bad M hA z)
      refine ⟨fun c45 => ?_, fun c45 => at137 fun z => ?_⟩
      · have e45 := (o_eq (m := 45) (by omega) (by omega)).mp c45
        have notd : ¬ lsl tb (wf + 1) j → ¬ okX tb wf wt := fun y z => by
          rcases (up z).2 with w | w
          · exact c w.1
          · exact y w.2
        have lq := xP_l j hg
        have l2j := l2 (xl tb (wf + 1) j)
        refine ⟨fun c0 => at137 (notd fun z => ?_), fun c0 => ⟨(o_in (by omega)).mpr (by omega), fun c1 => ?_, fun c1 => at137 (notd fun z => ?_)⟩⟩
        · have := (lq.mp z).1
          have := (o_le (m := 0) (by omega) (by omega)).mp c0
          omega
        · rw [hP _ (by omega)] at c1
          have c1' := (o_eq (m := 0) (by omega) (by omega)).mp c1
          have x0' : 0 < xl tb (wf + 1) j := by
            rcases Nat.lt_or_ge 0 (xl tb (wf + 1) j) with z | z
            · exact z
            · exact absurd (by rw [show xl tb (wf + 1) j = 0 from by omega]; decide) c0
          have hls : lsl tb (wf + 1) j := lq.mpr ⟨x0', by omega⟩
          refine ⟨fun c2 => at137 fun z => ?_, fun c2 => ?_⟩
          · have c3 := (o_le (by omega) (by omega)).mp c2
            have ej : wt - (wf + 1) = j + 1 := by omega
            have z2 := z.2
            rw [ej, lsl_s] at z2
            exact c z2
          · have c3 : ¬ wt ≤ wf + 1 + j + 1 := fun y => c2 ((o_le (by omega) (by omega)).mpr y)
            refine g185_5 hS ⟨fun y => absurd y (by decide), fun _ => ⟨(o_in (by omega)).mpr (by omega), fun M2 s2 e2 => ?_⟩⟩
            rw [o_cl (n := xl tb (wf + 1) j) (by omega)] at e2
            rw [o_s]
            have eL : xL tb (wf + 1) (j + 1) = xL tb (wf + 1) j := if_neg c
            have eP : xP tb (wf + 1) (j + 1) = tp (xP tb (wf + 1) j) (xl tb (wf + 1) j) 1 := if_neg c
            have z := ih (j + 1) (by omega) (by omega) ⟨hg, Or.inr ⟨e45, hls⟩⟩ (fun y => by omega) M2 s2 (fun i hi => by rw [xl_n c] at hi; rw [eL, e2, iV_wI, if_neg (by omega)]; exact hL i hi) (fun k hk => ?_) (by rw [e2]; exact hA.wI (Or.inr rfl))
            · rw [xl_n c] at z
              exact z
            · rw [eP, e2, iV_wI]
              by_cases ek : k = xl tb (wf + 1) j
              · rw [if_pos ⟨rfl, ek⟩, ek, tp_e]; rfl
              · rw [if_neg (fun y => ek y.2), tp_o _ _ _ ek]; exact hP k hk
        · rw [hP _ (by omega)] at c1
          have := (lq.mp z).2
          exact c1 (by rw [show xP tb (wf + 1) j (xl tb (wf + 1) j) = 0 from by omega]; rfl)
      · rcases (up z).2 with w | w
        · exact c w.1
        · exact c45 (by rw [w.1]; rfl)
    · have csl := Classical.not_not.mp c
      refine ⟨fun c30 => ?_, fun c30 => ?_⟩
      · have c3 := (o_le (n := 30) (by omega) (by omega)).mp c30
        refine g185_3 hS ⟨fun _ => ?_, fun y => absurd rfl y⟩
        refine s185_f hS h8M (bad M hA fun z => ?_)
        rcases (up z).2 with w | w
        · omega
        · have := sl_97 csl; omega
      · have c3 : xl tb (wf + 1) j < 30 := by
          rcases Nat.lt_or_ge (xl tb (wf + 1) j) 30 with z | z
          · exact z
          · exact absurd ((o_le (n := 30) (by omega) (by omega)).mpr z) c30
        refine g185_3 hS ⟨fun y => absurd y (by decide), fun _ => ⟨(o_in (by omega)).mpr (by omega), fun M2 s2 e2 => ?_⟩⟩
        rw [o_cl (n := xl tb (wf + 1) j) (by omega)] at e2
        rw [o_s, o_s]
        have eL : xL tb (wf + 1) (j + 1) = tp (xL tb (wf + 1) j) (xl tb (wf + 1) j) (tb (wf + 1 + j)) := if_pos csl
        have eP : xP tb (wf + 1) (j + 1) = xP tb (wf + 1) j := if_pos csl
        have z := ih (j + 1) (by omega) (by omega) ⟨hg, Or.inl ⟨csl, c3⟩⟩ (fun _ => lsl_s.mpr csl) M2 s2 (fun i hi => ?_) (fun k hk => by rw [eP, e2, iV_wI, if_neg (by omega)]; exact hP k hk) (by rw [e2]; exact hA.wI (Or.inl rfl))
        · rw [xl_y csl] at z
          exact z
        · rw [xl_y csl] at hi
          rw [eL, e2, iV_wI]
          by_cases ei : i = xl tb (wf + 1) j
          · rw [if_pos ⟨rfl, ei⟩, ei, tp_e]
          · rw [if_neg (fun y => ei y.2), tp_o _ _ _ ei]; exact hL i (by omega)
theorem s185 {M : sm_M} {wf wt : Nat} {T : Tt} (hS : SH M) (hT : wT T) (hR : mR M tb tn) (hn : tn ≤ 8192) (hB : ∀ i, i < tn → tb i < 256) (h1 : wf < wt) (h2 : wt ≤ tn) (h8 : iV M 116 8 = -1) (hM : mTr M T) : sm_cV 185 [.ref 116, .int (Int32.ofNat wf), .int (Int32.ofNat wt)] M (Q185 M T tb wf wt) := by
  have clr : ∀ (x4 : Int32), (∀ M2, SH M2 → (∀ k, k < 40 → iV M2 142 k = 0) → Fr (fun a _ => a = 141 ∨ a = 142) M M2 → sm_w 185 (45, [some (.ref 116), some (.int (Int32.ofNat wf)), some (.int (Int32.ofNat wt)), some (.int ((0 : Int32))), some (.int (x4)), some (.int (Int32.ofNat (wf + 1))), none], []) M2 (rV (Q185 M T tb wf wt))) → ∀ (d k : Nat), 40 - k = d → k ≤ 40 → ∀ M2, SH M2 → (∀ j, j < k → iV M2 142 j = 0) → Fr (fun a _ => a = 141 ∨ a = 142) M M2 → sm_w 185 (19, [some (.ref 116), some (.int (Int32.ofNat wf)), some (.int (Int32.ofNat wt)), some (.int ((0 : Int32))), some (.int (x4)), some (.int (Int32.ofNat k)), none], []) M2 (rV (Q185 M T tb wf wt)) := fun x4 hk d => by
    induction d with
    | zero =>
      intro k hd hk2 M2 s2 hz f2
      have e : k = 40 := by omega
      subst e
      refine g185_1 s2 ⟨fun _ => ?_, fun c => absurd ((o_le (n := 40) (m := 40) (by omega) (by omega)).mpr (Nat.le_refl _)) c⟩
      rw [o_s]
      exact hk M2 s2 hz f2
    | succ d ih =>
      intro k hd hk2 M2 s2 hz f2
      refine g185_1 s2 ?_
      rw [o_cl (n := k) (by omega), o_s k]
      refine ⟨fun c => absurd ((o_le (n := 40) (by omega) (by omega)).mp c) (by omega), fun _ => ⟨(o_in (by omega)).mpr (by omega), fun M3 s3 e3 => ih (k + 1) (by omega) (by omega) M3 s3 (fun j hj => ?_) (by rw [e3]; exact f2.wI (Or.inr rfl))⟩⟩
      rw [e3, iV_wI]
      by_cases ej : j = k
      · rw [if_pos ⟨rfl, ej⟩]
      · rw [if_neg (fun z => ej z.2)]; exact hz j (by omega)
  refine g185_0 hS ?_
  rw [← Int32.ofNat_sub wt wf (by omega)]
  refine ⟨fun c => ?_, fun c => ?_⟩
  · have c1 := (o_le (m := 1) (by omega) (by omega)).mp c
    refine clr 0 (fun M2 s2 hz f2 => s185_f s2 (by rw [f2.2.1 _ _ (by omega)]; exact h8) fun M3 s3 e3 => ⟨Or.inr ⟨fun y => ?_, by rw [e3, iV_wI, if_pos ⟨rfl, rfl⟩]⟩, by rw [e3]; exact (f2.mono (q := pex) fun a k z => by unfold pex; omega).wI (Or.inl ⟨rfl, Or.inl rfl⟩)⟩) _ 0 rfl (Nat.zero_le _) M hS (fun j hj => by omega) (Fr.rf _ _)
    have := y.1.2.1
    omega
  · have c1 : wf + 1 < wt := by
      rcases Nat.lt_or_ge (wf + 1) wt with z | z
      · exact z
      · exact absurd ((o_le (m := 1) (by omega) (by omega)).mpr (by omega)) c
    exact clr 1 (fun M2 s2 hz f2 => s185_2 (A := M) hT hR hn hB c1 h2 h8 hM _ 0 rfl (Nat.zero_le _) trivial (fun z => by omega) M2 s2 (fun i hi => absurd hi (Nat.not_lt_zero _)) (fun k hk => hz k hk) f2) _ 0 rfl (Nat.zero_le _) M hS (fun j hj => by omega) (Fr.rf _ _)
end HRM
