/-! CHOOSING: the row that is kept. -/
def vE (D : Nat → Nat → Nat) (j : Nat) (e : Option (Nat × Nat × Nat)) : Prop := ∀ q b h, e = some (q, b, h) → ∃ k' b' h', Ent D b h = some (k', b', h') ∧ q = k' + (alo D b j + beh D b j h)
theorem stp_v {D : Nat → Nat → Nat} {i j : Nat} {Q : Nat → Option (Nat × Nat × Nat)} (hQ : ∀ c, vE D j (Q c)) : ∀ g, ∀ c, vE D j (stp D i j (Ent D i) g Q c)
  | 0, c => hQ c
  | g + 1, c => by
    have ih := stp_v (i := i) hQ g c
    show vE D j (cnd D i j (Ent D i) g (stp D i j (Ent D i) g Q) c)
    by_cases hc : c = eC D i j
    · cases hp : Ent D i g with
      | none => rw [cnd_n hp]; exact ih
      | some x =>
        obtain ⟨k, b, h⟩ := x
        by_cases hb : bet (Ent D i) (stp D i j (Ent D i) g Q) i (eC D i j) (k + (alo D i j + beh D i j g)) g
        · rw [hc, cnd_t hp hb]
          intro q b' h' e
          cases e
          exact ⟨k, b, h, hp, rfl⟩
        · rw [cnd_f hp hb]; exact ih
    · rw [cnd_o hc]; exact ih
theorem Pt_v {D : Nat → Nat → Nat} {j : Nat} (h1 : 1 ≤ j) : ∀ k, k ≤ j → ∀ c, vE D j (Pt D j k c)
  | 0, _, c => fun q b h e => by rw [Pt_0 h1] at e; cases e
  | k + 1, hk, c => by
    have ih := Pt_v (D := D) h1 k (by omega)
    rw [Pt_s (by omega)]
    by_cases cj : jok D k j
    · rw [lst_y cj]; exact stp_v ih 4 c
    · rw [lst_n cj]; exact ih c
/-- the step back, the steps back, the cost so far -/
noncomputable def pre (D : Nat → Nat → Nat) (x : Nat × Nat) : Nat × Nat := match Ent D x.1 x.2 with
  | none => (0, 1)
  | some (_, b, h) => (b, h)
noncomputable def pa (D : Nat → Nat → Nat) (x : Nat × Nat) : Nat → Nat × Nat
  | 0 => x
  | t + 1 => pre D (pa D x t)
noncomputable def ck (D : Nat → Nat → Nat) (x : Nat × Nat) : Nat := match Ent D x.1 x.2 with
  | none => 0
  | some (k, _, _) => k
def vx (D : Nat → Nat → Nat) (x : Nat × Nat) : Prop := x.1 ≤ D 12 0 ∧ x.2 ≤ 3 ∧ ∃ e, Ent D x.1 x.2 = some e
noncomputable def nl (D : Nat → Nat → Nat) : Nat → Nat × Nat → Nat
  | 0, _ => 0
  | f + 1, x => if x.1 = 0 then 0 else nl D f (pre D x) + 1
section PATH
variable {D : Nat → Nat → Nat} {o : Nat}
theorem pre_v (hw : wK D) {x : Nat × Nat} (hx : vx D x) (h1 : 1 ≤ x.1) : vx D (pre D x) ∧ (pre D x).1 < x.1 ∧ ck D (pre D x) ≤ ck D x ∧ ck D x ≤ 600 * 2100000000000 := by
  obtain ⟨v1, v2, ⟨q, b, h⟩, v3⟩ := hx
  have hn := hw.1
  have hw2 := (Pt_w hw x.1 v1).2 x.1 (Nat.le_refl _) h1 x.2 q b h v3
  obtain ⟨k', b', h', p1, p2⟩ := Pt_v h1 x.1 (Nat.le_refl _) x.2 q b h v3
  have e : pre D x = (b, h) := by unfold pre; rw [v3]
  have ec : ck D x = q := by unfold ck; rw [v3]
  have ec2 : ck D (b, h) = k' := by unfold ck; rw [p1]
  have : x.1 * 2100000000000 ≤ 600 * 2100000000000 := Nat.mul_le_mul_right _ (by omega)
  rw [e, ec, ec2]
  exact ⟨⟨by show b ≤ _; omega, by show h ≤ _; omega, _, p1⟩, by show b < _; omega, by omega, by omega⟩
theorem nl_f (hw : wK D) : ∀ (f g : Nat) (x : Nat × Nat), vx D x → x.1 ≤ f → x.1 ≤ g → nl D f x = nl D g x
  | 0, g, x, hx, h1, h2 => by
    have e : x.1 = 0 := by omega
    cases g with
    | zero => rfl
    | succ g => show 0 = if x.1 = 0 then 0 else _; rw [if_pos e]
  | f + 1, g, x, hx, h1, h2 => by
    by_cases e : x.1 = 0
    · show (if x.1 = 0 then 0 else _) = _
      rw [if_pos e]
      cases g with
      | zero => rfl
      | succ g => show 0 = if x.1 = 0 then 0 else _; rw [if_pos e]
    · cases g with
      | zero => omega
      | succ g =>
        have hp := pre_v hw hx (by omega)
        show (if x.1 = 0 then 0 else _) = if x.1 = 0 then 0 else _
        rw [if_neg e, if_neg e, nl_f hw f g (pre D x) hp.1 (by omega) (by omega)]
theorem nl_le (hw : wK D) : ∀ (f : Nat) (x : Nat × Nat), vx D x → nl D f x ≤ x.1
  | 0, x, hx => Nat.zero_le _
  | f + 1, x, hx => by
    show (if x.1 = 0 then 0 else _) ≤ _
    by_cases e : x.1 = 0
    · rw [if_pos e]; omega
    · rw [if_neg e]
      have hp := pre_v hw hx (by omega)
      have := nl_le hw f (pre D x) hp.1
      omega
noncomputable def nL (D : Nat → Nat → Nat) (x : Nat × Nat) : Nat := nl D x.1 x
theorem nL_0 {x : Nat × Nat} (h : x.1 = 0) : nL D x = 0 := by
  unfold nL
  rw [h]
  rfl
theorem nL_s (hw : wK D) {x : Nat × Nat} (hx : vx D x) (h : 1 ≤ x.1) : nL D x = nL D (pre D x) + 1 := by
  have hp := pre_v hw hx h
  unfold nL
  obtain ⟨f, hf⟩ : ∃ f, x.1 = f + 1 := ⟨x.1 - 1, by omega⟩
  rw [hf]
  show (if x.1 = 0 then 0 else _) = _
  rw [if_neg (by omega), nl_f hw f (pre D x).1 (pre D x) hp.1 (by omega) (Nat.le_refl _)]
theorem cE_v {M : sm_M} {x : Nat × Nat} (hw : wK D) (hE : ∀ j, j ≤ D 12 0 → ∀ c, c < 4 → cE M (4 * j + c) (Ent D j c)) (hx : vx D x) : jV M 37 (4 * x.1 + x.2) = Int64.ofNat (ck D x) ∧ (1 ≤ x.1 → iV M 38 (4 * x.1 + x.2) = Int32.ofNat (pre D x).1 ∧ iV M 39 (4 * x.1 + x.2) = Int32.ofNat (pre D x).2) := by
  obtain ⟨v1, v2, ⟨q, b, h⟩, v3⟩ := hx
  have z := hE x.1 v1 x.2 (by omega)
  rw [v3] at z
  have e : pre D x = (b, h) := by unfold pre; rw [v3]
  have ec : ck D x = q := by unfold ck; rw [v3]
  rw [e, ec]
  exact ⟨z.1, fun h1 => z.2 (by omega)⟩
theorem s127_1 {M : sm_M} (hS : SH M) (hw : wK D) (hE : ∀ j, j ≤ D 12 0 → ∀ c, c < 4 → cE M (4 * j + c) (Ent D j c)) : ∀ (d : Nat) (x : Nat × Nat) (t : Nat), x.1 ≤ d → vx D x → t + x.1 ≤ D 12 0 → sm_w 127 (11, [some (.ref 36), some (.int (Int32.ofNat (D 12 0))), none, some (.int (Int32.ofNat t)), some (.int (Int32.ofNat x.1)), some (.int (Int32.ofNat x.2)), some (.int (Int32.ofNat t)), none], []) M (rI (fun v M2 => v = Int32.ofNat (t + nL D x) ∧ M2 = M)) := by
  have hn := hw.1
  intro d
  induction d with
  | zero =>
    intro x t hd hx ht
    have e : x.1 = 0 := by omega
    have v1 := hx.1
    refine g127_1 hS ?_
    rw [nL_0 e, e]
    exact ⟨fun _ => ⟨rfl, rfl⟩, fun _ => ⟨fun _ => ⟨rfl, rfl⟩, fun c => absurd (Int32.le_refl _) c⟩⟩
  | succ d ih =>
    intro x t hd hx ht
    by_cases e : x.1 = 0
    · refine g127_1 hS ?_
      rw [nL_0 e, e]
      exact ⟨fun _ => ⟨rfl, rfl⟩, fun _ => ⟨fun _ => ⟨rfl, rfl⟩, fun c => absurd (Int32.le_refl _) c⟩⟩
    · have hp := pre_v hw hx (by omega)
      have v1 := hx.1
      have v2 := hx.2.1
      have hc := (cE_v hw hE hx).2 (by omega)
      have ih := ih (pre D x) (t + 1) (by omega) hp.1 (by omega)
      have in1 : vp_in (Int32.ofNat (4 * x.1 + x.2)) 2404 := (o_in (by omega)).mpr (by omega)
      refine g127_1 hS ?_
      rw [show (4 : Int32) = Int32.ofNat 4 from rfl, ← Int32.ofNat_mul, ← Int32.ofNat_add, Nat.mul_comm x.1 4, o_cl (by omega), hc.1, hc.2, o_s, o_le0 (by omega)]
      rw [show t + 1 + nL D (pre D x) = t + nL D x from by rw [nL_s hw hx (by omega)]; omega] at ih
      exact ⟨fun c => absurd ((o_le (by omega) (by omega)).mp c) (by omega), fun _ => ⟨fun c => by omega, fun _ => ⟨in1, in1, ih⟩⟩⟩
theorem s127 {M : sm_M} {h : Nat} (hS : SH M) (hw : wK D) (hE : ∀ j, j ≤ D 12 0 → ∀ c, c < 4 → cE M (4 * j + c) (Ent D j c)) (hx : vx D (D 12 0, h)) : sm_cI 127 [.ref 36, .int (Int32.ofNat (D 12 0)), .int (Int32.ofNat h)] M (fun v M2 => v = Int32.ofNat (nL D (D 12 0, h)) ∧ M2 = M) := by
  have z := s127_1 hS hw hE _ (D 12 0, h) 0 (Nat.le_refl _) hx (by show 0 + D 12 0 ≤ _; omega)
  rw [Nat.zero_add] at z
  exact g127_0 hS z
/-- line j of the row that ends at x: its end, its cost -/
noncomputable def rE (D : Nat → Nat → Nat) (x : Nat × Nat) (j : Nat) : Nat := (pa D x (nL D x - 1 - j)).1
noncomputable def rK (D : Nat → Nat → Nat) (x : Nat × Nat) (j : Nat) : Nat := ck D (pa D x (nL D x - 1 - j)) - ck D (pre D (pa D x (nL D x - 1 - j)))
theorem pa_v (hw : wK D) {x : Nat × Nat} (hx : vx D x) : ∀ t, t ≤ nL D x → vx D (pa D x t) ∧ nL D (pa D x t) = nL D x - t
  | 0, _ => ⟨hx, rfl⟩
  | t + 1, ht => by
    obtain ⟨h1, h2⟩ := pa_v hw hx t (by omega)
    have h3 : 1 ≤ (pa D x t).1 := by
      rcases Nat.eq_zero_or_pos (pa D x t).1 with z | z
      · rw [nL_0 z] at h2; omega
      · exact z
    have hp := pre_v hw h1 h3
    have h4 := nL_s hw h1 h3
    exact ⟨hp.1, by show nL D (pre D (pa D x t)) = _; omega⟩
def pkr (o : Nat) : Nat → Nat → Prop := fun a k => a = o ∧ (k = 5 ∨ k = 6) ∨ a = o + 12 ∨ a = o + 13
def p12 (o : Nat) : Nat → Nat → Prop := fun a _ => a = o + 12 ∨ a = o + 13
theorem s126_1 {A : sm_M} {x : Nat × Nat} (ho : fS o) (hw : wK D) (hx : vx D x) : ∀ (d t : Nat), nL D x - t = d → t ≤ nL D x → ∀ M, SH M → (∀ j, j ≤ D 12 0 → ∀ c, c < 4 → cE M (4 * j + c) (Ent D j c)) → (∀ j, nL D x - t ≤ j → j < nL D x → iV M (o + 12) j = Int32.ofNat (rE D x j) ∧ jV M (o + 13) j = Int64.ofNat (rK D x j)) → Fr (p12 o) A M → ∀ j1 : Int32, j1.toInt = (nL D x : Int) - 1 - t → sm_w 126 (54, [some (.ref 36), some (.ref o), none, some (.int (Int32.ofNat (pa D x t).2)), some (.int (Int32.ofNat (pa D x t).1)), some (.int (j1)), none, none], []) M (rV (fun M2 => (∀ j, j < nL D x → iV M2 (o + 12) j = Int32.ofNat (rE D x j) ∧ jV M2 (o + 13) j = Int64.ofNat (rK D x j)) ∧ Fr (p12 o) A M2)) := by
  have hn := hw.1
  have hoo : o = 88 ∨ o = 102 := ho
  have hL : nL D x ≤ 600 := by
    have h1 := nl_le hw x.1 x hx
    have h2 := hx.1
    show nl D x.1 x ≤ 600
    omega
  intro d
  induction d with
  | zero =>
    intro t hd ht M hS hE hj hA j1 e1
    refine g126_1 hS ho ⟨fun _ => ⟨fun j hjl => hj j (by omega) hjl, hA⟩, fun c => absurd (by rw [z_lt, e1]; show _ < (0 : Int); omega) c⟩
  | succ d ih =>
    intro t hd ht M hS hE hj hA j1 e1
    have ih := ih (t + 1) (by omega) (by omega)
    obtain ⟨w1, w2⟩ := pa_v hw hx t (by omega)
    have h3 : 1 ≤ (pa D x t).1 := by
      rcases Nat.eq_zero_or_pos (pa D x t).1 with z | z
      · rw [nL_0 z] at w2; omega
      · exact z
    have hp := pre_v hw w1 h3
    have v1 := w1.1
    have v2 := w1.2.1
    have u1 := hp.1.1
    have u2 := hp.1.2.1
    have hc1 := cE_v hw hE w1
    have hc2 := cE_v hw hE hp.1
    have ej : j1 = Int32.ofNat (nL D x - 1 - t) := by rw [z_eq, e1, o_ti (by omega)]; omega
    have in1 : vp_in (Int32.ofNat (4 * (pa D x t).1 + (pa D x t).2)) 2404 := (o_in (by omega)).mpr (by omega)
    have in2 : vp_in (Int32.ofNat (4 * (pre D (pa D x t)).1 + (pre D (pa D x t)).2)) 2404 := (o_in (by omega)).mpr (by omega)
    have in3 : vp_in (Int32.ofNat (nL D x - 1 - t)) 600 := (o_in (by omega)).mpr (by omega)
    refine g126_1 hS ho ?_
    rw [ej, show (4 : Int32) = Int32.ofNat 4 from rfl, ← Int32.ofNat_mul, ← Int32.ofNat_add, Nat.mul_comm (pa D x t).1 4, o_cl (n := 4 * (pa D x t).1 + (pa D x t).2) (by omega), o_cl (n := nL D x - 1 - t) (by omega), (hc1.2 h3).1, (hc1.2 h3).2, ← Int32.ofNat_mul, ← Int32.ofNat_add, Nat.mul_comm (pre D (pa D x t)).1 4, o_cl (n := 4 * (pre D (pa D x t)).1 + (pre D (pa D x t)).2) (by omega)]
    refine ⟨fun c => absurd c (o_nn (by omega)), fun _ => ⟨in1, in1, in3, fun M4 s4 e4 => ⟨in1, in2, in3, fun M9 s9 e9 => ⟨in1, in1, ?_⟩⟩⟩⟩
    have k37 : ∀ s, jV M4 37 s = jV M 37 s := fun s => by rw [e4, jV_wI]
    rw [k37, k37, hc1.1, hc2.1, j_sub hp.2.2.1] at e9
    have f9 : Fr (p12 o) M M9 := by rw [e9, e4]; exact ((Fr.rf _ _).wI (Or.inl rfl)).wJ (Or.inr rfl)
    have E9 : ∀ j, j ≤ D 12 0 → ∀ c, c < 4 → cE M9 (4 * j + c) (Ent D j c) := fun j hj2 c hc => cE_fr (hE j hj2 c hc) f9 (by unfold p12; omega)
    have c9 := (cE_v hw E9 w1).2 h3
    rw [c9.1, c9.2]
    refine ih M9 s9 E9 (fun j j1' j2' => ?_) (hA.tr f9) _ ?_
    · have ev : iV M9 (o + 12) j = if j = nL D x - 1 - t then Int32.ofNat (pa D x t).1 else iV M (o + 12) j := by
        rw [e9, iV_wJ, e4, iV_wI]
        by_cases q : j = nL D x - 1 - t
        · rw [if_pos ⟨rfl, q⟩, if_pos q]
        · rw [if_neg (by omega), if_neg q]
      have ew : jV M9 (o + 13) j = if j = nL D x - 1 - t then Int64.ofNat (ck D (pa D x t) - ck D (pre D (pa D x t))) else jV M (o + 13) j := by
        rw [e9, jV_wJ, e4, jV_wI]
        by_cases q : j = nL D x - 1 - t
        · rw [if_pos ⟨rfl, q⟩, if_pos q]
        · rw [if_neg (by omega), if_neg q]
      rw [ev, ew]
      by_cases q : j = nL D x - 1 - t
      · rw [if_pos q, if_pos q]
        unfold rE rK
        rw [show nL D x - 1 - j = t from by omega]
        exact ⟨rfl, rfl⟩
      · rw [if_neg q, if_neg q]
        exact hj j (by omega) j2'
    · rw [z_add, o_ti (by omega)]
      · show ((nL D x - 1 - t : Nat) : Int) + -1 = _
        omega
      · rw [o_ti (by omega)]; show _ ≤ ((nL D x - 1 - t : Nat) : Int) + -1; omega
      · rw [o_ti (by omega)]; show ((nL D x - 1 - t : Nat) : Int) + -1 < _; omega
theorem s126 {M : sm_M} {h : Nat} (hS : SH M) (ho : fS o) (hw : wK D) (hK : cK M o D) (hE : ∀ j, j ≤ D 12 0 → ∀ c, c < 4 → cE M (4 * j + c) (Ent D j c)) (hb : bstF (Ent D (D 12 0)) 4 = some h) : sm_cV 126 [.ref 36, .ref o] M (fun M2 => jV M2 o 5 = Int64.ofNat (ck D (D 12 0, h)) ∧ iV M2 o 6 = Int32.ofNat (nL D (D 12 0, h)) ∧ (∀ j, j < nL D (D 12 0, h) → iV M2 (o + 12) j = Int32.ofNat (rE D (D 12 0, h) j) ∧ jV M2 (o + 13) j = Int64.ofNat (rK D (D 12 0, h) j)) ∧ Fr (pkr o) M M2) := by
  have hn := hw.1
  have hoo : o = 88 ∨ o = 102 := ho
  obtain ⟨b1, b2⟩ := (bstF_s (Ent D (D 12 0)) 4).1 h hb
  have hx : vx D (D 12 0, h) := ⟨Nat.le_refl _, by show h ≤ 3; omega, b2⟩
  have hL : nL D (D 12 0, h) ≤ D 12 0 := nl_le hw (D 12 0) (D 12 0, h) hx
  have hc := cE_v hw hE hx
  refine g126_0 hS ho ?_
  rw [hK.1]
  refine (s109 hS hn.2 (hE _ (Nat.le_refl _)) (Ent_b hw (Nat.le_refl _)) Ent_z).mono fun v M1 k1 s1 => ?_
  obtain ⟨k11, k12⟩ := k1
  subst k12
  rw [hb] at k11
  have k11 : v = Int32.ofNat h := k11
  rw [k11, show (4 : Int32) = Int32.ofNat 4 from rfl, ← Int32.ofNat_mul, ← Int32.ofNat_add, Nat.mul_comm (D 12 0) 4, o_cl (by omega), hc.1]
  refine ⟨fun _ => ⟨(o_in (by omega)).mpr (by omega), fun M5 s5 e5 => ?_⟩, fun c => absurd (Int32.not_lt.mp (o_nn (by omega))) c⟩
  have f5 : Fr (pkr o) M1 M5 := by rw [e5]; exact (Fr.rf _ _).wJ (Or.inl ⟨rfl, Or.inl rfl⟩)
  have E5 : ∀ j, j ≤ D 12 0 → ∀ c, c < 4 → cE M5 (4 * j + c) (Ent D j c) := fun j hj2 c hc => cE_fr (hE j hj2 c hc) f5 (by unfold pkr; omega)
  refine (s127 s5 hw E5 hx).mono fun v8 M7 k7 s7 M10 s10 e10 => ?_
  obtain ⟨k71, k72⟩ := k7
  subst k72
  rw [k71] at e10
  have f10 : Fr (pkr o) M1 M10 := by rw [e10]; exact f5.wI (Or.inl ⟨rfl, Or.inr rfl⟩)
  have v6 : iV M10 o 6 = Int32.ofNat (nL D (D 12 0, h)) := by rw [e10, iV_wI, if_pos ⟨rfl, rfl⟩]
  have v5 : jV M10 o 5 = Int64.ofNat (ck D (D 12 0, h)) := by rw [e10, jV_wI, e5, jV_wJ, if_pos ⟨rfl, rfl⟩]
  have z := s126_1 (A := M10) ho hw hx _ 0 rfl (Nat.zero_le _) M10 s10 (fun j hj2 c hc => cE_fr (hE j hj2 c hc) f10 (by unfold pkr; omega)) (fun j j1 j2 => by omega) (Fr.rf _ _) (iV M10 o 6 - 1) (by
    rw [v6, z_sub, o_ti (by omega)]
    · show (nL D (D 12 0, h) : Int) - 1 = (nL D (D 12 0, h) : Int) - 1 - ((0 : Nat) : Int)
      omega
    · rw [o_ti (by omega)]; show _ ≤ (nL D (D 12 0, h) : Int) - 1; omega
    · rw [o_ti (by omega)]; show (nL D (D 12 0, h) : Int) - 1 < _; omega)
  refine z.mono fun oo M2 q => ?_
  obtain ⟨q1, q2, q3⟩ := q
  refine ⟨q1, ?_, ?_, q2, f10.tr (q3.mono fun a k z => Or.inr z)⟩
  · rw [q3.2.2 o 5 (by unfold p12; omega)]; exact v5
  · rw [q3.2.1 o 6 (by unfold p12; omega)]; exact v6
end PATH
