/-! CHOOSING: the reference's one line. -/
def mE (M : sm_M) (s : Nat) (e : Option (Nat × Nat × Nat)) : Prop := match e with
  | none => iV M 160 s = 0
  | some (k, b, h) => iV M 160 s = 1 ∧ jV M 158 s = Int64.ofNat k ∧ (4 ≤ s → iV M 159 s = Int32.ofNat (4 * b + h))
theorem o_d4 {x : Nat} (h : x < 2147483648) : Int32.ofNat x / (4 : Int32) = Int32.ofNat (x / 4) := by
  rw [show (4 : Int32) = Int32.ofNat 4 from rfl, ← Int32.ofNat_div h (by omega)]
theorem s212_1 {M : sm_M} {x y : Nat} (hS : SH M) (hx : x < 2404) (hy : y < 2404) (hne : ¬ x / 4 = y / 4) : sm_w 212 (5, [some (.ref 116), none, none, some (.int (Int32.ofNat x)), some (.int (Int32.ofNat y))], []) M (rI (fun v M2 => v = (if x / 4 < y / 4 then 1 else 0) ∧ M2 = M)) := by
  refine g212_1 hS ?_
  rw [o_d4 (by omega), o_d4 (by omega), o_eq (n := x / 4) (m := y / 4) (by omega) (by omega), o_le (n := y / 4) (m := x / 4) (by omega) (by omega)]
  refine ⟨fun c => absurd ((o_eq (by omega) (by omega)).mp c) (fun z => hne (by rw [z])), fun _ => ⟨fun c => absurd c hne, fun _ => ⟨fun c => ⟨?_, rfl⟩, fun c => ⟨?_, rfl⟩⟩⟩⟩
  · rw [if_neg (by omega)]
  · rw [if_pos (by omega)]
/-- two states of one break: their breaks before tell -/
theorem s212_2 {M : sm_M} {x y p q : Nat} (hS : SH M) (hx : x < 2404) (hy : y < 2404) (hne : ¬ x = y) (he : x / 4 = y / 4) (hp : p < 2404) (hq : q < 2404) (vx : iV M 159 x = Int32.ofNat p) (vy : iV M 159 y = Int32.ofNat q) (hpq : ¬ p / 4 = q / 4) : sm_cI 212 [.ref 116, .int (Int32.ofNat x), .int (Int32.ofNat y)] M (fun v M2 => v = (if p / 4 < q / 4 then 1 else 0) ∧ M2 = M) := by
  refine g212_0 hS (g212_1 hS ?_)
  rw [o_d4 (by omega), o_d4 (by omega), o_eq (n := x / 4) (m := y / 4) (by omega) (by omega), o_cl (by omega), o_cl (by omega), vx, vy]
  exact ⟨fun c => absurd ((o_eq (by omega) (by omega)).mp c) hne, fun _ => ⟨fun _ => ⟨(o_in (by omega)).mpr (by omega), (o_in (by omega)).mpr (by omega), s212_1 hS hp hq hpq⟩, fun c => absurd he c⟩⟩
def p160 (s : Nat) : Nat → Nat → Prop := fun a k => (a = 158 ∨ a = 159 ∨ a = 160) ∧ k = s
theorem mE_fr {M M2 : sm_M} {s : Nat} {e : Option (Nat × Nat × Nat)} {p : Nat → Nat → Prop} (h : mE M s e) (f : Fr p M M2) (hp : ¬ p 158 s ∧ ¬ p 159 s ∧ ¬ p 160 s) : mE M2 s e := by
  unfold mE at h ⊢
  rw [f.2.2 _ _ hp.1, f.2.1 _ _ hp.2.1, f.2.1 _ _ hp.2.2]
  exact h
section MDP
variable {D : Nat → Nat → Nat} {i j : Nat}
/-- what the reference's loop goes on to, from the entries -/
theorem s206_5 {A : sm_M} {x1 x2 : Int32} {Q : Nat → Option (Nat × Nat × Nat)} {K : Int32 → sm_M → Prop} (hw : wK D) (hij : i < j) (hj : j ≤ D 12 0) : ∀ (d g : Nat), 4 - g = d → g ≤ 4 → ∀ M, SH M → mK M D → mLine M D i j → (∀ c, c < 4 → mE M (4 * i + c) (Ent D i c)) → mE M (4 * j + eC D i j) (stp D i j (Ent D i) g Q (eC D i j)) → bE j (stp D i j (Ent D i) g Q (eC D i j)) → (∀ k b h, stp D i j (Ent D i) g Q (eC D i j) = some (k, b, h) → b ≤ i) → sInv (Ent D i) i g (stp D i j (Ent D i) g Q (eC D i j)) → Fr (p160 (4 * j + eC D i j)) A M → (∀ M2, SH M2 → mE M2 (4 * j + eC D i j) (stp D i j (Ent D i) 4 Q (eC D i j)) → Fr (p160 (4 * j + eC D i j)) A M2 → sm_w 206 (61, [some (.ref 116), some (.int (x1)), some (.int (x2)), some (.int (Int32.ofNat j)), some (.int (Int32.ofNat (i + 1))), none, none, none, none, none], []) M2 (rI K)) → sm_w 206 (166, [some (.ref 116), some (.int (x1)), some (.int (x2)), some (.int (Int32.ofNat j)), some (.int (Int32.ofNat i)), some (.int (Int32.ofNat (4 * j + eC D i j))), some (.int (Int32.ofNat g)), none, none, none], []) M (rI K) := by
  have hn := hw.1
  have hC := eC_le D i j
  have hP := (Pt_w hw i (by omega)).1
  have e1' : ((1 : Int32) &&& 1) = 1 := by decide
  intro d
  induction d with
  | zero =>
    intro g hd hg M hS hK hln hcP hcQ hbQ hI2 hI hA hk
    have e : g = 4 := by omega
    subst e
    refine g206_5 hS ⟨fun _ => ?_, fun c => absurd (Int32.le_refl _) c⟩
    rw [o_s]
    exact hk M hS hcQ hA
  | succ d ih =>
    intro g hd hg M hS hK hln hcP hcQ hbQ hI2 hI hA hk
    have ih := ih (g + 1) (by omega) (by omega)
    have hg3 : g ≤ 3 := by omega
    have e4 : (4 : Int32) * Int32.ofNat i = Int32.ofNat (4 * i) := by
      rw [show (4 : Int32) = Int32.ofNat 4 from rfl, ← Int32.ofNat_mul]
    have in1 : vp_in (Int32.ofNat (4 * i + g)) 2408 := (o_in (by omega)).mpr (by omega)
    have in2 : vp_in (Int32.ofNat (4 * j + eC D i j)) 2408 := (o_in (by omega)).mpr (by omega)
    have es : stp D i j (Ent D i) (g + 1) Q = cnd D i j (Ent D i) g (stp D i j (Ent D i) g Q) := rfl
    rw [es] at ih
    have hcg := hcP g (by omega)
    have hbg := hP g (by omega)
    have hp3 := P210 hw hij hj hK hln hg3
    have hab := alo_b hw hij hj g
    refine g206_5 hS ⟨fun c => absurd ((o_le (n := 4) (by omega) (by omega)).mp c) (by omega), fun _ => ?_⟩
    rw [e4, ← Int32.ofNat_add, o_cl (n := 4 * i + g) (by omega), o_s g]
    refine ⟨in1, fun c => ?_, fun c => ?_⟩
    · have hn0 : Ent D i g = none := by
        cases hpg : Ent D i g with
        | none => rfl
        | some x =>
          obtain ⟨k, b, h⟩ := x
          rw [hpg] at hcg
          rw [hcg.1] at c
          exact absurd c (by decide)
      rw [cnd_n hn0] at ih
      refine ih M hS hK hln hcP hcQ hbQ hI2 (fun k b h q1 q2 => ?_) hA hk
      obtain ⟨a1, a2⟩ := hI k b h q1 q2
      exact ⟨by omega, a2⟩
    · cases hpg : Ent D i g with
      | none =>
        rw [hpg] at hcg
        exact absurd hcg c
      | some x =>
        obtain ⟨k, b, h⟩ := x
        rw [hpg] at hcg hbg
        have hk1 : k ≤ i * 2100000000000 := hbg.1
        have hk2 : i * 2100000000000 ≤ 600 * 2100000000000 := Nat.mul_le_mul_right _ (by omega)
        have hk3 : (i + 1) * 2100000000000 ≤ j * 2100000000000 := Nat.mul_le_mul_right _ (by omega)
        have hk4 : j * 2100000000000 ≤ 600 * 2100000000000 := Nat.mul_le_mul_right _ (by omega)
        rw [hcg.2.1, hp3.1, j_add, o_cl (n := 4 * j + eC D i j) (by omega), e1']
        -- the entry is taken
        have put : ∀ M6 M9 M12 : sm_M, SH M12 → M6 = sm_wI M 160 (4 * j + eC D i j) (1 : Int32) → M9 = sm_wJ M6 158 (4 * j + eC D i j) (Int64.ofNat (k + (alo D i j + beh D i j g))) → M12 = sm_wI M9 159 (4 * j + eC D i j) (Int32.ofNat (4 * i + g)) → bet (Ent D i) (stp D i j (Ent D i) g Q) i (eC D i j) (k + (alo D i j + beh D i j g)) g → sm_w 206 (166, [some (.ref 116), some (.int (x1)), some (.int (x2)), some (.int (Int32.ofNat j)), some (.int (Int32.ofNat i)), some (.int (Int32.ofNat (4 * j + eC D i j))), some (.int (Int32.ofNat (g + 1))), none, none, none], []) M12 (rI K) := fun M6 M9 M12 s12 e6 e9 e12 hbt => by
          rw [cnd_t hpg hbt] at ih
          have f12 : Fr (p160 (4 * j + eC D i j)) M M12 := by
            rw [e12, e9, e6]
            exact (((Fr.rf _ _).wI ⟨Or.inr (Or.inr rfl), rfl⟩).wJ ⟨Or.inl rfl, rfl⟩).wI ⟨Or.inr (Or.inl rfl), rfl⟩
          refine ih M12 s12 (hK.fr f12 ⟨fun q z1 z2 => by unfold p160; omega, fun a q z1 z2 => by unfold p160; omega⟩) (mLine_fr hln f12 fun q z1 z2 => by unfold p160; omega) (fun c hc => mE_fr (hcP c hc) f12 (by unfold p160; omega)) ⟨?_, ?_, fun _ => ?_⟩ ⟨by omega, by omega, hg3⟩ (fun k b h q1 => ?_) (fun k b h q1 q2 => ?_) (hA.tr f12) hk
          · rw [e12, iV_wI, if_neg (by omega), e9, iV_wJ, e6, iV_wI, if_pos ⟨rfl, rfl⟩]
          · rw [e12, jV_wI, e9, jV_wJ, if_pos ⟨rfl, rfl⟩]
          · rw [e12, iV_wI, if_pos ⟨rfl, rfl⟩]
          · cases q1; exact Nat.le_refl _
          · cases q1; exact ⟨by omega, ⟨_, hpg⟩⟩
        -- it is not taken
        have pass : ∀ M2 : sm_M, M2 = M → ¬ bet (Ent D i) (stp D i j (Ent D i) g Q) i (eC D i j) (k + (alo D i j + beh D i j g)) g → sm_w 206 (166, [some (.ref 116), some (.int (x1)), some (.int (x2)), some (.int (Int32.ofNat j)), some (.int (Int32.ofNat i)), some (.int (Int32.ofNat (4 * j + eC D i j))), some (.int (Int32.ofNat (g + 1))), none, none, none], []) M2 (rI K) := fun M2 e2 hbt => by
          subst e2
          rw [cnd_f hpg hbt] at ih
          refine ih M2 hS hK hln hcP hcQ hbQ hI2 (fun k b h q1 q2 => ?_) hA hk
          obtain ⟨a1, a2⟩ := hI k b h q1 q2
          exact ⟨by omega, a2⟩
        refine ⟨in1, hp3.2, in2, fun c2 => ⟨in2, fun M6 s6 e6 => ⟨in2, fun M9 s9 e9 => ⟨in2, fun M12 s12 e12 => ?_⟩⟩⟩, fun c2 => ?_⟩
        · refine put M6 M9 M12 s12 e6 e9 e12 ?_
          unfold bet
          cases hq : stp D i j (Ent D i) g Q (eC D i j) with
          | none => exact trivial
          | some y =>
            obtain ⟨k', b', h'⟩ := y
            rw [hq] at hcQ
            rw [hcQ.1] at c2
            exact absurd c2 (by decide)
        · cases hq : stp D i j (Ent D i) g Q (eC D i j) with
          | none =>
            rw [hq] at hcQ
            exact absurd hcQ c2
          | some y =>
            obtain ⟨k', b', h'⟩ := y
            have hq0 := hq
            rw [hq] at hcQ hbQ
            have hbQ : k' ≤ j * 2100000000000 ∧ b' ≤ 600 ∧ h' ≤ 3 := hbQ
            obtain ⟨c3, c4, c5⟩ := hcQ
            have c5 := c5 (by omega)
            have hbi := hI2 k' b' h' hq
            have hbet : bet (Ent D i) (stp D i j (Ent D i) g Q) i (eC D i j) (k + (alo D i j + beh D i j g)) g ↔ (k + (alo D i j + beh D i j g) < k' ∨ (k + (alo D i j + beh D i j g) = k' ∧ b' = i ∧ pbk (Ent D i g) < pbk (Ent D i h'))) := by
              unfold bet
              rw [hq]
            rw [c4, c5, j_lt (by omega) (by omega), j_eq (by omega) (by omega)]
            refine ⟨in2, fun q1 => pass M rfl (fun w => by rw [hbet] at w; omega), fun q1 => ⟨in2, fun q2 => ⟨in2, ?_⟩, fun q2 => ⟨in2, fun M30 s30 e30 => ⟨in2, fun M33 s33 e33 => ⟨in2, fun M36 s36 e36 => put M30 M33 M36 s36 e30 e33 e36 (hbet.mpr (Or.inl (by omega)))⟩⟩⟩⟩⟩
            by_cases q3 : b' = i
            · obtain ⟨r1, ⟨x1', x2', x3'⟩, r2⟩ := hI k' b' h' hq q3
              have hi0 : 1 ≤ i := by
                rcases Nat.eq_zero_or_pos i with z | z
                · exfalso
                  subst z
                  have e1 : Ent D 0 g = ini g := rfl
                  have e2 : Ent D 0 h' = ini h' := rfl
                  rw [e1] at hpg
                  rw [e2] at r2
                  unfold ini at hpg r2
                  by_cases g1 : g = 1
                  · rw [if_neg (by omega)] at r2; cases r2
                  · rw [if_neg g1] at hpg; cases hpg
                · exact z
              have wg := (Pt_w hw i (by omega)).2 i (Nat.le_refl _) hi0 g k b h hpg
              have wh := (Pt_w hw i (by omega)).2 i (Nat.le_refl _) hi0 h' x1' x2' x3' r2
              have hne : ¬ b = x2' := fun z => by
                have := wg.2.2.2
                have := wh.2.2.2
                rw [z] at *
                omega
              have d1 := hcP h' (by omega)
              rw [r2] at d1
              have m1 : iV M 159 (4 * i + h') = Int32.ofNat (4 * x2' + x3') := d1.2.2 (by omega)
              have m2 : iV M 159 (4 * i + g) = Int32.ofNat (4 * b + h) := hcg.2.2 (by omega)
              have dv1 : (4 * b + h) / 4 = b := by have := wg.2.2.1; omega
              have dv2 : (4 * x2' + x3') / 4 = x2' := by have := wh.2.2.1; omega
              rw [q3]
              refine (s212_2 hS (by omega) (by omega) (by omega) (by omega) (by have := wg.2.1; have := wg.2.2.1; omega) (by have := wh.2.1; have := wh.2.2.1; omega) m2 m1 (by rw [dv1, dv2]; exact hne)).mono fun v M17 k17 s17 => ?_
              obtain ⟨k1, k2⟩ := k17
              rw [dv1, dv2] at k1
              have pb1 : pbk (Ent D i g) = b := by rw [hpg]; rfl
              have pb2 : pbk (Ent D i h') = x2' := by rw [r2]; rfl
              rw [pb1, pb2] at hbet
              refine ⟨fun c6 => pass M17 k2 (fun w => ?_), fun c6 => ⟨in2, fun M21 s21 e21 => ⟨in2, fun M24 s24 e24 => ⟨in2, fun M27 s27 e27 => ?_⟩⟩⟩⟩
              · rw [hbet] at w
                rw [k1, if_pos (by omega)] at c6
                exact absurd c6 (by decide)
              · subst k2
                refine put M21 M24 M27 s27 e21 e24 e27 (hbet.mpr (Or.inr ⟨q2, q3, ?_⟩))
                rcases Nat.lt_or_ge b x2' with z | z
                · exact z
                · rw [k1, if_neg (by omega)] at c6
                  exact absurd rfl c6
            · refine sm_cI.mono (K := fun v M2 => v = (if (4 * i + g) / 4 < (4 * b' + h') / 4 then 1 else 0) ∧ M2 = M) (g212_0 hS (s212_1 hS (by omega) (by omega) (by omega))) fun v M17 k17 s17 => ?_
              obtain ⟨k1, k2⟩ := k17
              rw [if_neg (by omega)] at k1
              refine ⟨fun _ => pass M17 k2 (fun w => by rw [hbet] at w; omega), fun c6 => absurd k1 c6⟩
end MDP
