/-! CHOOSING: a search of the kind. -/
theorem s107_1 {x n b : Nat} {v : Int64} (hx : sA x 2 n) (hb : b ≤ n) (hn : n ≤ 8192) : ∀ (d i : Nat), b - i = d → i ≤ b → ∀ M, SH M → (∀ k, k < i → jV M x k = v) → sm_w 107 (10, [some (.ref x), none, some (.int (Int32.ofNat b)), some (.long (v)), none, some (.int (Int32.ofNat i))], []) M (rV (fun M2 => (∀ k, k < b → jV M2 x k = v) ∧ Fr (fun a _ => a = x) M M2)) := by
  intro d
  induction d with
  | zero =>
    intro i hd hi M hS h
    have e : i = b := by omega
    subst e
    exact g107_1 hS hx ⟨fun _ => ⟨h, Fr.rf _ _⟩, fun c => absurd ((o_le (by omega) (by omega)).mpr (Nat.le_refl _)) c⟩
  | succ d ih =>
    intro i hd hi M hS h
    refine g107_1 hS hx ⟨fun c => absurd ((o_le (by omega) (by omega)).mp c) (by omega), fun _ => ⟨(o_in (by omega)).mpr (by omega), fun M2 s2 e2 => ?_⟩⟩
    rw [o_cl (by omega)] at e2
    rw [o_s]
    have f2 : Fr (fun a _ => a = x) M M2 := by rw [e2]; exact (Fr.rf (fun a _ => a = x) M).wJ rfl
    refine (ih (i + 1) (by omega) (by omega) M2 s2 fun k k2 => ?_).mono fun o M3 q => ⟨q.1, q.2.1, f2.tr q.2.2⟩
    rw [e2, jV_wJ]
    by_cases e : k = i
    · rw [if_pos ⟨rfl, e⟩]
    · rw [if_neg (by omega)]; exact h k (by omega)
theorem s107 {M : sm_M} {x n b : Nat} {v : Int64} (hS : SH M) (hx : sA x 2 n) (hb : b ≤ n) (hn : n ≤ 8192) : sm_cV 107 [.ref x, .int ((0 : Int32)), .int (Int32.ofNat b), .long (v)] M (fun M2 => (∀ k, k < b → jV M2 x k = v) ∧ Fr (fun a _ => a = x) M M2) := by
  refine g107_0 hS hx ⟨?_, s107_1 hx hb hn b 0 (by omega) (Nat.zero_le _) M hS fun k k2 => by omega⟩
  have hz : (0 : Int32) = Int32.ofNat 0 := rfl
  unfold q93_0
  rw [hz]
  exact ⟨fun _ => ⟨fun _ => ⟨fun _ => trivial, fun c => absurd ((o_le (by omega) (by omega)).mpr hb) c⟩, fun c => absurd (Int32.le_refl _) c⟩, fun c => absurd ((o_le (by omega) (by omega)).mpr (Nat.zero_le _)) c⟩
def pfr (o : Nat) : Nat → Nat → Prop := fun a k => a = 37 ∨ a = 38 ∨ a = 39 ∨ a = 40 ∨ a = o ∧ k = 4
section DP4
variable {D : Nat → Nat → Nat} {o : Nat}
theorem Ent_b (hw : wK D) {j : Nat} (hj : j ≤ D 12 0) : ∀ c, c < 4 → bE 600 (Ent D j c) := fun c hc => by
  have hn := hw.1
  have h := (Pt_w hw j hj).1 c hc
  unfold bE at h ⊢
  split at h <;> rename_i e
  · exact trivial
  · have : j * 2100000000000 ≤ 600 * 2100000000000 := Nat.mul_le_mul_right _ (by omega)
    exact ⟨by omega, h.2⟩
theorem s106_1 {A : sm_M} (ho : fS o) (hw : wK D) (h5 : D 12 5 ≤ 10001) : ∀ (d f : Nat), D 12 0 - f = d → f ≤ D 12 0 → ∀ M, SH M → cK M o D → iV M o 4 = Int32.ofNat (D 12 5) → TB M D f (f + 1) → Fr (pfr o) A M → sm_w 106 (39, [some (.ref 36), some (.ref o), none, some (.int (Int32.ofNat (D 12 0))), some (.int (Int32.ofNat f))], []) M (rI (fun v M2 => ((v = 0 ∧ ∀ c, c < 4 → Ent D (D 12 0) c = none) ∨ (v = 1 ∧ ∃ h, bstF (Ent D (D 12 0)) 4 = some h)) ∧ (∀ j, j ≤ D 12 0 → ∀ c, c < 4 → cE M2 (4 * j + c) (Ent D j c)) ∧ iV M2 o 4 = Int32.ofNat (D 12 5) ∧ Fr (pfr o) A M2)) := by
  have hn := hw.1
  have hdo : ∀ a k, o ≤ a → a ≤ o + 13 → ¬ pdp a k := fun a k z1 z2 => by unfold pdp; unfold fS at ho; omega
  have own : ∀ M f, f ≤ D 12 0 → TB M D f (f + 1) → ∀ c, c < 4 → cE M (4 * f + c) (Ent D f c) := fun M f hf hT c hc => by
    have z := hT f hf c hc
    have e1 : kk f (f + 1) f = f := by unfold kk; rw [if_neg (by omega), if_pos (Nat.le_refl _)]
    rw [e1] at z
    exact z
  intro d
  induction d with
  | zero =>
    intro f hd hf M hS hK h4 hT hA
    have e : f = D 12 0 := by omega
    subst e
    refine g106_1 hS ho ⟨fun _ => ?_, fun c => absurd (Int32.le_refl _) c⟩
    refine (s108 hS hn.2 (own M _ (Nat.le_refl _) hT) (Ent_b hw (Nat.le_refl _)) Ent_z).mono fun v M1 k1 s1 => ?_
    obtain ⟨k11, k12⟩ := k1
    subst k12
    refine ⟨by rcases k11 with z | z; exact Or.inl z.1; exact Or.inr z.1, k11, fun j hj c hc => ?_, h4, hA⟩
    have z := hT j hj c hc
    have e1 : kk (D 12 0) (D 12 0 + 1) j = j := by unfold kk; rw [if_neg (by omega), if_pos hj]
    rw [e1] at z
    exact z
  | succ d ih =>
    intro f hd hf M hS hK h4 hT hA
    have ih := ih (f + 1) (by omega) (by omega)
    have nxt : ∀ M2, TB M2 D f (D 12 0 + 1) → TB M2 D (f + 1) (f + 1 + 1) := fun M2 h j hj c hc => by
      have z := h j hj c hc
      have e : kk f (D 12 0 + 1) j = kk (f + 1) (f + 1 + 1) j := by
        unfold kk
        by_cases c1 : f < j
        · rw [if_pos (by omega), if_neg (by omega)]
          by_cases c2 : j ≤ f + 1
          · rw [if_pos c2]; omega
          · rw [if_neg c2]
        · rw [if_neg (by omega), if_pos (by omega), if_neg (by omega), if_pos (by omega)]
      rw [← e]
      exact z
    refine g106_1 hS ho ⟨fun c => absurd ((o_le (by omega) (by omega)).mp c) (by omega), fun _ => ?_⟩
    rw [o_s]
    refine (s108 hS (by omega) (own M f hf hT) (Ent_b hw hf) Ent_z).mono fun v M1 k1 s1 => ?_
    obtain ⟨k11, k12⟩ := k1
    subst k12
    refine ⟨fun c => ?_, fun c => ?_⟩
    · have hno : ∀ c, c < 4 → Ent D f c = none := by
        rcases k11 with z | z
        · exact z.2
        · rw [z.1] at c; exact absurd c (by decide)
      refine ih M1 s1 hK h4 (nxt M1 fun j hj c hc => ?_) hA
      have z := hT j hj c hc
      by_cases c1 : f < j
      · have e1 : kk f (f + 1) j = f := by unfold kk; rw [if_neg (by omega), if_neg (by omega)]
        have e2 : kk f (D 12 0 + 1) j = f + 1 := by unfold kk; rw [if_pos (by omega)]
        rw [e1] at z
        rw [e2, Pt_s c1, lst_e hno]
        exact z
      · have e2 : kk f (D 12 0 + 1) j = kk f (f + 1) j := by unfold kk; rw [if_neg (show ¬ (f < j ∧ j < D 12 0 + 1) by omega), if_neg (show ¬ (f < j ∧ j < f + 1) by omega)]
        rw [e2]
        exact z
    · have h := s111_1 (A := M1) ho hw h5 (show f < D 12 0 by omega) _ (f + 1) rfl (by omega) (by omega) M1 s1 hK h4 hT (Fr.rf _ _)
      refine sm_cV.mono (K := fun M2 => TB M2 D f (D 12 0 + 1) ∧ Fr pdp M1 M2) (g111_0 s1 ho (by rw [o_s]; exact h)) fun M8 k8 s8 => ?_
      exact ih M8 s8 (hK.fr k8.2 hdo) (by rw [k8.2.2.1 o 4 (hdo o 4 (by omega) (by omega))]; exact h4) (nxt M8 k8.1) (hA.tr (k8.2.mono fun a k z => by unfold pdp at z; unfold pfr; omega))
theorem s106 {M : sm_M} {t : Int32} (hS : SH M) (ho : fS o) (hw : wK D) (h5 : D 12 5 ≤ 10001) (ht : t = Int32.ofNat (D 12 5)) (hK : cK M o D) : sm_cI 106 [.ref 36, .ref o, .int (t)] M (fun v M2 => ((v = 0 ∧ ∀ c, c < 4 → Ent D (D 12 0) c = none) ∨ (v = 1 ∧ ∃ h, bstF (Ent D (D 12 0)) 4 = some h)) ∧ (∀ j, j ≤ D 12 0 → ∀ c, c < 4 → cE M2 (4 * j + c) (Ent D j c)) ∧ iV M2 o 4 = Int32.ofNat (D 12 5) ∧ Fr (pfr o) M M2) := by
  have hn := hw.1
  have hoo : o = 88 ∨ o = 102 := ho
  refine g106_0 hS ho fun M1 s1 e1 => ?_
  have f1 : Fr (pfr o) M M1 := by rw [e1]; exact (Fr.rf _ _).wI (Or.inr (Or.inr (Or.inr (Or.inr ⟨rfl, rfl⟩))))
  have K1 : cK M1 o D := by
    obtain ⟨h1, h2, h3, h4', h5', h6⟩ := hK
    refine ⟨?_, fun b hb => ?_, fun b hb0 hb => ?_, ?_, ?_, ?_⟩
    · rw [e1, iV_wI, if_neg (by omega)]; exact h1
    · rw [e1, iV_wI, if_neg (by omega), iV_wI, if_neg (by omega), iV_wI, if_neg (by omega), jV_wI, jV_wI, jV_wI, jV_wI]; exact h2 b hb
    · rw [e1, iV_wI, if_neg (by omega)]; exact h3 b hb0 hb
    · rw [e1, iV_wI, if_neg (by omega)]; exact h4'
    · rw [e1, iV_wI, if_neg (by omega)]; exact h5'
    · rw [e1, iV_wI, if_neg (by omega)]; exact h6
  have v4 : iV M1 o 4 = Int32.ofNat (D 12 5) := by rw [e1, iV_wI, if_pos ⟨rfl, rfl⟩]; exact ht
  rw [K1.1, o_s, show (4 : Int32) = Int32.ofNat 4 from rfl, ← Int32.ofNat_mul]
  refine (s107 s1 a_37 (by omega) (by omega)).mono fun M3 k3 s3 => ⟨(o_in (n := 1) (by omega)).mpr (by omega), fun M7 s7 e7 => ?_⟩
  obtain ⟨k31, k32⟩ := k3
  have e7' : M7 = sm_wJ M3 37 1 (0 : Int64) := e7
  have f7 : Fr pdp M1 M7 := by rw [e7']; exact (Fr.mono (q := pdp) k32 fun a k z => Or.inl z).wJ (Or.inl rfl)
  have hdo : ∀ a k, o ≤ a → a ≤ o + 13 → ¬ pdp a k := fun a k z1 z2 => by unfold pdp; omega
  have h := s106_1 (A := M) ho hw h5 _ 0 rfl (Nat.zero_le _) M7 s7 (K1.fr f7 hdo) (by rw [f7.2.1 o 4 (hdo o 4 (by omega) (by omega))]; exact v4) (fun j hj c hc => ?_) (f1.tr (f7.mono fun a k z => by unfold pdp at z; unfold pfr; omega))
  · exact h
  · have e0 : kk 0 (0 + 1) j = 0 := by
      unfold kk
      rw [if_neg (by omega)]
      by_cases c1 : j ≤ 0
      · rw [if_pos c1]; omega
      · rw [if_neg c1]
    rw [e0]
    by_cases c1 : j = 0
    · subst c1
      show cE M7 (4 * 0 + c) (ini c)
      unfold ini
      by_cases c2 : c = 1
      · rw [if_pos c2, c2]
        refine ⟨?_, fun z => by omega⟩
        rw [e7', jV_wJ, if_pos ⟨rfl, rfl⟩]; rfl
      · rw [if_neg c2]
        show jV M7 37 (4 * 0 + c) = -1
        rw [e7', jV_wJ, if_neg (by omega)]
        exact k31 _ (by omega)
    · rw [Pt_0 (by omega)]
      show jV M7 37 (4 * j + c) = -1
      rw [e7', jV_wJ, if_neg (by omega)]
      exact k31 _ (by omega)
end DP4
