/-! THE START: the memory before the law, and what the makers of objects leave. -/
def sBy : List (List Int32) := [[119, 105, 100, 116, 104], [107, 101, 114, 110], [106, 111, 105, 110], [101, 110, 100, 115]]
def sM0 (L : Nat) (xs : Nat → Int32) : sm_M := (23, 0, sm_nth 71 [60, 70, 61, 70, 62, 70, 63, 70, 64], sm_nth 0 [L, 0, 5, 0, 4, 0, 4, 0, 4], sm_nth (fun _ => 0) [xs, fun _ => 0, fun j => (sBy.getD 0 []).getD j 0, fun _ => 0, fun j => (sBy.getD 1 []).getD j 0, fun _ => 0, fun j => (sBy.getD 2 []).getD j 0, fun _ => 0, fun j => (sBy.getD 3 []).getD j 0], fun _ _ => 0, fun r _ => sm_nth none [none, some 2, none, some 4, none, some 6, none, some 8] r)
def zlk (d : Int32) (a k : Nat) : List (Nat × Nat × Nat × Int32) → Int32
  | [] => d
  | q :: w => bif Nat.beq a q.1 && (Nat.ble q.2.1 k && Nat.blt k q.2.2.1) then q.2.2.2 else zlk d a k w
theorem zlk_c (d : Int32) (a k a0 lo hi : Nat) (x : Int32) (w : List (Nat × Nat × Nat × Int32)) : zlk d a k ((a0, lo, hi, x) :: w) = @ite _ (a = a0 ∧ lo ≤ k ∧ k < hi) (Classical.propDecidable _) x (zlk d a k w) := by
  have e : (Nat.beq a a0 && (Nat.ble lo k && Nat.blt k hi)) = true ↔ (a = a0 ∧ lo ≤ k ∧ k < hi) := by
    rw [Bool.and_eq_true, Bool.and_eq_true]
    exact ⟨fun h => ⟨Nat.eq_of_beq_eq_true h.1, Nat.le_of_ble_eq_true h.2.1, Nat.le_of_ble_eq_true h.2.2⟩, fun h => ⟨by rw [h.1]; exact Nat.beq_refl _, Nat.ble_eq_true_of_le h.2.1, Nat.ble_eq_true_of_le h.2.2⟩⟩
  show (bif Nat.beq a a0 && (Nat.ble lo k && Nat.blt k hi) then x else zlk d a k w) = _
  by_cases c : a = a0 ∧ lo ≤ k ∧ k < hi
  · rw [if_pos c, e.mpr c]; rfl
  · rw [if_neg c]
    have f : (Nat.beq a a0 && (Nat.ble lo k && Nat.blt k hi)) = false := by
      cases z : (Nat.beq a a0 && (Nat.ble lo k && Nat.blt k hi)) with
      | true => exact absurd (e.mp z) c
      | false => rfl
    rw [f]; rfl
theorem zlk_n (d : Int32) (a k : Nat) : ∀ w : List (Nat × Nat × Nat × Int32), (w.all fun q => !(Nat.beq q.1 a)) = true → zlk d a k w = d
  | [], _ => rfl
  | (a0, lo, hi, x) :: w, h => by
    rw [List.all_cons, Bool.and_eq_true] at h
    rw [zlk_c, if_neg, zlk_n d a k w h.2]
    intro c
    have h1 : (!(Nat.beq a0 a)) = true := h.1
    rw [c.1, show Nat.beq a0 a0 = true from Nat.beq_refl _] at h1
    cases h1
/-- what is known of the cells while they are made -/
def ZS (L : Nat) (xs : Nat → Int32) (n s : Nat) (l : List (Nat × Nat × Nat)) (w : List (Nat × Nat × Nat × Int32)) (M : sm_M) : Prop := M.1 = n ∧ M.2.1 = s ∧ (∀ a, a < n → sm_kd M a = sKD a) ∧ (∀ a, 0 < a → a < n → sm_ln M a = sLN a) ∧ (∀ q ∈ l, q.1 < n ∧ sm_rv M q.1 q.2.1 = some q.2.2) ∧ (∀ a k, iV M a k = zlk (iV (sM0 L xs) a k) a k w) ∧ (∀ a k, jV M a k = 0) ∧ sm_ln M 0 = L ∧ 23 ≤ n
section ZST
variable {L : Nat} {xs : Nat → Int32} {n s : Nat} {l : List (Nat × Nat × Nat)} {w : List (Nat × Nat × Nat × Int32)} {M : sm_M}
theorem iv0 (a k : Nat) (h : 23 ≤ a) : iV (sM0 L xs) a k = 0 := by
  obtain ⟨b, rfl⟩ : ∃ b, a = b + 23 := ⟨a - 23, by omega⟩
  rfl
theorem ZS.new (h : ZS L xs n s l w M) (k : Nat) {N N2 : Nat} (e : N = N2) (e1 : sKD n = k) (e2 : sLN n = N2) (e3 : (w.all fun q => !(Nat.beq q.1 n)) = true) : ZS L xs (n + 1) (s + N2) l w (sm_new M k N) := by
  subst e
  obtain ⟨h1, h2, h3, h4, h5, h6, h7, h8, h9⟩ := h
  refine ⟨by show M.1 + 1 = _; rw [h1], by show M.2.1 + _ = _; rw [h2], fun a ha => ?_, fun a h0 ha => ?_, fun q hq => ⟨Nat.lt_succ_of_lt (h5 q hq).1, ?_⟩, fun a k2 => ?_, fun a k2 => ?_, ?_, by omega⟩
  · show va_up (sm_kd M) M.1 k a = _
    unfold va_up
    by_cases c : a = M.1
    · rw [if_pos c, c, h1, e1]
    · rw [if_neg c]; exact h3 a (by omega)
  · show va_up (sm_ln M) M.1 N a = _
    unfold va_up
    by_cases c : a = M.1
    · rw [if_pos c, c, h1, e2]
    · rw [if_neg c]; exact h4 a h0 (by omega)
  · have z := h5 q hq
    show va_up (sm_rv M) M.1 (fun _ => none) q.1 q.2.1 = _
    unfold va_up
    rw [if_neg (by omega)]; exact z.2
  · show va_up (sm_iv M) M.1 (fun _ => 0) a k2 = _
    unfold va_up
    by_cases c : a = M.1
    · rw [if_pos c, c, h1, zlk_n _ _ _ w e3, iv0 _ _ h9]
    · rw [if_neg c]; exact h6 a k2
  · show va_up (sm_jv M) M.1 (fun _ => 0) a k2 = _
    unfold va_up
    by_cases c : a = M.1
    · rw [if_pos c]
    · rw [if_neg c]; exact h7 a k2
  · show va_up (sm_ln M) M.1 N 0 = _
    unfold va_up
    rw [if_neg (by omega)]; exact h8
theorem ZS.wI (h : ZS L xs n s l w M) (a k : Nat) (x : Int32) : ZS L xs n s l ((a, k, k + 1, x) :: w) (sm_wI M a k x) := by
  obtain ⟨h1, h2, h3, h4, h5, h6, h7, h8, h9⟩ := h
  refine ⟨h1, h2, h3, h4, h5, fun b j => ?_, h7, h8, h9⟩
  rw [iV_wI, zlk_c]
  by_cases c : b = a ∧ j = k
  · rw [if_pos c, if_pos ⟨c.1, by omega, by omega⟩]
  · rw [if_neg c, if_neg (by omega)]; exact h6 b j
theorem ZS.wJ (h : ZS L xs n s l w M) (a k : Nat) : ZS L xs n s l w (sm_wJ M a k 0) := by
  obtain ⟨h1, h2, h3, h4, h5, h6, h7, h8, h9⟩ := h
  refine ⟨h1, h2, h3, h4, h5, h6, fun b j => ?_, h8, h9⟩
  rw [jV_wJ]
  by_cases c : b = a ∧ j = k
  · rw [if_pos c]
  · rw [if_neg c]; exact h7 b j
theorem ZS.wR (h : ZS L xs n s l w M) (a f c : Nat) (e : (Nat.blt a n && l.all fun q => !(Nat.beq q.1 a && Nat.beq q.2.1 f)) = true) : ZS L xs n s ((a, f, c) :: l) w (sm_wR M a f (some c)) := by
  obtain ⟨h1, h2, h3, h4, h5, h6, h7, h8, h9⟩ := h
  rw [Bool.and_eq_true] at e
  refine ⟨h1, h2, h3, h4, fun q hq => ?_, h6, h7, h8, h9⟩
  rcases List.mem_cons.mp hq with rfl | hq
  · refine ⟨Nat.le_of_ble_eq_true e.1, ?_⟩
    show va_up (sm_rv M) a (va_up (sm_rv M a) f (some c)) a f = _
    unfold va_up
    rw [if_pos rfl, if_pos rfl]
  · have z := h5 q hq
    refine ⟨z.1, ?_⟩
    have e2 := List.all_eq_true.mp e.2 q hq
    show va_up (sm_rv M) a (va_up (sm_rv M a) f (some c)) q.1 q.2.1 = _
    unfold va_up
    by_cases c1 : q.1 = a
    · by_cases c2 : q.2.1 = f
      · rw [c1, c2, show Nat.beq a a = true from Nat.beq_refl _, show Nat.beq f f = true from Nat.beq_refl _] at e2
        cases e2
      · rw [if_pos c1, if_neg c2, ← c1]; exact z.2
    · rw [if_neg c1]; exact z.2
theorem ZS.K (h : ZS L xs n s l w M) (a k : Nat) (e : (Nat.ble 23 a && Nat.blt a n && Nat.beq (sKD a) k) = true) : sm_K M a k := by
  rw [Bool.and_eq_true, Bool.and_eq_true] at e
  have z : a < n := Nat.le_of_ble_eq_true e.1.2
  exact ⟨Nat.le_of_ble_eq_true e.1.1, by rw [h.1]; exact z, (h.2.2.1 a z).trans (Nat.eq_of_beq_eq_true e.2)⟩
theorem ZS.R (h : ZS L xs n s l w M) (a f c : Nat) (e : l.contains (a, f, c) = true) : sm_rv M a f = some c := (h.2.2.2.2.1 (a, f, c) (List.elem_iff.mp e)).2
theorem ZS.ln (h : ZS L xs n s l w M) (a N : Nat) (e : (Nat.blt 0 a && Nat.blt a n && Nat.beq (sLN a) N) = true) : sm_ln M a = N := by
  rw [Bool.and_eq_true, Bool.and_eq_true] at e
  exact (h.2.2.2.1 a (Nat.le_of_ble_eq_true e.1.1) (Nat.le_of_ble_eq_true e.1.2)).trans (Nat.eq_of_beq_eq_true e.2)
theorem ZS.in0 (h : ZS L xs n s l w M) (a : Nat) (e : (Nat.blt 0 a && Nat.blt a n && Nat.blt 0 (sLN a)) = true) : vp_in 0 (sm_ln M a) := by
  rw [Bool.and_eq_true, Bool.and_eq_true] at e
  rw [h.2.2.2.1 a (Nat.le_of_ble_eq_true e.1.1) (Nat.le_of_ble_eq_true e.1.2)]
  have z : 0 < sLN a := Nat.le_of_ble_eq_true e.2
  exact (o_in (n := 0) (by omega)).mpr z
theorem sm_cV.wm {i : Nat} {as : List Value} {M : sm_M} {K K2 : sm_M → Prop} (h : sm_cV i as M K) (k : ∀ M2, K M2 → K2 M2) : sm_cV i as M K2 := sm_w.mono h fun o M2 z => ⟨z.1, k _ z.2⟩
end ZST

-- 6 LineSetter$Line.<init>()V
theorem t6 : sP 6 = (1, sp_6, sh_6) := rfl
theorem sr6 : sm_srt sp_6 = true := by decide +kernel
theorem c6_0 {M : sm_M} {x0 : Nat} {Q : Outcome → sm_M → Prop} (h : (sm_K M x0 22) ∧ Q (.returned none) M) : sm_w 6 (0, [some (.ref (x0))], []) M Q := by
  obtain ⟨c1, h⟩ := h
  refine sm_w.run t6 sr6 0 2 (M2 := M) (f2 := (4, [some (.ref (x0))], [])) rfl ⟨trivial, ⟨sm_K.g1 c1 (sm_sh.rf _), (Nat.le_of_ble_eq_true rfl)⟩, trivial⟩ ?_
  exact sm_w.end t6 sr6 2 (o := .returned none) (M2 := M) rfl trivial (by decide) h
-- 1 LineSetter$Bytes.<init>(I)V
theorem t1 : sP 1 = (2, sp_1, sh_1) := rfl
theorem sr1 : sm_srt sp_1 = true := by decide +kernel
theorem c1_0 {M : sm_M} {x0 : Nat} {x1 : Int32} {Q : Outcome → sm_M → Prop} (h : (sm_K M x0 17) ∧ (¬ (if x1 < (0 : Int32) then (0 : Int32) else x1) < 0 ∧ (if x1 < (0 : Int32) then (0 : Int32) else x1).toNatClampNeg * 8 ≤ 536870912) ∧ ∀ M3, M3 = sm_new M 1 (if x1 < (0 : Int32) then (0 : Int32) else x1).toNatClampNeg → (sm_K M3 x0 17) ∧ ∀ M5, M5 = sm_wR M3 x0 0 (some M.1) → (sm_K M5 x0 17) ∧ ∀ M7, M7 = sm_wI M5 x0 1 (0 : Int32) → Q (.returned none) M7) : sm_w 1 (0, [some (.ref (x0)), some (.int (x1))], []) M Q := by
  obtain ⟨c1, c2, h⟩ := h
  refine sm_w.run t1 sr1 0 7 (M2 := sm_new M 1 (if x1 < (0 : Int32) then (0 : Int32) else x1).toNatClampNeg) (f2 := (12, [some (.ref (x0)), some (.int (x1))], [.ref (M.1), .ref (x0)])) rfl ⟨trivial, ⟨sm_K.g1 c1 (sm_sh.rf _), (Nat.le_of_ble_eq_true rfl)⟩, trivial, trivial, trivial, (Nat.le_of_ble_eq_true rfl), c2, trivial⟩ ?_
  have h := h _ rfl
  generalize sm_new M 1 (if x1 < (0 : Int32) then (0 : Int32) else x1).toNatClampNeg = M3 at h ⊢
  obtain ⟨c4, h⟩ := h
  refine sm_w.run t1 sr1 7 1 (M2 := sm_wR M3 x0 0 (some M.1)) (f2 := (15, [some (.ref (x0)), some (.int (x1))], [])) rfl ⟨⟨(sm_K.p c4 (sm_sh.rf _)).1, (sm_K.p c4 (sm_sh.rf _)).2.1, (sm_K.p c4 (sm_sh.rf _)).2.2, rfl⟩, trivial⟩ ?_
  have h := h _ rfl
  generalize sm_wR M3 x0 0 (some M.1) = M5 at h ⊢
  obtain ⟨c6, h⟩ := h
  refine sm_w.run t1 sr1 8 3 (M2 := sm_wI M5 x0 1 (0 : Int32)) (f2 := (20, [some (.ref (x0)), some (.int (x1))], [])) rfl ⟨trivial, trivial, ⟨(sm_K.p c6 (sm_sh.rf _)).1, (sm_K.p c6 (sm_sh.rf _)).2.1, (sm_K.p c6 (sm_sh.rf _)).2.2, Or.inl rfl⟩, trivial⟩ ?_
  have h := h _ rfl
  have s8 : sm_sh M5 (sm_wI M5 x0 1 (0 : Int32)) := sm_sh.wI (sm_sh.rf _) _ _ _
  generalize sm_wI M5 x0 1 (0 : Int32) = M7 at h s8 ⊢
  exact sm_w.end t1 sr1 11 (o := .returned none) (M2 := M7) rfl trivial (by decide) h
-- 2 LineSetter$Paragraph.<init>()V
theorem t2 : sP 2 = (1, sp_2, sh_2) := rfl
theorem sr2 : sm_srt sp_2 = true := by decide +kernel
theorem c2_0 {M : sm_M} {x0 : Nat} {Q : Outcome → sm_M → Prop} (h : (sm_K M x0 18) ∧ (¬ (4000 : Int32) < 0 ∧ (4000 : Int32).toNatClampNeg * 8 ≤ 536870912) ∧ ∀ M3, M3 = sm_new M 1 (4000 : Int32).toNatClampNeg → (sm_K M3 x0 18) ∧ ∀ M5, M5 = sm_wR M3 x0 0 (some M.1) → (¬ (4000 : Int32) < 0 ∧ (4000 : Int32).toNatClampNeg * 8 ≤ 536870912) ∧ ∀ M7, M7 = sm_new M5 0 (4000 : Int32).toNatClampNeg → (sm_K M7 x0 18) ∧ ∀ M9, M9 = sm_wR M7 x0 1 (some M5.1) → (sm_K M9 x0 18) ∧ ∀ M11, M11 = sm_wI M9 x0 2 (0 : Int32) → ∀ M13, M13 = sm_wI M11 x0 3 (0 : Int32) → Q (.returned none) M13) : sm_w 2 (0, [some (.ref (x0))], []) M Q := by
  obtain ⟨c1, c2, h⟩ := h
  refine sm_w.run t2 sr2 0 5 (M2 := sm_new M 1 (4000 : Int32).toNatClampNeg) (f2 := (10, [some (.ref (x0))], [.ref (M.1), .ref (x0)])) rfl ⟨trivial, ⟨sm_K.g1 c1 (sm_sh.rf _), (Nat.le_of_ble_eq_true rfl)⟩, trivial, trivial, c2, trivial⟩ ?_
  have h := h _ rfl
  generalize sm_new M 1 (4000 : Int32).toNatClampNeg = M3 at h ⊢
  obtain ⟨c4, h⟩ := h
  refine sm_w.run t2 sr2 5 1 (M2 := sm_wR M3 x0 0 (some M.1)) (f2 := (13, [some (.ref (x0))], [])) rfl ⟨⟨(sm_K.p c4 (sm_sh.rf _)).1, (sm_K.p c4 (sm_sh.rf _)).2.1, (sm_K.p c4 (sm_sh.rf _)).2.2, rfl⟩, trivial⟩ ?_
  have h := h _ rfl
  generalize sm_wR M3 x0 0 (some M.1) = M5 at h ⊢
  obtain ⟨c6, h⟩ := h
  refine sm_w.run t2 sr2 6 3 (M2 := sm_new M5 0 (4000 : Int32).toNatClampNeg) (f2 := (19, [some (.ref (x0))], [.ref (M5.1), .ref (x0)])) rfl ⟨trivial, trivial, c6, trivial⟩ ?_
  have h := h _ rfl
  generalize sm_new M5 0 (4000 : Int32).toNatClampNeg = M7 at h ⊢
  obtain ⟨c8, h⟩ := h
  refine sm_w.run t2 sr2 9 1 (M2 := sm_wR M7 x0 1 (some M5.1)) (f2 := (22, [some (.ref (x0))], [])) rfl ⟨⟨(sm_K.p c8 (sm_sh.rf _)).1, (sm_K.p c8 (sm_sh.rf _)).2.1, (sm_K.p c8 (sm_sh.rf _)).2.2, rfl⟩, trivial⟩ ?_
  have h := h _ rfl
  generalize sm_wR M7 x0 1 (some M5.1) = M9 at h ⊢
  obtain ⟨c10, h⟩ := h
  refine sm_w.run t2 sr2 10 3 (M2 := sm_wI M9 x0 2 (0 : Int32)) (f2 := (27, [some (.ref (x0))], [])) rfl ⟨trivial, trivial, ⟨(sm_K.p c10 (sm_sh.rf _)).1, (sm_K.p c10 (sm_sh.rf _)).2.1, (sm_K.p c10 (sm_sh.rf _)).2.2, Or.inl rfl⟩, trivial⟩ ?_
  have h := h _ rfl
  have s12 : sm_sh M9 (sm_wI M9 x0 2 (0 : Int32)) := sm_sh.wI (sm_sh.rf _) _ _ _
  generalize sm_wI M9 x0 2 (0 : Int32) = M11 at h s12 ⊢
  refine sm_w.run t2 sr2 13 3 (M2 := sm_wI M11 x0 3 (0 : Int32)) (f2 := (32, [some (.ref (x0))], [])) rfl ⟨trivial, trivial, ⟨(sm_K.p c10 s12).1, (sm_K.p c10 s12).2.1, (sm_K.p c10 s12).2.2, Or.inl rfl⟩, trivial⟩ ?_
  have h := h _ rfl
  have s14 : sm_sh M9 (sm_wI M11 x0 3 (0 : Int32)) := sm_sh.wI s12 _ _ _
  generalize sm_wI M11 x0 3 (0 : Int32) = M13 at h s14 ⊢
  exact sm_w.end t2 sr2 16 (o := .returned none) (M2 := M13) rfl trivial (by decide) h
-- 3 LineSetter$FontReader.<init>(LLineSetter$Bytes;)V
theorem t3 : sP 3 = (2, sp_3, sh_3) := rfl
theorem sr3 : sm_srt sp_3 = true := by decide +kernel
theorem c3_0 {M : sm_M} {x0 : Nat} {x1 : Nat} {Q : Outcome → sm_M → Prop} (h : (sm_K M x0 19) ∧ ∀ M2, M2 = sm_wR M x0 0 (some x1) → (sm_K M2 x0 19) ∧ ∀ M4, M4 = sm_wI M2 x0 1 (0 : Int32) → ∀ M6, M6 = sm_wI M4 x0 2 (-1 : Int32) → Q (.returned none) M6) : sm_w 3 (0, [some (.ref (x0)), some (.ref (x1))], []) M Q := by
  obtain ⟨c1, h⟩ := h
  refine sm_w.run t3 sr3 0 5 (M2 := sm_wR M x0 0 (some x1)) (f2 := (9, [some (.ref (x0)), some (.ref (x1))], [])) rfl ⟨trivial, ⟨sm_K.g1 c1 (sm_sh.rf _), (Nat.le_of_ble_eq_true rfl)⟩, trivial, trivial, ⟨(sm_K.p c1 (sm_sh.rf _)).1, (sm_K.p c1 (sm_sh.rf _)).2.1, (sm_K.p c1 (sm_sh.rf _)).2.2, rfl⟩, trivial⟩ ?_
  have h := h _ rfl
  generalize sm_wR M x0 0 (some x1) = M2 at h ⊢
  obtain ⟨c3, h⟩ := h
  refine sm_w.run t3 sr3 5 3 (M2 := sm_wI M2 x0 1 (0 : Int32)) (f2 := (14, [some (.ref (x0)), some (.ref (x1))], [])) rfl ⟨trivial, trivial, ⟨(sm_K.p c3 (sm_sh.rf _)).1, (sm_K.p c3 (sm_sh.rf _)).2.1, (sm_K.p c3 (sm_sh.rf _)).2.2, Or.inl rfl⟩, trivial⟩ ?_
  have h := h _ rfl
  have s5 : sm_sh M2 (sm_wI M2 x0 1 (0 : Int32)) := sm_sh.wI (sm_sh.rf _) _ _ _
  generalize sm_wI M2 x0 1 (0 : Int32) = M4 at h s5 ⊢
  refine sm_w.run t3 sr3 8 3 (M2 := sm_wI M4 x0 2 (-1 : Int32)) (f2 := (19, [some (.ref (x0)), some (.ref (x1))], [])) rfl ⟨trivial, trivial, ⟨(sm_K.p c3 s5).1, (sm_K.p c3 s5).2.1, (sm_K.p c3 s5).2.2, Or.inl rfl⟩, trivial⟩ ?_
  have h := h _ rfl
  have s7 : sm_sh M2 (sm_wI M4 x0 2 (-1 : Int32)) := sm_sh.wI s5 _ _ _
  generalize sm_wI M4 x0 2 (-1 : Int32) = M6 at h s7 ⊢
  exact sm_w.end t3 sr3 11 (o := .returned none) (M2 := M6) rfl trivial (by decide) h
-- 4 LineSetter$HyphenReader.<init>(LLineSetter$Bytes;)V
theorem t4 : sP 4 = (2, sp_4, sh_4) := rfl
theorem sr4 : sm_srt sp_4 = true := by decide +kernel
theorem c4_0 {M : sm_M} {x0 : Nat} {x1 : Nat} {Q : Outcome → sm_M → Prop} (h : (sm_K M x0 20) ∧ ∀ M2, M2 = sm_wR M x0 0 (some x1) → (sm_K M2 x0 20) ∧ ∀ M4, M4 = sm_wI M2 x0 1 (0 : Int32) → ∀ M6, M6 = sm_wI M4 x0 2 (0 : Int32) → (¬ (30 : Int32) < 0 ∧ (30 : Int32).toNatClampNeg * 8 ≤ 536870912) ∧ ∀ M9, M9 = sm_new M6 1 (30 : Int32).toNatClampNeg → (sm_K M9 x0 20) ∧ ∀ M11, M11 = sm_wR M9 x0 3 (some M6.1) → (sm_K M11 x0 20) ∧ ∀ M13, M13 = sm_wI M11 x0 4 (0 : Int32) → Q (.returned none) M13) : sm_w 4 (0, [some (.ref (x0)), some (.ref (x1))], []) M Q := by
  obtain ⟨c1, h⟩ := h
  refine sm_w.run t4 sr4 0 5 (M2 := sm_wR M x0 0 (some x1)) (f2 := (9, [some (.ref (x0)), some (.ref (x1))], [])) rfl ⟨trivial, ⟨sm_K.g1 c1 (sm_sh.rf _), (Nat.le_of_ble_eq_true rfl)⟩, trivial, trivial, ⟨(sm_K.p c1 (sm_sh.rf _)).1, (sm_K.p c1 (sm_sh.rf _)).2.1, (sm_K.p c1 (sm_sh.rf _)).2.2, rfl⟩, trivial⟩ ?_
  have h := h _ rfl
  generalize sm_wR M x0 0 (some x1) = M2 at h ⊢
  obtain ⟨c3, h⟩ := h
  refine sm_w.run t4 sr4 5 3 (M2 := sm_wI M2 x0 1 (0 : Int32)) (f2 := (14, [some (.ref (x0)), some (.ref (x1))], [])) rfl ⟨trivial, trivial, ⟨(sm_K.p c3 (sm_sh.rf _)).1, (sm_K.p c3 (sm_sh.rf _)).2.1, (sm_K.p c3 (sm_sh.rf _)).2.2, Or.inl rfl⟩, trivial⟩ ?_
  have h := h _ rfl
  have s5 : sm_sh M2 (sm_wI M2 x0 1 (0 : Int32)) := sm_sh.wI (sm_sh.rf _) _ _ _
  generalize sm_wI M2 x0 1 (0 : Int32) = M4 at h s5 ⊢
  refine sm_w.run t4 sr4 8 3 (M2 := sm_wI M4 x0 2 (0 : Int32)) (f2 := (19, [some (.ref (x0)), some (.ref (x1))], [])) rfl ⟨trivial, trivial, ⟨(sm_K.p c3 s5).1, (sm_K.p c3 s5).2.1, (sm_K.p c3 s5).2.2, Or.inl rfl⟩, trivial⟩ ?_
  have h := h _ rfl
  have s7 : sm_sh M2 (sm_wI M4 x0 2 (0 : Int32)) := sm_sh.wI s5 _ _ _
  generalize sm_wI M4 x0 2 (0 : Int32) = M6 at h s7 ⊢
  obtain ⟨c8, h⟩ := h
  refine sm_w.run t4 sr4 11 3 (M2 := sm_new M6 1 (30 : Int32).toNatClampNeg) (f2 := (24, [some (.ref (x0)), some (.ref (x1))], [.ref (M6.1), .ref (x0)])) rfl ⟨trivial, trivial, c8, trivial⟩ ?_
  have h := h _ rfl
  generalize sm_new M6 1 (30 : Int32).toNatClampNeg = M9 at h ⊢
  obtain ⟨c10, h⟩ := h
  refine sm_w.run t4 sr4 14 1 (M2 := sm_wR M9 x0 3 (some M6.1)) (f2 := (27, [some (.ref (x0)), some (.ref (x1))], [])) rfl ⟨⟨(sm_K.p c10 (sm_sh.rf _)).1, (sm_K.p c10 (sm_sh.rf _)).2.1, (sm_K.p c10 (sm_sh.rf _)).2.2, rfl⟩, trivial⟩ ?_
  have h := h _ rfl
  generalize sm_wR M9 x0 3 (some M6.1) = M11 at h ⊢
  obtain ⟨c12, h⟩ := h
  refine sm_w.run t4 sr4 15 3 (M2 := sm_wI M11 x0 4 (0 : Int32)) (f2 := (32, [some (.ref (x0)), some (.ref (x1))], [])) rfl ⟨trivial, trivial, ⟨(sm_K.p c12 (sm_sh.rf _)).1, (sm_K.p c12 (sm_sh.rf _)).2.1, (sm_K.p c12 (sm_sh.rf _)).2.2, Or.inl rfl⟩, trivial⟩ ?_
  have h := h _ rfl
  have s14 : sm_sh M11 (sm_wI M11 x0 4 (0 : Int32)) := sm_sh.wI (sm_sh.rf _) _ _ _
  generalize sm_wI M11 x0 4 (0 : Int32) = M13 at h s14 ⊢
  exact sm_w.end t4 sr4 18 (o := .returned none) (M2 := M13) rfl trivial (by decide) h
-- 5 LineSetter$Chooser.<init>()V
theorem t5 : sP 5 = (1, sp_5, sh_5) := rfl
theorem sr5 : sm_srt sp_5 = true := by decide +kernel
theorem c5_0 {M : sm_M} {x0 : Nat} {Q : Outcome → sm_M → Prop} (h : (sm_K M x0 21) ∧ (¬ (2404 : Int32) < 0 ∧ (2404 : Int32).toNatClampNeg * 8 ≤ 536870912) ∧ ∀ M3, M3 = sm_new M 2 (2404 : Int32).toNatClampNeg → (sm_K M3 x0 21) ∧ ∀ M5, M5 = sm_wR M3 x0 0 (some M.1) → (¬ (2404 : Int32) < 0 ∧ (2404 : Int32).toNatClampNeg * 8 ≤ 536870912) ∧ ∀ M7, M7 = sm_new M5 0 (2404 : Int32).toNatClampNeg → (sm_K M7 x0 21) ∧ ∀ M9, M9 = sm_wR M7 x0 1 (some M5.1) → (¬ (2404 : Int32) < 0 ∧ (2404 : Int32).toNatClampNeg * 8 ≤ 536870912) ∧ ∀ M11, M11 = sm_new M9 0 (2404 : Int32).toNatClampNeg → (sm_K M11 x0 21) ∧ ∀ M13, M13 = sm_wR M11 x0 2 (some M9.1) → ∀ M14, M14 = sm_new M13 22 11 → (sm_K M14 M13.1 22) ∧ sm_cV 6 [.ref (M13.1)] M14 (fun M16 => (sm_K M14 x0 21) ∧ ∀ M20, M20 = sm_wR M16 x0 3 (some M13.1) → Q (.returned none) M20)) : sm_w 5 (0, [some (.ref (x0))], []) M Q := by
  obtain ⟨c1, c2, h⟩ := h
  refine sm_w.run t5 sr5 0 5 (M2 := sm_new M 2 (2404 : Int32).toNatClampNeg) (f2 := (10, [some (.ref (x0))], [.ref (M.1), .ref (x0)])) rfl ⟨trivial, ⟨sm_K.g1 c1 (sm_sh.rf _), (Nat.le_of_ble_eq_true rfl)⟩, trivial, trivial, c2, trivial⟩ ?_
  have h := h _ rfl
  generalize sm_new M 2 (2404 : Int32).toNatClampNeg = M3 at h ⊢
  obtain ⟨c4, h⟩ := h
  refine sm_w.run t5 sr5 5 1 (M2 := sm_wR M3 x0 0 (some M.1)) (f2 := (13, [some (.ref (x0))], [])) rfl ⟨⟨(sm_K.p c4 (sm_sh.rf _)).1, (sm_K.p c4 (sm_sh.rf _)).2.1, (sm_K.p c4 (sm_sh.rf _)).2.2, rfl⟩, trivial⟩ ?_
  have h := h _ rfl
  generalize sm_wR M3 x0 0 (some M.1) = M5 at h ⊢
  obtain ⟨c6, h⟩ := h
  refine sm_w.run t5 sr5 6 3 (M2 := sm_new M5 0 (2404 : Int32).toNatClampNeg) (f2 := (19, [some (.ref (x0))], [.ref (M5.1), .ref (x0)])) rfl ⟨trivial, trivial, c6, trivial⟩ ?_
  have h := h _ rfl
  generalize sm_new M5 0 (2404 : Int32).toNatClampNeg = M7 at h ⊢
  obtain ⟨c8, h⟩ := h
  refine sm_w.run t5 sr5 9 1 (M2 := sm_wR M7 x0 1 (some M5.1)) (f2 := (22, [some (.ref (x0))], [])) rfl ⟨⟨(sm_K.p c8 (sm_sh.rf _)).1, (sm_K.p c8 (sm_sh.rf _)).2.1, (sm_K.p c8 (sm_sh.rf _)).2.2, rfl⟩, trivial⟩ ?_
  have h := h _ rfl
  generalize sm_wR M7 x0 1 (some M5.1) = M9 at h ⊢
  obtain ⟨c10, h⟩ := h
  refine sm_w.run t5 sr5 10 3 (M2 := sm_new M9 0 (2404 : Int32).toNatClampNeg) (f2 := (28, [some (.ref (x0))], [.ref (M9.1), .ref (x0)])) rfl ⟨trivial, trivial, c10, trivial⟩ ?_
  have h := h _ rfl
  generalize sm_new M9 0 (2404 : Int32).toNatClampNeg = M11 at h ⊢
  obtain ⟨c12, h⟩ := h
  refine sm_w.run t5 sr5 13 1 (M2 := sm_wR M11 x0 2 (some M9.1)) (f2 := (31, [some (.ref (x0))], [])) rfl ⟨⟨(sm_K.p c12 (sm_sh.rf _)).1, (sm_K.p c12 (sm_sh.rf _)).2.1, (sm_K.p c12 (sm_sh.rf _)).2.2, rfl⟩, trivial⟩ ?_
  have h := h _ rfl
  generalize sm_wR M11 x0 2 (some M9.1) = M13 at h ⊢
  refine sm_w.run t5 sr5 14 2 (M2 := sm_new M13 22 11) (f2 := (35, [some (.ref (x0))], [.ref (M13.1), .ref (x0)])) rfl ⟨trivial, trivial, trivial⟩ ?_
  have h := h _ rfl
  generalize sm_new M13 22 11 = M14 at h ⊢
  obtain ⟨c15, h⟩ := h
  refine sm_w.run t5 sr5 16 1 (M2 := M14) (f2 := (36, [some (.ref (x0))], [.ref (M13.1), .ref (M13.1), .ref (x0)])) rfl ⟨rfl, trivial⟩ ?_
  refine sm_w.cV t5 sr5 17 (i := 6) (as := [.ref (M13.1)]) (g := (36, [some (.ref (x0))], [.ref (M13.1), .ref (x0)])) rfl ⟨by decide, by decide, (Nat.le_of_ble_eq_true rfl), (sm_K.g c15 (sm_sh.rf _)).1, (sm_K.g c15 (sm_sh.rf _)).2, (Nat.le_of_ble_eq_true rfl)⟩ (Nat.le_of_ble_eq_true rfl) (by decide) (sm_cV.q (by decide) h) (fun M16 h => ?_)
  obtain ⟨s18, h⟩ := h
  have s18 := sm_sh.tr (sm_sh.rf _) s18
  obtain ⟨c19, h⟩ := h
  refine sm_w.run t5 sr5 18 1 (M2 := sm_wR M16 x0 3 (some M13.1)) (f2 := (42, [some (.ref (x0))], [])) rfl ⟨⟨(sm_K.p c19 s18).1, (sm_K.p c19 s18).2.1, (sm_K.p c19 s18).2.2, rfl⟩, trivial⟩ ?_
  have h := h _ rfl
  generalize sm_wR M16 x0 3 (some M13.1) = M20 at h ⊢
  exact sm_w.end t5 sr5 19 (o := .returned none) (M2 := M20) rfl trivial (by decide) h
-- 8 LineSetter$PairTable.<init>(I)V
theorem t8 : sP 8 = (3, sp_8, sh_8) := rfl
theorem sr8 : sm_srt sp_8 = true := by decide +kernel
theorem c8_0 {M : sm_M} {x0 : Nat} {x1 : Int32} {Q : Outcome → sm_M → Prop} (h : (sm_K M x0 24) ∧ (¬ (128 : Int32) < 0 ∧ (128 : Int32).toNatClampNeg * 8 ≤ 536870912) ∧ ∀ M3, M3 = sm_new M 0 (128 : Int32).toNatClampNeg → (sm_K M3 x0 24) ∧ ∀ M5, M5 = sm_wR M3 x0 0 (some M.1) → (¬ (if x1 < (0 : Int32) then (0 : Int32) else x1) < 0 ∧ (if x1 < (0 : Int32) then (0 : Int32) else x1).toNatClampNeg * 8 ≤ 536870912) ∧ ∀ M7, M7 = sm_new M5 0 (if x1 < (0 : Int32) then (0 : Int32) else x1).toNatClampNeg → (sm_K M7 x0 24) ∧ ∀ M9, M9 = sm_wR M7 x0 1 (some M5.1) → (¬ (if x1 < (0 : Int32) then (0 : Int32) else x1) < 0 ∧ (if x1 < (0 : Int32) then (0 : Int32) else x1).toNatClampNeg * 8 ≤ 536870912) ∧ ∀ M11, M11 = sm_new M9 0 (if x1 < (0 : Int32) then (0 : Int32) else x1).toNatClampNeg → (sm_K M11 x0 24) ∧ ∀ M13, M13 = sm_wR M11 x0 2 (some M9.1) → (¬ (if x1 < (0 : Int32) then (0 : Int32) else x1) < 0 ∧ (if x1 < (0 : Int32) then (0 : Int32) else x1).toNatClampNeg * 8 ≤ 536870912) ∧ ∀ M15, M15 = sm_new M13 0 (if x1 < (0 : Int32) then (0 : Int32) else x1).toNatClampNeg → (sm_K M15 x0 24) ∧ ∀ M17, M17 = sm_wR M15 x0 3 (some M13.1) → (sm_K M17 x0 24) ∧ ∀ M19, M19 = sm_wI M17 x0 4 (0 : Int32) → ∃ r21, sm_rv M17 x0 0 = some r21 ∧ sm_cV 9 [.ref (r21), .int ((-1 : Int32))] M19 (fun M23 => Q (.returned none) M23)) : sm_w 8 (0, [some (.ref (x0)), some (.int (x1)), none], []) M Q := by
  obtain ⟨c1, c2, h⟩ := h
  refine sm_w.run t8 sr8 0 9 (M2 := sm_new M 0 (128 : Int32).toNatClampNeg) (f2 := (16, [some (.ref (x0)), some (.int (x1)), some (.int (if x1 < (0 : Int32) then (0 : Int32) else x1))], [.ref (M.1), .ref (x0)])) rfl ⟨trivial, ⟨sm_K.g1 c1 (sm_sh.rf _), (Nat.le_of_ble_eq_true rfl)⟩, trivial, trivial, (Nat.le_of_ble_eq_true rfl), (Nat.le_of_ble_eq_true rfl), trivial, trivial, c2, trivial⟩ ?_
  have h := h _ rfl
  generalize sm_new M 0 (128 : Int32).toNatClampNeg = M3 at h ⊢
  obtain ⟨c4, h⟩ := h
  refine sm_w.run t8 sr8 9 1 (M2 := sm_wR M3 x0 0 (some M.1)) (f2 := (19, [some (.ref (x0)), some (.int (x1)), some (.int (if x1 < (0 : Int32) then (0 : Int32) else x1))], [])) rfl ⟨⟨(sm_K.p c4 (sm_sh.rf _)).1, (sm_K.p c4 (sm_sh.rf _)).2.1, (sm_K.p c4 (sm_sh.rf _)).2.2, rfl⟩, trivial⟩ ?_
  have h := h _ rfl
  generalize sm_wR M3 x0 0 (some M.1) = M5 at h ⊢
  obtain ⟨c6, h⟩ := h
  refine sm_w.run t8 sr8 10 3 (M2 := sm_new M5 0 (if x1 < (0 : Int32) then (0 : Int32) else x1).toNatClampNeg) (f2 := (23, [some (.ref (x0)), some (.int (x1)), some (.int (if x1 < (0 : Int32) then (0 : Int32) else x1))], [.ref (M5.1), .ref (x0)])) rfl ⟨trivial, trivial, c6, trivial⟩ ?_
  have h := h _ rfl
  generalize sm_new M5 0 (if x1 < (0 : Int32) then (0 : Int32) else x1).toNatClampNeg = M7 at h ⊢
  obtain ⟨c8, h⟩ := h
  refine sm_w.run t8 sr8 13 1 (M2 := sm_wR M7 x0 1 (some M5.1)) (f2 := (26, [some (.ref (x0)), some (.int (x1)), some (.int (if x1 < (0 : Int32) then (0 : Int32) else x1))], [])) rfl ⟨⟨(sm_K.p c8 (sm_sh.rf _)).1, (sm_K.p c8 (sm_sh.rf _)).2.1, (sm_K.p c8 (sm_sh.rf _)).2.2, rfl⟩, trivial⟩ ?_
  have h := h _ rfl
  generalize sm_wR M7 x0 1 (some M5.1) = M9 at h ⊢
  obtain ⟨c10, h⟩ := h
  refine sm_w.run t8 sr8 14 3 (M2 := sm_new M9 0 (if x1 < (0 : Int32) then (0 : Int32) else x1).toNatClampNeg) (f2 := (30, [some (.ref (x0)), some (.int (x1)), some (.int (if x1 < (0 : Int32) then (0 : Int32) else x1))], [.ref (M9.1), .ref (x0)])) rfl ⟨trivial, trivial, c10, trivial⟩ ?_
  have h := h _ rfl
  generalize sm_new M9 0 (if x1 < (0 : Int32) then (0 : Int32) else x1).toNatClampNeg = M11 at h ⊢
  obtain ⟨c12, h⟩ := h
  refine sm_w.run t8 sr8 17 1 (M2 := sm_wR M11 x0 2 (some M9.1)) (f2 := (33, [some (.ref (x0)), some (.int (x1)), some (.int (if x1 < (0 : Int32) then (0 : Int32) else x1))], [])) rfl ⟨⟨(sm_K.p c12 (sm_sh.rf _)).1, (sm_K.p c12 (sm_sh.rf _)).2.1, (sm_K.p c12 (sm_sh.rf _)).2.2, rfl⟩, trivial⟩ ?_
  have h := h _ rfl
  generalize sm_wR M11 x0 2 (some M9.1) = M13 at h ⊢
  obtain ⟨c14, h⟩ := h
  refine sm_w.run t8 sr8 18 3 (M2 := sm_new M13 0 (if x1 < (0 : Int32) then (0 : Int32) else x1).toNatClampNeg) (f2 := (37, [some (.ref (x0)), some (.int (x1)), some (.int (if x1 < (0 : Int32) then (0 : Int32) else x1))], [.ref (M13.1), .ref (x0)])) rfl ⟨trivial, trivial, c14, trivial⟩ ?_
  have h := h _ rfl
  generalize sm_new M13 0 (if x1 < (0 : Int32) then (0 : Int32) else x1).toNatClampNeg = M15 at h ⊢
  obtain ⟨c16, h⟩ := h
  refine sm_w.run t8 sr8 21 1 (M2 := sm_wR M15 x0 3 (some M13.1)) (f2 := (40, [some (.ref (x0)), some (.int (x1)), some (.int (if x1 < (0 : Int32) then (0 : Int32) else x1))], [])) rfl ⟨⟨(sm_K.p c16 (sm_sh.rf _)).1, (sm_K.p c16 (sm_sh.rf _)).2.1, (sm_K.p c16 (sm_sh.rf _)).2.2, rfl⟩, trivial⟩ ?_
  have h := h _ rfl
  generalize sm_wR M15 x0 3 (some M13.1) = M17 at h ⊢
  obtain ⟨c18, h⟩ := h
  refine sm_w.run t8 sr8 22 3 (M2 := sm_wI M17 x0 4 (0 : Int32)) (f2 := (45, [some (.ref (x0)), some (.int (x1)), some (.int (if x1 < (0 : Int32) then (0 : Int32) else x1))], [])) rfl ⟨trivial, trivial, ⟨(sm_K.p c18 (sm_sh.rf _)).1, (sm_K.p c18 (sm_sh.rf _)).2.1, (sm_K.p c18 (sm_sh.rf _)).2.2, Or.inl rfl⟩, trivial⟩ ?_
  have h := h _ rfl
  have s20 : sm_sh M17 (sm_wI M17 x0 4 (0 : Int32)) := sm_sh.wI (sm_sh.rf _) _ _ _
  generalize sm_wI M17 x0 4 (0 : Int32) = M19 at h s20 ⊢
  refine sm_w.run t8 sr8 25 2 (M2 := M19) (f2 := (49, [some (.ref (x0)), some (.int (x1)), some (.int (if x1 < (0 : Int32) then (0 : Int32) else x1))], [va_rf (sm_rv M19 x0 0)])) rfl ⟨trivial, sm_K.g c18 s20, trivial⟩ ?_
  obtain ⟨r21, e22, h⟩ := h
  refine sm_w.fld (sm_sh.rv s20 e22) ?_
  refine sm_w.run t8 sr8 27 1 (M2 := M19) (f2 := (50, [some (.ref (x0)), some (.int (x1)), some (.int (if x1 < (0 : Int32) then (0 : Int32) else x1))], [.int ((-1 : Int32)), .ref (r21)])) rfl ⟨trivial, trivial⟩ ?_
  refine sm_w.cV t8 sr8 28 (i := 9) (as := [.ref (r21), .int ((-1 : Int32))]) (g := (50, [some (.ref (x0)), some (.int (x1)), some (.int (if x1 < (0 : Int32) then (0 : Int32) else x1))], [])) rfl ⟨(Nat.le_of_ble_eq_true rfl), (Nat.le_of_ble_eq_true rfl)⟩ (Nat.le_of_ble_eq_true rfl) (by decide) (sm_cV.q (by decide) h) (fun M23 h => ?_)
  obtain ⟨s25, h⟩ := h
  have s25 := sm_sh.tr s20 s25
  exact sm_w.end t8 sr8 29 (o := .returned none) (M2 := M23) rfl trivial (by decide) h
-- 7 LineSetter$Font.<init>()V
theorem t7 : sP 7 = (1, sp_7, sh_7) := rfl
theorem sr7 : sm_srt sp_7 = true := by decide +kernel
theorem c7_0 {M : sm_M} {x0 : Nat} {Q : Outcome → sm_M → Prop} (h : (sm_K M x0 23) ∧ (¬ (128 : Int32) < 0 ∧ (128 : Int32).toNatClampNeg * 8 ≤ 536870912) ∧ ∀ M3, M3 = sm_new M 0 (128 : Int32).toNatClampNeg → (sm_K M3 x0 23) ∧ ∀ M5, M5 = sm_wR M3 x0 0 (some M.1) → (¬ (128 : Int32) < 0 ∧ (128 : Int32).toNatClampNeg * 8 ≤ 536870912) ∧ ∀ M7, M7 = sm_new M5 0 (128 : Int32).toNatClampNeg → (sm_K M7 x0 23) ∧ ∀ M9, M9 = sm_wR M7 x0 1 (some M5.1) → (sm_K M9 x0 23) ∧ ∀ M11, M11 = sm_wI M9 x0 2 (0 : Int32) → ∀ M13, M13 = sm_new M11 24 5 → (sm_K M13 M11.1 24) ∧ sm_cV 8 [.ref (M11.1), .int ((200 : Int32))] M13 (fun M15 => (sm_K M15 x0 23) ∧ ∀ M18, M18 = sm_wR M15 x0 3 (some M11.1) → ∀ M19, M19 = sm_new M18 24 5 → (sm_K M19 M18.1 24) ∧ sm_cV 8 [.ref (M18.1), .int ((60 : Int32))] M19 (fun M21 => (sm_K M21 x0 23) ∧ ∀ M24, M24 = sm_wR M21 x0 4 (some M18.1) → (sm_K M24 x0 23) ∧ ∃ r26, sm_rv M24 x0 0 = some r26 ∧ sm_cV 9 [.ref (r26), .int ((500 : Int32))] M24 (fun M28 => Q (.returned none) M28)))) : sm_w 7 (0, [some (.ref (x0))], []) M Q := by
  obtain ⟨c1, c2, h⟩ := h
  refine sm_w.run t7 sr7 0 5 (M2 := sm_new M 0 (128 : Int32).toNatClampNeg) (f2 := (10, [some (.ref (x0))], [.ref (M.1), .ref (x0)])) rfl ⟨trivial, ⟨sm_K.g1 c1 (sm_sh.rf _), (Nat.le_of_ble_eq_true rfl)⟩, trivial, trivial, c2, trivial⟩ ?_
  have h := h _ rfl
  generalize sm_new M 0 (128 : Int32).toNatClampNeg = M3 at h ⊢
  obtain ⟨c4, h⟩ := h
  refine sm_w.run t7 sr7 5 1 (M2 := sm_wR M3 x0 0 (some M.1)) (f2 := (13, [some (.ref (x0))], [])) rfl ⟨⟨(sm_K.p c4 (sm_sh.rf _)).1, (sm_K.p c4 (sm_sh.rf _)).2.1, (sm_K.p c4 (sm_sh.rf _)).2.2, rfl⟩, trivial⟩ ?_
  have h := h _ rfl
  generalize sm_wR M3 x0 0 (some M.1) = M5 at h ⊢
  obtain ⟨c6, h⟩ := h
  refine sm_w.run t7 sr7 6 3 (M2 := sm_new M5 0 (128 : Int32).toNatClampNeg) (f2 := (19, [some (.ref (x0))], [.ref (M5.1), .ref (x0)])) rfl ⟨trivial, trivial, c6, trivial⟩ ?_
  have h := h _ rfl
  generalize sm_new M5 0 (128 : Int32).toNatClampNeg = M7 at h ⊢
  obtain ⟨c8, h⟩ := h
  refine sm_w.run t7 sr7 9 1 (M2 := sm_wR M7 x0 1 (some M5.1)) (f2 := (22, [some (.ref (x0))], [])) rfl ⟨⟨(sm_K.p c8 (sm_sh.rf _)).1, (sm_K.p c8 (sm_sh.rf _)).2.1, (sm_K.p c8 (sm_sh.rf _)).2.2, rfl⟩, trivial⟩ ?_
  have h := h _ rfl
  generalize sm_wR M7 x0 1 (some M5.1) = M9 at h ⊢
  obtain ⟨c10, h⟩ := h
  refine sm_w.run t7 sr7 10 3 (M2 := sm_wI M9 x0 2 (0 : Int32)) (f2 := (27, [some (.ref (x0))], [])) rfl ⟨trivial, trivial, ⟨(sm_K.p c10 (sm_sh.rf _)).1, (sm_K.p c10 (sm_sh.rf _)).2.1, (sm_K.p c10 (sm_sh.rf _)).2.2, Or.inl rfl⟩, trivial⟩ ?_
  have h := h _ rfl
  have s12 : sm_sh M9 (sm_wI M9 x0 2 (0 : Int32)) := sm_sh.wI (sm_sh.rf _) _ _ _
  generalize sm_wI M9 x0 2 (0 : Int32) = M11 at h s12 ⊢
  refine sm_w.run t7 sr7 13 2 (M2 := sm_new M11 24 5) (f2 := (31, [some (.ref (x0))], [.ref (M11.1), .ref (x0)])) rfl ⟨trivial, trivial, trivial⟩ ?_
  have h := h _ rfl
  generalize sm_new M11 24 5 = M13 at h ⊢
  obtain ⟨c14, h⟩ := h
  refine sm_w.run t7 sr7 15 2 (M2 := M13) (f2 := (35, [some (.ref (x0))], [.int ((200 : Int32)), .ref (M11.1), .ref (M11.1), .ref (x0)])) rfl ⟨rfl, trivial, trivial⟩ ?_
  refine sm_w.cV t7 sr7 17 (i := 8) (as := [.ref (M11.1), .int ((200 : Int32))]) (g := (35, [some (.ref (x0))], [.ref (M11.1), .ref (x0)])) rfl ⟨by decide, by decide, (Nat.le_of_ble_eq_true rfl), (sm_K.g c14 (sm_sh.rf _)).1, (sm_K.g c14 (sm_sh.rf _)).2, (Nat.le_of_ble_eq_true rfl)⟩ (Nat.le_of_ble_eq_true rfl) (by decide) h (fun M15 h => ?_)
  obtain ⟨c17, h⟩ := h
  refine sm_w.run t7 sr7 18 1 (M2 := sm_wR M15 x0 3 (some M11.1)) (f2 := (41, [some (.ref (x0))], [])) rfl ⟨⟨(sm_K.p c17 (sm_sh.rf _)).1, (sm_K.p c17 (sm_sh.rf _)).2.1, (sm_K.p c17 (sm_sh.rf _)).2.2, rfl⟩, trivial⟩ ?_
  have h := h _ rfl
  generalize sm_wR M15 x0 3 (some M11.1) = M18 at h ⊢
  refine sm_w.run t7 sr7 19 2 (M2 := sm_new M18 24 5) (f2 := (45, [some (.ref (x0))], [.ref (M18.1), .ref (x0)])) rfl ⟨trivial, trivial, trivial⟩ ?_
  have h := h _ rfl
  generalize sm_new M18 24 5 = M19 at h ⊢
  obtain ⟨c20, h⟩ := h
  refine sm_w.run t7 sr7 21 2 (M2 := M19) (f2 := (48, [some (.ref (x0))], [.int ((60 : Int32)), .ref (M18.1), .ref (M18.1), .ref (x0)])) rfl ⟨rfl, trivial, trivial⟩ ?_
  refine sm_w.cV t7 sr7 23 (i := 8) (as := [.ref (M18.1), .int ((60 : Int32))]) (g := (48, [some (.ref (x0))], [.ref (M18.1), .ref (x0)])) rfl ⟨by decide, by decide, (Nat.le_of_ble_eq_true rfl), (sm_K.g c20 (sm_sh.rf _)).1, (sm_K.g c20 (sm_sh.rf _)).2, (Nat.le_of_ble_eq_true rfl)⟩ (Nat.le_of_ble_eq_true rfl) (by decide) h (fun M21 h => ?_)
  obtain ⟨c23, h⟩ := h
  refine sm_w.run t7 sr7 24 1 (M2 := sm_wR M21 x0 4 (some M18.1)) (f2 := (54, [some (.ref (x0))], [])) rfl ⟨⟨(sm_K.p c23 (sm_sh.rf _)).1, (sm_K.p c23 (sm_sh.rf _)).2.1, (sm_K.p c23 (sm_sh.rf _)).2.2, rfl⟩, trivial⟩ ?_
  have h := h _ rfl
  generalize sm_wR M21 x0 4 (some M18.1) = M24 at h ⊢
  obtain ⟨c25, h⟩ := h
  refine sm_w.run t7 sr7 25 2 (M2 := M24) (f2 := (58, [some (.ref (x0))], [va_rf (sm_rv M24 x0 0)])) rfl ⟨trivial, sm_K.g c25 (sm_sh.rf _), trivial⟩ ?_
  obtain ⟨r26, e27, h⟩ := h
  refine sm_w.fld (sm_sh.rv (sm_sh.rf _) e27) ?_
  refine sm_w.run t7 sr7 27 1 (M2 := M24) (f2 := (61, [some (.ref (x0))], [.int ((500 : Int32)), .ref (r26)])) rfl ⟨trivial, trivial⟩ ?_
  refine sm_w.cV t7 sr7 28 (i := 9) (as := [.ref (r26), .int ((500 : Int32))]) (g := (61, [some (.ref (x0))], [])) rfl ⟨(Nat.le_of_ble_eq_true rfl), (Nat.le_of_ble_eq_true rfl)⟩ (Nat.le_of_ble_eq_true rfl) (by decide) (sm_cV.q (by decide) h) (fun M28 h => ?_)
  obtain ⟨s30, h⟩ := h
  have s30 := sm_sh.tr (sm_sh.rf _) s30
  exact sm_w.end t7 sr7 29 (o := .returned none) (M2 := M28) rfl trivial (by decide) h
theorem c11_0 {M : sm_M} {x0 : Nat} {Q : Outcome → sm_M → Prop} (h : (sm_K M x0 25) ∧ ∃ r2, sm_rv M x0 0 = some r2 ∧ (sm_K M r2 0) ∧ (vp_in (0 : Int32) (sm_ln M r2)) ∧ ∀ M6, M6 = sm_wI M r2 (0 : Int32).toNatClampNeg (-1 : Int32) → ∃ r8, sm_rv M x0 1 = some r8 ∧ (sm_K M r8 0) ∧ (vp_in (0 : Int32) (sm_ln M r8)) ∧ ∀ M12, M12 = sm_wI M6 r8 (0 : Int32).toNatClampNeg (-1 : Int32) → ∃ r14, sm_rv M x0 3 = some r14 ∧ (sm_K M r14 0) ∧ (vp_in (0 : Int32) (sm_ln M r14)) ∧ ∀ M18, M18 = sm_wI M12 r14 (0 : Int32).toNatClampNeg (-1 : Int32) → ∀ M20, M20 = sm_wI M18 x0 4 (1 : Int32) → ∀ M22, M22 = sm_wI M20 x0 6 (0 : Int32) → ∀ M24, M24 = sm_wI M22 x0 10 (0 : Int32) → ∀ M26, M26 = sm_wI M24 x0 11 (2 : Int32) → ∀ M28, M28 = sm_wI M26 x0 12 (3 : Int32) → Q (.returned none) M28) : sm_w 11 (0, [some (.ref (x0))], []) M Q := by
  obtain ⟨c1, h⟩ := h
  refine sm_w.run t11 sr11 0 2 (M2 := M) (f2 := (4, [some (.ref (x0))], [va_rf (sm_rv M x0 0)])) rfl ⟨trivial, sm_K.g c1 (sm_sh.rf _), trivial⟩ ?_
  obtain ⟨r2, e3, h⟩ := h
  refine sm_w.fld (sm_sh.rv (sm_sh.rf _) e3) ?_
  obtain ⟨c4, c5, h⟩ := h
  refine sm_w.run t11 sr11 2 3 (M2 := sm_wI M r2 (0 : Int32).toNatClampNeg (-1 : Int32)) (f2 := (7, [some (.ref (x0))], [])) rfl ⟨trivial, trivial, sm_K.s c4 (sm_sh.rf _) c5, trivial⟩ ?_
  have h := h _ rfl
  have s7 : sm_sh M (sm_wI M r2 (0 : Int32).toNatClampNeg (-1 : Int32)) := sm_sh.wI (sm_sh.rf _) _ _ _
  generalize sm_wI M r2 (0 : Int32).toNatClampNeg (-1 : Int32) = M6 at h s7 ⊢
  refine sm_w.run t11 sr11 5 2 (M2 := M6) (f2 := (11, [some (.ref (x0))], [va_rf (sm_rv M6 x0 1)])) rfl ⟨trivial, sm_K.g c1 s7, trivial⟩ ?_
  obtain ⟨r8, e9, h⟩ := h
  refine sm_w.fld (sm_sh.rv s7 e9) ?_
  obtain ⟨c10, c11, h⟩ := h
  refine sm_w.run t11 sr11 7 3 (M2 := sm_wI M6 r8 (0 : Int32).toNatClampNeg (-1 : Int32)) (f2 := (14, [some (.ref (x0))], [])) rfl ⟨trivial, trivial, sm_K.s c10 s7 c11, trivial⟩ ?_
  have h := h _ rfl
  have s13 : sm_sh M (sm_wI M6 r8 (0 : Int32).toNatClampNeg (-1 : Int32)) := sm_sh.wI s7 _ _ _
  generalize sm_wI M6 r8 (0 : Int32).toNatClampNeg (-1 : Int32) = M12 at h s13 ⊢
  refine sm_w.run t11 sr11 10 2 (M2 := M12) (f2 := (18, [some (.ref (x0))], [va_rf (sm_rv M12 x0 3)])) rfl ⟨trivial, sm_K.g c1 s13, trivial⟩ ?_
  obtain ⟨r14, e15, h⟩ := h
  refine sm_w.fld (sm_sh.rv s13 e15) ?_
  obtain ⟨c16, c17, h⟩ := h
  refine sm_w.run t11 sr11 12 3 (M2 := sm_wI M12 r14 (0 : Int32).toNatClampNeg (-1 : Int32)) (f2 := (21, [some (.ref (x0))], [])) rfl ⟨trivial, trivial, sm_K.s c16 s13 c17, trivial⟩ ?_
  have h := h _ rfl
  have s19 : sm_sh M (sm_wI M12 r14 (0 : Int32).toNatClampNeg (-1 : Int32)) := sm_sh.wI s13 _ _ _
  generalize sm_wI M12 r14 (0 : Int32).toNatClampNeg (-1 : Int32) = M18 at h s19 ⊢
  refine sm_w.run t11 sr11 15 3 (M2 := sm_wI M18 x0 4 (1 : Int32)) (f2 := (26, [some (.ref (x0))], [])) rfl ⟨trivial, trivial, ⟨(sm_K.p c1 s19).1, (sm_K.p c1 s19).2.1, (sm_K.p c1 s19).2.2, Or.inl rfl⟩, trivial⟩ ?_
  have h := h _ rfl
  have s21 : sm_sh M (sm_wI M18 x0 4 (1 : Int32)) := sm_sh.wI s19 _ _ _
  generalize sm_wI M18 x0 4 (1 : Int32) = M20 at h s21 ⊢
  refine sm_w.run t11 sr11 18 3 (M2 := sm_wI M20 x0 6 (0 : Int32)) (f2 := (31, [some (.ref (x0))], [])) rfl ⟨trivial, trivial, ⟨(sm_K.p c1 s21).1, (sm_K.p c1 s21).2.1, (sm_K.p c1 s21).2.2, Or.inl rfl⟩, trivial⟩ ?_
  have h := h _ rfl
  have s23 : sm_sh M (sm_wI M20 x0 6 (0 : Int32)) := sm_sh.wI s21 _ _ _
  generalize sm_wI M20 x0 6 (0 : Int32) = M22 at h s23 ⊢
  refine sm_w.run t11 sr11 21 3 (M2 := sm_wI M22 x0 10 (0 : Int32)) (f2 := (36, [some (.ref (x0))], [])) rfl ⟨trivial, trivial, ⟨(sm_K.p c1 s23).1, (sm_K.p c1 s23).2.1, (sm_K.p c1 s23).2.2, Or.inl rfl⟩, trivial⟩ ?_
  have h := h _ rfl
  have s25 : sm_sh M (sm_wI M22 x0 10 (0 : Int32)) := sm_sh.wI s23 _ _ _
  generalize sm_wI M22 x0 10 (0 : Int32) = M24 at h s25 ⊢
  refine sm_w.run t11 sr11 24 3 (M2 := sm_wI M24 x0 11 (2 : Int32)) (f2 := (41, [some (.ref (x0))], [])) rfl ⟨trivial, trivial, ⟨(sm_K.p c1 s25).1, (sm_K.p c1 s25).2.1, (sm_K.p c1 s25).2.2, Or.inl rfl⟩, trivial⟩ ?_
  have h := h _ rfl
  have s27 : sm_sh M (sm_wI M24 x0 11 (2 : Int32)) := sm_sh.wI s25 _ _ _
  generalize sm_wI M24 x0 11 (2 : Int32) = M26 at h s27 ⊢
  refine sm_w.run t11 sr11 27 3 (M2 := sm_wI M26 x0 12 (3 : Int32)) (f2 := (46, [some (.ref (x0))], [])) rfl ⟨trivial, trivial, ⟨(sm_K.p c1 s27).1, (sm_K.p c1 s27).2.1, (sm_K.p c1 s27).2.2, Or.inl rfl⟩, trivial⟩ ?_
  have h := h _ rfl
  have s29 : sm_sh M (sm_wI M26 x0 12 (3 : Int32)) := sm_sh.wI s27 _ _ _
  generalize sm_wI M26 x0 12 (3 : Int32) = M28 at h s29 ⊢
  exact sm_w.end t11 sr11 30 (o := .returned none) (M2 := M28) rfl trivial (by decide) h
-- 10 LineSetter$HyphenTable.<init>()V
theorem t10 : sP 10 = (1, sp_10, sh_10) := rfl
theorem sr10 : sm_srt sp_10 = true := by decide +kernel
theorem c10_0 {M : sm_M} {x0 : Nat} {Q : Outcome → sm_M → Prop} (h : (sm_K M x0 25) ∧ (¬ (4201 : Int32) < 0 ∧ (4201 : Int32).toNatClampNeg * 8 ≤ 536870912) ∧ ∀ M3, M3 = sm_new M 0 (4201 : Int32).toNatClampNeg → (sm_K M3 x0 25) ∧ ∀ M5, M5 = sm_wR M3 x0 0 (some M.1) → (¬ (4201 : Int32) < 0 ∧ (4201 : Int32).toNatClampNeg * 8 ≤ 536870912) ∧ ∀ M7, M7 = sm_new M5 0 (4201 : Int32).toNatClampNeg → (sm_K M7 x0 25) ∧ ∀ M9, M9 = sm_wR M7 x0 1 (some M5.1) → (¬ (4201 : Int32) < 0 ∧ (4201 : Int32).toNatClampNeg * 8 ≤ 536870912) ∧ ∀ M11, M11 = sm_new M9 1 (4201 : Int32).toNatClampNeg → (sm_K M11 x0 25) ∧ ∀ M13, M13 = sm_wR M11 x0 2 (some M9.1) → (¬ (4201 : Int32) < 0 ∧ (4201 : Int32).toNatClampNeg * 8 ≤ 536870912) ∧ ∀ M15, M15 = sm_new M13 0 (4201 : Int32).toNatClampNeg → (sm_K M15 x0 25) ∧ ∀ M17, M17 = sm_wR M15 x0 3 (some M13.1) → (¬ (300 : Int32) < 0 ∧ (300 : Int32).toNatClampNeg * 8 ≤ 536870912) ∧ ∀ M19, M19 = sm_new M17 2 (300 : Int32).toNatClampNeg → (sm_K M19 x0 25) ∧ ∀ M21, M21 = sm_wR M19 x0 5 (some M17.1) → (¬ (1800 : Int32) < 0 ∧ (1800 : Int32).toNatClampNeg * 8 ≤ 536870912) ∧ ∀ M23, M23 = sm_new M21 1 (1800 : Int32).toNatClampNeg → (sm_K M23 x0 25) ∧ ∀ M25, M25 = sm_wR M23 x0 7 (some M21.1) → (¬ (60 : Int32) < 0 ∧ (60 : Int32).toNatClampNeg * 8 ≤ 536870912) ∧ ∀ M27, M27 = sm_new M25 0 (60 : Int32).toNatClampNeg → (sm_K M27 x0 25) ∧ ∀ M29, M29 = sm_wR M27 x0 8 (some M25.1) → (¬ (60 : Int32) < 0 ∧ (60 : Int32).toNatClampNeg * 8 ≤ 536870912) ∧ ∀ M31, M31 = sm_new M29 0 (60 : Int32).toNatClampNeg → (sm_K M31 x0 25) ∧ ∀ M33, M33 = sm_wR M31 x0 9 (some M29.1) → (¬ (4001 : Int32) < 0 ∧ (4001 : Int32).toNatClampNeg * 8 ≤ 536870912) ∧ ∀ M35, M35 = sm_new M33 0 (4001 : Int32).toNatClampNeg → (sm_K M35 x0 25) ∧ ∀ M37, M37 = sm_wR M35 x0 13 (some M33.1) → (sm_K M37 x0 25) ∧ sm_cV 11 [.ref (x0)] M37 (fun M39 => Q (.returned none) M39)) : sm_w 10 (0, [some (.ref (x0))], []) M Q := by
  obtain ⟨c1, c2, h⟩ := h
  refine sm_w.run t10 sr10 0 5 (M2 := sm_new M 0 (4201 : Int32).toNatClampNeg) (f2 := (10, [some (.ref (x0))], [.ref (M.1), .ref (x0)])) rfl ⟨trivial, ⟨sm_K.g1 c1 (sm_sh.rf _), (Nat.le_of_ble_eq_true rfl)⟩, trivial, trivial, c2, trivial⟩ ?_
  have h := h _ rfl
  generalize sm_new M 0 (4201 : Int32).toNatClampNeg = M3 at h ⊢
  obtain ⟨c4, h⟩ := h
  refine sm_w.run t10 sr10 5 1 (M2 := sm_wR M3 x0 0 (some M.1)) (f2 := (13, [some (.ref (x0))], [])) rfl ⟨⟨(sm_K.p c4 (sm_sh.rf _)).1, (sm_K.p c4 (sm_sh.rf _)).2.1, (sm_K.p c4 (sm_sh.rf _)).2.2, rfl⟩, trivial⟩ ?_
  have h := h _ rfl
  generalize sm_wR M3 x0 0 (some M.1) = M5 at h ⊢
  obtain ⟨c6, h⟩ := h
  refine sm_w.run t10 sr10 6 3 (M2 := sm_new M5 0 (4201 : Int32).toNatClampNeg) (f2 := (19, [some (.ref (x0))], [.ref (M5.1), .ref (x0)])) rfl ⟨trivial, trivial, c6, trivial⟩ ?_
  have h := h _ rfl
  generalize sm_new M5 0 (4201 : Int32).toNatClampNeg = M7 at h ⊢
  obtain ⟨c8, h⟩ := h
  refine sm_w.run t10 sr10 9 1 (M2 := sm_wR M7 x0 1 (some M5.1)) (f2 := (22, [some (.ref (x0))], [])) rfl ⟨⟨(sm_K.p c8 (sm_sh.rf _)).1, (sm_K.p c8 (sm_sh.rf _)).2.1, (sm_K.p c8 (sm_sh.rf _)).2.2, rfl⟩, trivial⟩ ?_
  have h := h _ rfl
  generalize sm_wR M7 x0 1 (some M5.1) = M9 at h ⊢
  obtain ⟨c10, h⟩ := h
  refine sm_w.run t10 sr10 10 3 (M2 := sm_new M9 1 (4201 : Int32).toNatClampNeg) (f2 := (28, [some (.ref (x0))], [.ref (M9.1), .ref (x0)])) rfl ⟨trivial, trivial, c10, trivial⟩ ?_
  have h := h _ rfl
  generalize sm_new M9 1 (4201 : Int32).toNatClampNeg = M11 at h ⊢
  obtain ⟨c12, h⟩ := h
  refine sm_w.run t10 sr10 13 1 (M2 := sm_wR M11 x0 2 (some M9.1)) (f2 := (31, [some (.ref (x0))], [])) rfl ⟨⟨(sm_K.p c12 (sm_sh.rf _)).1, (sm_K.p c12 (sm_sh.rf _)).2.1, (sm_K.p c12 (sm_sh.rf _)).2.2, rfl⟩, trivial⟩ ?_
  have h := h _ rfl
  generalize sm_wR M11 x0 2 (some M9.1) = M13 at h ⊢
  obtain ⟨c14, h⟩ := h
  refine sm_w.run t10 sr10 14 3 (M2 := sm_new M13 0 (4201 : Int32).toNatClampNeg) (f2 := (37, [some (.ref (x0))], [.ref (M13.1), .ref (x0)])) rfl ⟨trivial, trivial, c14, trivial⟩ ?_
  have h := h _ rfl
  generalize sm_new M13 0 (4201 : Int32).toNatClampNeg = M15 at h ⊢
  obtain ⟨c16, h⟩ := h
  refine sm_w.run t10 sr10 17 1 (M2 := sm_wR M15 x0 3 (some M13.1)) (f2 := (40, [some (.ref (x0))], [])) rfl ⟨⟨(sm_K.p c16 (sm_sh.rf _)).1, (sm_K.p c16 (sm_sh.rf _)).2.1, (sm_K.p c16 (sm_sh.rf _)).2.2, rfl⟩, trivial⟩ ?_
  have h := h _ rfl
  generalize sm_wR M15 x0 3 (some M13.1) = M17 at h ⊢
  obtain ⟨c18, h⟩ := h
  refine sm_w.run t10 sr10 18 3 (M2 := sm_new M17 2 (300 : Int32).toNatClampNeg) (f2 := (46, [some (.ref (x0))], [.ref (M17.1), .ref (x0)])) rfl ⟨trivial, trivial, c18, trivial⟩ ?_
  have h := h _ rfl
  generalize sm_new M17 2 (300 : Int32).toNatClampNeg = M19 at h ⊢
  obtain ⟨c20, h⟩ := h
  refine sm_w.run t10 sr10 21 1 (M2 := sm_wR M19 x0 5 (some M17.1)) (f2 := (49, [some (.ref (x0))], [])) rfl ⟨⟨(sm_K.p c20 (sm_sh.rf _)).1, (sm_K.p c20 (sm_sh.rf _)).2.1, (sm_K.p c20 (sm_sh.rf _)).2.2, rfl⟩, trivial⟩ ?_
  have h := h _ rfl
  generalize sm_wR M19 x0 5 (some M17.1) = M21 at h ⊢
  obtain ⟨c22, h⟩ := h
  refine sm_w.run t10 sr10 22 3 (M2 := sm_new M21 1 (1800 : Int32).toNatClampNeg) (f2 := (55, [some (.ref (x0))], [.ref (M21.1), .ref (x0)])) rfl ⟨trivial, trivial, c22, trivial⟩ ?_
  have h := h _ rfl
  generalize sm_new M21 1 (1800 : Int32).toNatClampNeg = M23 at h ⊢
  obtain ⟨c24, h⟩ := h
  refine sm_w.run t10 sr10 25 1 (M2 := sm_wR M23 x0 7 (some M21.1)) (f2 := (58, [some (.ref (x0))], [])) rfl ⟨⟨(sm_K.p c24 (sm_sh.rf _)).1, (sm_K.p c24 (sm_sh.rf _)).2.1, (sm_K.p c24 (sm_sh.rf _)).2.2, rfl⟩, trivial⟩ ?_
  have h := h _ rfl
  generalize sm_wR M23 x0 7 (some M21.1) = M25 at h ⊢
  obtain ⟨c26, h⟩ := h
  refine sm_w.run t10 sr10 26 3 (M2 := sm_new M25 0 (60 : Int32).toNatClampNeg) (f2 := (63, [some (.ref (x0))], [.ref (M25.1), .ref (x0)])) rfl ⟨trivial, trivial, c26, trivial⟩ ?_
  have h := h _ rfl
  generalize sm_new M25 0 (60 : Int32).toNatClampNeg = M27 at h ⊢
  obtain ⟨c28, h⟩ := h
  refine sm_w.run t10 sr10 29 1 (M2 := sm_wR M27 x0 8 (some M25.1)) (f2 := (66, [some (.ref (x0))], [])) rfl ⟨⟨(sm_K.p c28 (sm_sh.rf _)).1, (sm_K.p c28 (sm_sh.rf _)).2.1, (sm_K.p c28 (sm_sh.rf _)).2.2, rfl⟩, trivial⟩ ?_
  have h := h _ rfl
  generalize sm_wR M27 x0 8 (some M25.1) = M29 at h ⊢
  obtain ⟨c30, h⟩ := h
  refine sm_w.run t10 sr10 30 3 (M2 := sm_new M29 0 (60 : Int32).toNatClampNeg) (f2 := (71, [some (.ref (x0))], [.ref (M29.1), .ref (x0)])) rfl ⟨trivial, trivial, c30, trivial⟩ ?_
  have h := h _ rfl
  generalize sm_new M29 0 (60 : Int32).toNatClampNeg = M31 at h ⊢
  obtain ⟨c32, h⟩ := h
  refine sm_w.run t10 sr10 33 1 (M2 := sm_wR M31 x0 9 (some M29.1)) (f2 := (74, [some (.ref (x0))], [])) rfl ⟨⟨(sm_K.p c32 (sm_sh.rf _)).1, (sm_K.p c32 (sm_sh.rf _)).2.1, (sm_K.p c32 (sm_sh.rf _)).2.2, rfl⟩, trivial⟩ ?_
  have h := h _ rfl
  generalize sm_wR M31 x0 9 (some M29.1) = M33 at h ⊢
  obtain ⟨c34, h⟩ := h
  refine sm_w.run t10 sr10 34 3 (M2 := sm_new M33 0 (4001 : Int32).toNatClampNeg) (f2 := (80, [some (.ref (x0))], [.ref (M33.1), .ref (x0)])) rfl ⟨trivial, trivial, c34, trivial⟩ ?_
  have h := h _ rfl
  generalize sm_new M33 0 (4001 : Int32).toNatClampNeg = M35 at h ⊢
  obtain ⟨c36, h⟩ := h
  refine sm_w.run t10 sr10 37 1 (M2 := sm_wR M35 x0 13 (some M33.1)) (f2 := (83, [some (.ref (x0))], [])) rfl ⟨⟨(sm_K.p c36 (sm_sh.rf _)).1, (sm_K.p c36 (sm_sh.rf _)).2.1, (sm_K.p c36 (sm_sh.rf _)).2.2, rfl⟩, trivial⟩ ?_
  have h := h _ rfl
  generalize sm_wR M35 x0 13 (some M33.1) = M37 at h ⊢
  obtain ⟨c38, h⟩ := h
  refine sm_w.run t10 sr10 38 1 (M2 := M37) (f2 := (84, [some (.ref (x0))], [.ref (x0)])) rfl ⟨trivial, trivial⟩ ?_
  refine sm_w.cV t10 sr10 39 (i := 11) (as := [.ref (x0)]) (g := (84, [some (.ref (x0))], [])) rfl ⟨by decide, by decide, (Nat.le_of_ble_eq_true rfl), (sm_K.g c38 (sm_sh.rf _)).1, (sm_K.g c38 (sm_sh.rf _)).2, (Nat.le_of_ble_eq_true rfl)⟩ (Nat.le_of_ble_eq_true rfl) (by decide) (sm_cV.q (by decide) h) (fun M39 h => ?_)
  obtain ⟨s41, h⟩ := h
  have s41 := sm_sh.tr (sm_sh.rf _) s41
  exact sm_w.end t10 sr10 40 (o := .returned none) (M2 := M39) rfl trivial (by decide) h
-- 13 LineSetter$Breaks.<init>()V
theorem t13 : sP 13 = (1, sp_13, sh_13) := rfl
theorem sr13 : sm_srt sp_13 = true := by decide +kernel
theorem c13_0 {M : sm_M} {x0 : Nat} {Q : Outcome → sm_M → Prop} (h : (sm_K M x0 27) ∧ (¬ (4000 : Int32) < 0 ∧ (4000 : Int32).toNatClampNeg * 8 ≤ 536870912) ∧ ∀ M3, M3 = sm_new M 1 (4000 : Int32).toNatClampNeg → (sm_K M3 x0 27) ∧ ∀ M5, M5 = sm_wR M3 x0 0 (some M.1) → (sm_K M5 x0 27) ∧ ∀ M7, M7 = sm_wI M5 x0 1 (0 : Int32) → (¬ (4001 : Int32) < 0 ∧ (4001 : Int32).toNatClampNeg * 8 ≤ 536870912) ∧ ∀ M10, M10 = sm_new M7 0 (4001 : Int32).toNatClampNeg → (sm_K M10 x0 27) ∧ ∀ M12, M12 = sm_wR M10 x0 2 (some M7.1) → (sm_K M12 x0 27) ∧ ∀ M14, M14 = sm_wI M12 x0 3 (0 : Int32) → (¬ (601 : Int32) < 0 ∧ (601 : Int32).toNatClampNeg * 8 ≤ 536870912) ∧ ∀ M17, M17 = sm_new M14 0 (601 : Int32).toNatClampNeg → (sm_K M17 x0 27) ∧ ∀ M19, M19 = sm_wR M17 x0 4 (some M14.1) → (¬ (601 : Int32) < 0 ∧ (601 : Int32).toNatClampNeg * 8 ≤ 536870912) ∧ ∀ M21, M21 = sm_new M19 0 (601 : Int32).toNatClampNeg → (sm_K M21 x0 27) ∧ ∀ M23, M23 = sm_wR M21 x0 5 (some M19.1) → (¬ (601 : Int32) < 0 ∧ (601 : Int32).toNatClampNeg * 8 ≤ 536870912) ∧ ∀ M25, M25 = sm_new M23 0 (601 : Int32).toNatClampNeg → (sm_K M25 x0 27) ∧ ∀ M27, M27 = sm_wR M25 x0 6 (some M23.1) → (¬ (601 : Int32) < 0 ∧ (601 : Int32).toNatClampNeg * 8 ≤ 536870912) ∧ ∀ M29, M29 = sm_new M27 0 (601 : Int32).toNatClampNeg → (sm_K M29 x0 27) ∧ ∀ M31, M31 = sm_wR M29 x0 7 (some M27.1) → (¬ (601 : Int32) < 0 ∧ (601 : Int32).toNatClampNeg * 8 ≤ 536870912) ∧ ∀ M33, M33 = sm_new M31 2 (601 : Int32).toNatClampNeg → (sm_K M33 x0 27) ∧ ∀ M35, M35 = sm_wR M33 x0 8 (some M31.1) → (¬ (601 : Int32) < 0 ∧ (601 : Int32).toNatClampNeg * 8 ≤ 536870912) ∧ ∀ M37, M37 = sm_new M35 2 (601 : Int32).toNatClampNeg → (sm_K M37 x0 27) ∧ ∀ M39, M39 = sm_wR M37 x0 9 (some M35.1) → (¬ (601 : Int32) < 0 ∧ (601 : Int32).toNatClampNeg * 8 ≤ 536870912) ∧ ∀ M41, M41 = sm_new M39 2 (601 : Int32).toNatClampNeg → (sm_K M41 x0 27) ∧ ∀ M43, M43 = sm_wR M41 x0 10 (some M39.1) → (¬ (601 : Int32) < 0 ∧ (601 : Int32).toNatClampNeg * 8 ≤ 536870912) ∧ ∀ M45, M45 = sm_new M43 2 (601 : Int32).toNatClampNeg → (sm_K M45 x0 27) ∧ ∀ M47, M47 = sm_wR M45 x0 11 (some M43.1) → (sm_K M47 x0 27) ∧ ∀ M49, M49 = sm_wJ M47 x0 12 (0 : Int64) → Q (.returned none) M49) : sm_w 13 (0, [some (.ref (x0))], []) M Q := by
  obtain ⟨c1, c2, h⟩ := h
  refine sm_w.run t13 sr13 0 5 (M2 := sm_new M 1 (4000 : Int32).toNatClampNeg) (f2 := (10, [some (.ref (x0))], [.ref (M.1), .ref (x0)])) rfl ⟨trivial, ⟨sm_K.g1 c1 (sm_sh.rf _), (Nat.le_of_ble_eq_true rfl)⟩, trivial, trivial, c2, trivial⟩ ?_
  have h := h _ rfl
  generalize sm_new M 1 (4000 : Int32).toNatClampNeg = M3 at h ⊢
  obtain ⟨c4, h⟩ := h
  refine sm_w.run t13 sr13 5 1 (M2 := sm_wR M3 x0 0 (some M.1)) (f2 := (13, [some (.ref (x0))], [])) rfl ⟨⟨(sm_K.p c4 (sm_sh.rf _)).1, (sm_K.p c4 (sm_sh.rf _)).2.1, (sm_K.p c4 (sm_sh.rf _)).2.2, rfl⟩, trivial⟩ ?_
  have h := h _ rfl
  generalize sm_wR M3 x0 0 (some M.1) = M5 at h ⊢
  obtain ⟨c6, h⟩ := h
  refine sm_w.run t13 sr13 6 3 (M2 := sm_wI M5 x0 1 (0 : Int32)) (f2 := (18, [some (.ref (x0))], [])) rfl ⟨trivial, trivial, ⟨(sm_K.p c6 (sm_sh.rf _)).1, (sm_K.p c6 (sm_sh.rf _)).2.1, (sm_K.p c6 (sm_sh.rf _)).2.2, Or.inl rfl⟩, trivial⟩ ?_
  have h := h _ rfl
  have s8 : sm_sh M5 (sm_wI M5 x0 1 (0 : Int32)) := sm_sh.wI (sm_sh.rf _) _ _ _
  generalize sm_wI M5 x0 1 (0 : Int32) = M7 at h s8 ⊢
  obtain ⟨c9, h⟩ := h
  refine sm_w.run t13 sr13 9 3 (M2 := sm_new M7 0 (4001 : Int32).toNatClampNeg) (f2 := (24, [some (.ref (x0))], [.ref (M7.1), .ref (x0)])) rfl ⟨trivial, trivial, c9, trivial⟩ ?_
  have h := h _ rfl
  generalize sm_new M7 0 (4001 : Int32).toNatClampNeg = M10 at h ⊢
  obtain ⟨c11, h⟩ := h
  refine sm_w.run t13 sr13 12 1 (M2 := sm_wR M10 x0 2 (some M7.1)) (f2 := (27, [some (.ref (x0))], [])) rfl ⟨⟨(sm_K.p c11 (sm_sh.rf _)).1, (sm_K.p c11 (sm_sh.rf _)).2.1, (sm_K.p c11 (sm_sh.rf _)).2.2, rfl⟩, trivial⟩ ?_
  have h := h _ rfl
  generalize sm_wR M10 x0 2 (some M7.1) = M12 at h ⊢
  obtain ⟨c13, h⟩ := h
  refine sm_w.run t13 sr13 13 3 (M2 := sm_wI M12 x0 3 (0 : Int32)) (f2 := (32, [some (.ref (x0))], [])) rfl ⟨trivial, trivial, ⟨(sm_K.p c13 (sm_sh.rf _)).1, (sm_K.p c13 (sm_sh.rf _)).2.1, (sm_K.p c13 (sm_sh.rf _)).2.2, Or.inl rfl⟩, trivial⟩ ?_
  have h := h _ rfl
  have s15 : sm_sh M12 (sm_wI M12 x0 3 (0 : Int32)) := sm_sh.wI (sm_sh.rf _) _ _ _
  generalize sm_wI M12 x0 3 (0 : Int32) = M14 at h s15 ⊢
  obtain ⟨c16, h⟩ := h
  refine sm_w.run t13 sr13 16 3 (M2 := sm_new M14 0 (601 : Int32).toNatClampNeg) (f2 := (38, [some (.ref (x0))], [.ref (M14.1), .ref (x0)])) rfl ⟨trivial, trivial, c16, trivial⟩ ?_
  have h := h _ rfl
  generalize sm_new M14 0 (601 : Int32).toNatClampNeg = M17 at h ⊢
  obtain ⟨c18, h⟩ := h
  refine sm_w.run t13 sr13 19 1 (M2 := sm_wR M17 x0 4 (some M14.1)) (f2 := (41, [some (.ref (x0))], [])) rfl ⟨⟨(sm_K.p c18 (sm_sh.rf _)).1, (sm_K.p c18 (sm_sh.rf _)).2.1, (sm_K.p c18 (sm_sh.rf _)).2.2, rfl⟩, trivial⟩ ?_
  have h := h _ rfl
  generalize sm_wR M17 x0 4 (some M14.1) = M19 at h ⊢
  obtain ⟨c20, h⟩ := h
  refine sm_w.run t13 sr13 20 3 (M2 := sm_new M19 0 (601 : Int32).toNatClampNeg) (f2 := (47, [some (.ref (x0))], [.ref (M19.1), .ref (x0)])) rfl ⟨trivial, trivial, c20, trivial⟩ ?_
  have h := h _ rfl
  generalize sm_new M19 0 (601 : Int32).toNatClampNeg = M21 at h ⊢
  obtain ⟨c22, h⟩ := h
  refine sm_w.run t13 sr13 23 1 (M2 := sm_wR M21 x0 5 (some M19.1)) (f2 := (50, [some (.ref (x0))], [])) rfl ⟨⟨(sm_K.p c22 (sm_sh.rf _)).1, (sm_K.p c22 (sm_sh.rf _)).2.1, (sm_K.p c22 (sm_sh.rf _)).2.2, rfl⟩, trivial⟩ ?_
  have h := h _ rfl
  generalize sm_wR M21 x0 5 (some M19.1) = M23 at h ⊢
  obtain ⟨c24, h⟩ := h
  refine sm_w.run t13 sr13 24 3 (M2 := sm_new M23 0 (601 : Int32).toNatClampNeg) (f2 := (56, [some (.ref (x0))], [.ref (M23.1), .ref (x0)])) rfl ⟨trivial, trivial, c24, trivial⟩ ?_
  have h := h _ rfl
  generalize sm_new M23 0 (601 : Int32).toNatClampNeg = M25 at h ⊢
  obtain ⟨c26, h⟩ := h
  refine sm_w.run t13 sr13 27 1 (M2 := sm_wR M25 x0 6 (some M23.1)) (f2 := (59, [some (.ref (x0))], [])) rfl ⟨⟨(sm_K.p c26 (sm_sh.rf _)).1, (sm_K.p c26 (sm_sh.rf _)).2.1, (sm_K.p c26 (sm_sh.rf _)).2.2, rfl⟩, trivial⟩ ?_
  have h := h _ rfl
  generalize sm_wR M25 x0 6 (some M23.1) = M27 at h ⊢
  obtain ⟨c28, h⟩ := h
  refine sm_w.run t13 sr13 28 3 (M2 := sm_new M27 0 (601 : Int32).toNatClampNeg) (f2 := (65, [some (.ref (x0))], [.ref (M27.1), .ref (x0)])) rfl ⟨trivial, trivial, c28, trivial⟩ ?_
  have h := h _ rfl
  generalize sm_new M27 0 (601 : Int32).toNatClampNeg = M29 at h ⊢
  obtain ⟨c30, h⟩ := h
  refine sm_w.run t13 sr13 31 1 (M2 := sm_wR M29 x0 7 (some M27.1)) (f2 := (68, [some (.ref (x0))], [])) rfl ⟨⟨(sm_K.p c30 (sm_sh.rf _)).1, (sm_K.p c30 (sm_sh.rf _)).2.1, (sm_K.p c30 (sm_sh.rf _)).2.2, rfl⟩, trivial⟩ ?_
  have h := h _ rfl
  generalize sm_wR M29 x0 7 (some M27.1) = M31 at h ⊢
  obtain ⟨c32, h⟩ := h
  refine sm_w.run t13 sr13 32 3 (M2 := sm_new M31 2 (601 : Int32).toNatClampNeg) (f2 := (74, [some (.ref (x0))], [.ref (M31.1), .ref (x0)])) rfl ⟨trivial, trivial, c32, trivial⟩ ?_
  have h := h _ rfl
  generalize sm_new M31 2 (601 : Int32).toNatClampNeg = M33 at h ⊢
  obtain ⟨c34, h⟩ := h
  refine sm_w.run t13 sr13 35 1 (M2 := sm_wR M33 x0 8 (some M31.1)) (f2 := (77, [some (.ref (x0))], [])) rfl ⟨⟨(sm_K.p c34 (sm_sh.rf _)).1, (sm_K.p c34 (sm_sh.rf _)).2.1, (sm_K.p c34 (sm_sh.rf _)).2.2, rfl⟩, trivial⟩ ?_
  have h := h _ rfl
  generalize sm_wR M33 x0 8 (some M31.1) = M35 at h ⊢
  obtain ⟨c36, h⟩ := h
  refine sm_w.run t13 sr13 36 3 (M2 := sm_new M35 2 (601 : Int32).toNatClampNeg) (f2 := (83, [some (.ref (x0))], [.ref (M35.1), .ref (x0)])) rfl ⟨trivial, trivial, c36, trivial⟩ ?_
  have h := h _ rfl
  generalize sm_new M35 2 (601 : Int32).toNatClampNeg = M37 at h ⊢
  obtain ⟨c38, h⟩ := h
  refine sm_w.run t13 sr13 39 1 (M2 := sm_wR M37 x0 9 (some M35.1)) (f2 := (86, [some (.ref (x0))], [])) rfl ⟨⟨(sm_K.p c38 (sm_sh.rf _)).1, (sm_K.p c38 (sm_sh.rf _)).2.1, (sm_K.p c38 (sm_sh.rf _)).2.2, rfl⟩, trivial⟩ ?_
  have h := h _ rfl
  generalize sm_wR M37 x0 9 (some M35.1) = M39 at h ⊢
  obtain ⟨c40, h⟩ := h
  refine sm_w.run t13 sr13 40 3 (M2 := sm_new M39 2 (601 : Int32).toNatClampNeg) (f2 := (92, [some (.ref (x0))], [.ref (M39.1), .ref (x0)])) rfl ⟨trivial, trivial, c40, trivial⟩ ?_
  have h := h _ rfl
  generalize sm_new M39 2 (601 : Int32).toNatClampNeg = M41 at h ⊢
  obtain ⟨c42, h⟩ := h
  refine sm_w.run t13 sr13 43 1 (M2 := sm_wR M41 x0 10 (some M39.1)) (f2 := (95, [some (.ref (x0))], [])) rfl ⟨⟨(sm_K.p c42 (sm_sh.rf _)).1, (sm_K.p c42 (sm_sh.rf _)).2.1, (sm_K.p c42 (sm_sh.rf _)).2.2, rfl⟩, trivial⟩ ?_
  have h := h _ rfl
  generalize sm_wR M41 x0 10 (some M39.1) = M43 at h ⊢
  obtain ⟨c44, h⟩ := h
  refine sm_w.run t13 sr13 44 3 (M2 := sm_new M43 2 (601 : Int32).toNatClampNeg) (f2 := (101, [some (.ref (x0))], [.ref (M43.1), .ref (x0)])) rfl ⟨trivial, trivial, c44, trivial⟩ ?_
  have h := h _ rfl
  generalize sm_new M43 2 (601 : Int32).toNatClampNeg = M45 at h ⊢
  obtain ⟨c46, h⟩ := h
  refine sm_w.run t13 sr13 47 1 (M2 := sm_wR M45 x0 11 (some M43.1)) (f2 := (104, [some (.ref (x0))], [])) rfl ⟨⟨(sm_K.p c46 (sm_sh.rf _)).1, (sm_K.p c46 (sm_sh.rf _)).2.1, (sm_K.p c46 (sm_sh.rf _)).2.2, rfl⟩, trivial⟩ ?_
  have h := h _ rfl
  generalize sm_wR M45 x0 11 (some M43.1) = M47 at h ⊢
  obtain ⟨c48, h⟩ := h
  refine sm_w.run t13 sr13 48 3 (M2 := sm_wJ M47 x0 12 (0 : Int64)) (f2 := (109, [some (.ref (x0))], [])) rfl ⟨trivial, trivial, ⟨(sm_K.p c48 (sm_sh.rf _)).1, (sm_K.p c48 (sm_sh.rf _)).2.1, (sm_K.p c48 (sm_sh.rf _)).2.2, rfl⟩, trivial⟩ ?_
  have h := h _ rfl
  have s50 : sm_sh M47 (sm_wJ M47 x0 12 (0 : Int64)) := sm_sh.wJ (sm_sh.rf _) _ _ _
  generalize sm_wJ M47 x0 12 (0 : Int64) = M49 at h s50 ⊢
  exact sm_w.end t13 sr13 51 (o := .returned none) (M2 := M49) rfl trivial (by decide) h
-- 12 LineSetter$Setting.<init>()V
theorem t12 : sP 12 = (1, sp_12, sh_12) := rfl
theorem sr12 : sm_srt sp_12 = true := by decide +kernel
theorem c12_0 {M : sm_M} {x0 : Nat} {Q : Outcome → sm_M → Prop} (h : (sm_K M x0 26) ∧ ∀ M2, M2 = sm_new M 27 13 → (sm_K M2 M.1 27) ∧ sm_cV 13 [.ref (M.1)] M2 (fun M4 => (sm_K M4 x0 26) ∧ ∀ M7, M7 = sm_wR M4 x0 0 (some M.1) → (¬ (600 : Int32) < 0 ∧ (600 : Int32).toNatClampNeg * 8 ≤ 536870912) ∧ ∀ M9, M9 = sm_new M7 0 (600 : Int32).toNatClampNeg → (sm_K M9 x0 26) ∧ ∀ M11, M11 = sm_wR M9 x0 7 (some M7.1) → (¬ (600 : Int32) < 0 ∧ (600 : Int32).toNatClampNeg * 8 ≤ 536870912) ∧ ∀ M13, M13 = sm_new M11 2 (600 : Int32).toNatClampNeg → (sm_K M13 x0 26) ∧ ∀ M15, M15 = sm_wR M13 x0 8 (some M11.1) → Q (.returned none) M15)) : sm_w 12 (0, [some (.ref (x0))], []) M Q := by
  obtain ⟨c1, h⟩ := h
  refine sm_w.run t12 sr12 0 4 (M2 := sm_new M 27 13) (f2 := (8, [some (.ref (x0))], [.ref (M.1), .ref (x0)])) rfl ⟨trivial, ⟨sm_K.g1 c1 (sm_sh.rf _), (Nat.le_of_ble_eq_true rfl)⟩, trivial, trivial, trivial⟩ ?_
  have h := h _ rfl
  generalize sm_new M 27 13 = M2 at h ⊢
  obtain ⟨c3, h⟩ := h
  refine sm_w.run t12 sr12 4 1 (M2 := M2) (f2 := (9, [some (.ref (x0))], [.ref (M.1), .ref (M.1), .ref (x0)])) rfl ⟨rfl, trivial⟩ ?_
  refine sm_w.cV t12 sr12 5 (i := 13) (as := [.ref (M.1)]) (g := (9, [some (.ref (x0))], [.ref (M.1), .ref (x0)])) rfl ⟨by decide, by decide, (Nat.le_of_ble_eq_true rfl), (sm_K.g c3 (sm_sh.rf _)).1, (sm_K.g c3 (sm_sh.rf _)).2, (Nat.le_of_ble_eq_true rfl)⟩ (Nat.le_of_ble_eq_true rfl) (by decide) h (fun M4 h => ?_)
  obtain ⟨c6, h⟩ := h
  refine sm_w.run t12 sr12 6 1 (M2 := sm_wR M4 x0 0 (some M.1)) (f2 := (15, [some (.ref (x0))], [])) rfl ⟨⟨(sm_K.p c6 (sm_sh.rf _)).1, (sm_K.p c6 (sm_sh.rf _)).2.1, (sm_K.p c6 (sm_sh.rf _)).2.2, rfl⟩, trivial⟩ ?_
  have h := h _ rfl
  generalize sm_wR M4 x0 0 (some M.1) = M7 at h ⊢
  obtain ⟨c8, h⟩ := h
  refine sm_w.run t12 sr12 7 3 (M2 := sm_new M7 0 (600 : Int32).toNatClampNeg) (f2 := (21, [some (.ref (x0))], [.ref (M7.1), .ref (x0)])) rfl ⟨trivial, trivial, c8, trivial⟩ ?_
  have h := h _ rfl
  generalize sm_new M7 0 (600 : Int32).toNatClampNeg = M9 at h ⊢
  obtain ⟨c10, h⟩ := h
  refine sm_w.run t12 sr12 10 1 (M2 := sm_wR M9 x0 7 (some M7.1)) (f2 := (24, [some (.ref (x0))], [])) rfl ⟨⟨(sm_K.p c10 (sm_sh.rf _)).1, (sm_K.p c10 (sm_sh.rf _)).2.1, (sm_K.p c10 (sm_sh.rf _)).2.2, rfl⟩, trivial⟩ ?_
  have h := h _ rfl
  generalize sm_wR M9 x0 7 (some M7.1) = M11 at h ⊢
  obtain ⟨c12, h⟩ := h
  refine sm_w.run t12 sr12 11 3 (M2 := sm_new M11 2 (600 : Int32).toNatClampNeg) (f2 := (30, [some (.ref (x0))], [.ref (M11.1), .ref (x0)])) rfl ⟨trivial, trivial, c12, trivial⟩ ?_
  have h := h _ rfl
  generalize sm_new M11 2 (600 : Int32).toNatClampNeg = M13 at h ⊢
  obtain ⟨c14, h⟩ := h
  refine sm_w.run t12 sr12 14 1 (M2 := sm_wR M13 x0 8 (some M11.1)) (f2 := (33, [some (.ref (x0))], [])) rfl ⟨⟨(sm_K.p c14 (sm_sh.rf _)).1, (sm_K.p c14 (sm_sh.rf _)).2.1, (sm_K.p c14 (sm_sh.rf _)).2.2, rfl⟩, trivial⟩ ?_
  have h := h _ rfl
  generalize sm_wR M13 x0 8 (some M11.1) = M15 at h ⊢
  exact sm_w.end t12 sr12 15 (o := .returned none) (M2 := M15) rfl trivial (by decide) h
-- 0 LineSetter.<init>()V
theorem t0 : sP 0 = (1, sp_0, sh_0) := rfl
theorem sr0 : sm_srt sp_0 = true := by decide +kernel
theorem c0_0 {M : sm_M} {x0 : Nat} {Q : Outcome → sm_M → Prop} (h : (sm_K M x0 16) ∧ ∀ M2, M2 = sm_new M 17 2 → (sm_K M2 M.1 17) ∧ sm_cV 1 [.ref (M.1), .int ((8192 : Int32))] M2 (fun M4 => (sm_K M4 x0 16) ∧ ∀ M7, M7 = sm_wR M4 x0 0 (some M.1) → ∀ M8, M8 = sm_new M7 17 2 → (sm_K M8 M7.1 17) ∧ sm_cV 1 [.ref (M7.1), .int ((6000 : Int32))] M8 (fun M10 => (sm_K M10 x0 16) ∧ ∀ M13, M13 = sm_wR M10 x0 1 (some M7.1) → (¬ (8192 : Int32) < 0 ∧ (8192 : Int32).toNatClampNeg * 8 ≤ 536870912) ∧ ∀ M15, M15 = sm_new M13 0 (8192 : Int32).toNatClampNeg → (sm_K M15 x0 16) ∧ ∀ M17, M17 = sm_wR M15 x0 2 (some M13.1) → (¬ (61 : Int32) < 0 ∧ (61 : Int32).toNatClampNeg * 8 ≤ 536870912) ∧ ∀ M19, M19 = sm_new M17 0 (61 : Int32).toNatClampNeg → (sm_K M19 x0 16) ∧ ∀ M21, M21 = sm_wR M19 x0 3 (some M17.1) → ∀ M22, M22 = sm_new M21 18 4 → (sm_K M22 M21.1 18) ∧ sm_cV 2 [.ref (M21.1)] M22 (fun M24 => (sm_K M24 x0 16) ∧ ∀ M27, M27 = sm_wR M24 x0 4 (some M21.1) → ∀ M28, M28 = sm_new M27 19 3 → (sm_K M28 x0 16) ∧ ∃ r30, sm_rv M28 x0 0 = some r30 ∧ (sm_K M28 M27.1 19) ∧ sm_cV 3 [.ref (M27.1), .ref (r30)] M28 (fun M33 => (sm_K M33 x0 16) ∧ ∀ M36, M36 = sm_wR M33 x0 5 (some M27.1) → ∀ M37, M37 = sm_new M36 20 5 → (sm_K M37 x0 16) ∧ ∃ r39, sm_rv M37 x0 0 = some r39 ∧ (sm_K M37 M36.1 20) ∧ sm_cV 4 [.ref (M36.1), .ref (r39)] M37 (fun M42 => (sm_K M42 x0 16) ∧ ∀ M45, M45 = sm_wR M42 x0 6 (some M36.1) → ∀ M46, M46 = sm_new M45 21 4 → (sm_K M46 M45.1 21) ∧ sm_cV 5 [.ref (M45.1)] M46 (fun M48 => (sm_K M48 x0 16) ∧ ∀ M51, M51 = sm_wR M48 x0 7 (some M45.1) → ∀ M52, M52 = sm_new M51 22 11 → (sm_K M52 M51.1 22) ∧ sm_cV 6 [.ref (M51.1)] M52 (fun M54 => (sm_K M52 x0 16) ∧ ∀ M58, M58 = sm_wR M54 x0 8 (some M51.1) → ∀ M59, M59 = sm_new M58 23 5 → (sm_K M59 M58.1 23) ∧ sm_cV 7 [.ref (M58.1)] M59 (fun M61 => (sm_K M61 x0 16) ∧ ∀ M64, M64 = sm_wR M61 x0 9 (some M58.1) → ∀ M65, M65 = sm_new M64 23 5 → (sm_K M65 M64.1 23) ∧ sm_cV 7 [.ref (M64.1)] M65 (fun M67 => (sm_K M67 x0 16) ∧ ∀ M70, M70 = sm_wR M67 x0 10 (some M64.1) → ∀ M71, M71 = sm_new M70 25 14 → (sm_K M71 M70.1 25) ∧ sm_cV 10 [.ref (M70.1)] M71 (fun M73 => (sm_K M73 x0 16) ∧ ∀ M76, M76 = sm_wR M73 x0 11 (some M70.1) → ∀ M77, M77 = sm_new M76 25 14 → (sm_K M77 M76.1 25) ∧ sm_cV 10 [.ref (M76.1)] M77 (fun M79 => (sm_K M79 x0 16) ∧ ∀ M82, M82 = sm_wR M79 x0 12 (some M76.1) → ∀ M83, M83 = sm_new M82 26 9 → (sm_K M83 M82.1 26) ∧ sm_cV 12 [.ref (M82.1)] M83 (fun M85 => (sm_K M85 x0 16) ∧ ∀ M88, M88 = sm_wR M85 x0 13 (some M82.1) → ∀ M89, M89 = sm_new M88 26 9 → (sm_K M89 M88.1 26) ∧ sm_cV 12 [.ref (M88.1)] M89 (fun M91 => (sm_K M91 x0 16) ∧ ∀ M94, M94 = sm_wR M91 x0 14 (some M88.1) → (sm_K M94 x0 16) ∧ ∀ M96, M96 = sm_wI M94 x0 15 (0 : Int32) → ∀ M98, M98 = sm_wI M96 x0 16 (-1 : Int32) → Q (.returned none) M98)))))))))))))) : sm_w 0 (0, [some (.ref (x0))], []) M Q := by
  obtain ⟨c1, h⟩ := h
  refine sm_w.run t0 sr0 0 4 (M2 := sm_new M 17 2) (f2 := (8, [some (.ref (x0))], [.ref (M.1), .ref (x0)])) rfl ⟨trivial, ⟨sm_K.g1 c1 (sm_sh.rf _), (Nat.le_of_ble_eq_true rfl)⟩, trivial, trivial, trivial⟩ ?_
  have h := h _ rfl
  generalize sm_new M 17 2 = M2 at h ⊢
  obtain ⟨c3, h⟩ := h
  refine sm_w.run t0 sr0 4 2 (M2 := M2) (f2 := (12, [some (.ref (x0))], [.int ((8192 : Int32)), .ref (M.1), .ref (M.1), .ref (x0)])) rfl ⟨rfl, trivial, trivial⟩ ?_
  refine sm_w.cV t0 sr0 6 (i := 1) (as := [.ref (M.1), .int ((8192 : Int32))]) (g := (12, [some (.ref (x0))], [.ref (M.1), .ref (x0)])) rfl ⟨by decide, by decide, (Nat.le_of_ble_eq_true rfl), (sm_K.g c3 (sm_sh.rf _)).1, (sm_K.g c3 (sm_sh.rf _)).2, (Nat.le_of_ble_eq_true rfl)⟩ (Nat.le_of_ble_eq_true rfl) (by decide) h (fun M4 h => ?_)
  obtain ⟨c6, h⟩ := h
  refine sm_w.run t0 sr0 7 1 (M2 := sm_wR M4 x0 0 (some M.1)) (f2 := (18, [some (.ref (x0))], [])) rfl ⟨⟨(sm_K.p c6 (sm_sh.rf _)).1, (sm_K.p c6 (sm_sh.rf _)).2.1, (sm_K.p c6 (sm_sh.rf _)).2.2, rfl⟩, trivial⟩ ?_
  have h := h _ rfl
  generalize sm_wR M4 x0 0 (some M.1) = M7 at h ⊢
  refine sm_w.run t0 sr0 8 2 (M2 := sm_new M7 17 2) (f2 := (22, [some (.ref (x0))], [.ref (M7.1), .ref (x0)])) rfl ⟨trivial, trivial, trivial⟩ ?_
  have h := h _ rfl
  generalize sm_new M7 17 2 = M8 at h ⊢
  obtain ⟨c9, h⟩ := h
  refine sm_w.run t0 sr0 10 2 (M2 := M8) (f2 := (26, [some (.ref (x0))], [.int ((6000 : Int32)), .ref (M7.1), .ref (M7.1), .ref (x0)])) rfl ⟨rfl, trivial, trivial⟩ ?_
  refine sm_w.cV t0 sr0 12 (i := 1) (as := [.ref (M7.1), .int ((6000 : Int32))]) (g := (26, [some (.ref (x0))], [.ref (M7.1), .ref (x0)])) rfl ⟨by decide, by decide, (Nat.le_of_ble_eq_true rfl), (sm_K.g c9 (sm_sh.rf _)).1, (sm_K.g c9 (sm_sh.rf _)).2, (Nat.le_of_ble_eq_true rfl)⟩ (Nat.le_of_ble_eq_true rfl) (by decide) h (fun M10 h => ?_)
  obtain ⟨c12, h⟩ := h
  refine sm_w.run t0 sr0 13 1 (M2 := sm_wR M10 x0 1 (some M7.1)) (f2 := (32, [some (.ref (x0))], [])) rfl ⟨⟨(sm_K.p c12 (sm_sh.rf _)).1, (sm_K.p c12 (sm_sh.rf _)).2.1, (sm_K.p c12 (sm_sh.rf _)).2.2, rfl⟩, trivial⟩ ?_
  have h := h _ rfl
  generalize sm_wR M10 x0 1 (some M7.1) = M13 at h ⊢
  obtain ⟨c14, h⟩ := h
  refine sm_w.run t0 sr0 14 3 (M2 := sm_new M13 0 (8192 : Int32).toNatClampNeg) (f2 := (38, [some (.ref (x0))], [.ref (M13.1), .ref (x0)])) rfl ⟨trivial, trivial, c14, trivial⟩ ?_
  have h := h _ rfl
  generalize sm_new M13 0 (8192 : Int32).toNatClampNeg = M15 at h ⊢
  obtain ⟨c16, h⟩ := h
  refine sm_w.run t0 sr0 17 1 (M2 := sm_wR M15 x0 2 (some M13.1)) (f2 := (41, [some (.ref (x0))], [])) rfl ⟨⟨(sm_K.p c16 (sm_sh.rf _)).1, (sm_K.p c16 (sm_sh.rf _)).2.1, (sm_K.p c16 (sm_sh.rf _)).2.2, rfl⟩, trivial⟩ ?_
  have h := h _ rfl
  generalize sm_wR M15 x0 2 (some M13.1) = M17 at h ⊢
  obtain ⟨c18, h⟩ := h
  refine sm_w.run t0 sr0 18 3 (M2 := sm_new M17 0 (61 : Int32).toNatClampNeg) (f2 := (46, [some (.ref (x0))], [.ref (M17.1), .ref (x0)])) rfl ⟨trivial, trivial, c18, trivial⟩ ?_
  have h := h _ rfl
  generalize sm_new M17 0 (61 : Int32).toNatClampNeg = M19 at h ⊢
  obtain ⟨c20, h⟩ := h
  refine sm_w.run t0 sr0 21 1 (M2 := sm_wR M19 x0 3 (some M17.1)) (f2 := (49, [some (.ref (x0))], [])) rfl ⟨⟨(sm_K.p c20 (sm_sh.rf _)).1, (sm_K.p c20 (sm_sh.rf _)).2.1, (sm_K.p c20 (sm_sh.rf _)).2.2, rfl⟩, trivial⟩ ?_
  have h := h _ rfl
  generalize sm_wR M19 x0 3 (some M17.1) = M21 at h ⊢
  refine sm_w.run t0 sr0 22 2 (M2 := sm_new M21 18 4) (f2 := (53, [some (.ref (x0))], [.ref (M21.1), .ref (x0)])) rfl ⟨trivial, trivial, trivial⟩ ?_
  have h := h _ rfl
  generalize sm_new M21 18 4 = M22 at h ⊢
  obtain ⟨c23, h⟩ := h
  refine sm_w.run t0 sr0 24 1 (M2 := M22) (f2 := (54, [some (.ref (x0))], [.ref (M21.1), .ref (M21.1), .ref (x0)])) rfl ⟨rfl, trivial⟩ ?_
  refine sm_w.cV t0 sr0 25 (i := 2) (as := [.ref (M21.1)]) (g := (54, [some (.ref (x0))], [.ref (M21.1), .ref (x0)])) rfl ⟨by decide, by decide, (Nat.le_of_ble_eq_true rfl), (sm_K.g c23 (sm_sh.rf _)).1, (sm_K.g c23 (sm_sh.rf _)).2, (Nat.le_of_ble_eq_true rfl)⟩ (Nat.le_of_ble_eq_true rfl) (by decide) h (fun M24 h => ?_)
  obtain ⟨c26, h⟩ := h
  refine sm_w.run t0 sr0 26 1 (M2 := sm_wR M24 x0 4 (some M21.1)) (f2 := (60, [some (.ref (x0))], [])) rfl ⟨⟨(sm_K.p c26 (sm_sh.rf _)).1, (sm_K.p c26 (sm_sh.rf _)).2.1, (sm_K.p c26 (sm_sh.rf _)).2.2, rfl⟩, trivial⟩ ?_
  have h := h _ rfl
  generalize sm_wR M24 x0 4 (some M21.1) = M27 at h ⊢
  refine sm_w.run t0 sr0 27 2 (M2 := sm_new M27 19 3) (f2 := (64, [some (.ref (x0))], [.ref (M27.1), .ref (x0)])) rfl ⟨trivial, trivial, trivial⟩ ?_
  have h := h _ rfl
  generalize sm_new M27 19 3 = M28 at h ⊢
  obtain ⟨c29, h⟩ := h
  refine sm_w.run t0 sr0 29 3 (M2 := M28) (f2 := (69, [some (.ref (x0))], [va_rf (sm_rv M28 x0 0), .ref (M27.1), .ref (M27.1), .ref (x0)])) rfl ⟨rfl, trivial, sm_K.g c29 (sm_sh.rf _), trivial⟩ ?_
  obtain ⟨r30, e31, h⟩ := h
  refine sm_w.fld (sm_sh.rv (sm_sh.rf _) e31) ?_
  obtain ⟨c32, h⟩ := h
  refine sm_w.cV t0 sr0 32 (i := 3) (as := [.ref (M27.1), .ref (r30)]) (g := (69, [some (.ref (x0))], [.ref (M27.1), .ref (x0)])) rfl ⟨by decide, by decide, (Nat.le_of_ble_eq_true rfl), (sm_K.g c32 (sm_sh.rf _)).1, (sm_K.g c32 (sm_sh.rf _)).2, (Nat.le_of_ble_eq_true rfl)⟩ (Nat.le_of_ble_eq_true rfl) (by decide) h (fun M33 h => ?_)
  obtain ⟨c35, h⟩ := h
  refine sm_w.run t0 sr0 33 1 (M2 := sm_wR M33 x0 5 (some M27.1)) (f2 := (75, [some (.ref (x0))], [])) rfl ⟨⟨(sm_K.p c35 (sm_sh.rf _)).1, (sm_K.p c35 (sm_sh.rf _)).2.1, (sm_K.p c35 (sm_sh.rf _)).2.2, rfl⟩, trivial⟩ ?_
  have h := h _ rfl
  generalize sm_wR M33 x0 5 (some M27.1) = M36 at h ⊢
  refine sm_w.run t0 sr0 34 2 (M2 := sm_new M36 20 5) (f2 := (79, [some (.ref (x0))], [.ref (M36.1), .ref (x0)])) rfl ⟨trivial, trivial, trivial⟩ ?_
  have h := h _ rfl
  generalize sm_new M36 20 5 = M37 at h ⊢
  obtain ⟨c38, h⟩ := h
  refine sm_w.run t0 sr0 36 3 (M2 := M37) (f2 := (84, [some (.ref (x0))], [va_rf (sm_rv M37 x0 0), .ref (M36.1), .ref (M36.1), .ref (x0)])) rfl ⟨rfl, trivial, sm_K.g c38 (sm_sh.rf _), trivial⟩ ?_
  obtain ⟨r39, e40, h⟩ := h
  refine sm_w.fld (sm_sh.rv (sm_sh.rf _) e40) ?_
  obtain ⟨c41, h⟩ := h
  refine sm_w.cV t0 sr0 39 (i := 4) (as := [.ref (M36.1), .ref (r39)]) (g := (84, [some (.ref (x0))], [.ref (M36.1), .ref (x0)])) rfl ⟨by decide, by decide, (Nat.le_of_ble_eq_true rfl), (sm_K.g c41 (sm_sh.rf _)).1, (sm_K.g c41 (sm_sh.rf _)).2, (Nat.le_of_ble_eq_true rfl)⟩ (Nat.le_of_ble_eq_true rfl) (by decide) h (fun M42 h => ?_)
  obtain ⟨c44, h⟩ := h
  refine sm_w.run t0 sr0 40 1 (M2 := sm_wR M42 x0 6 (some M36.1)) (f2 := (90, [some (.ref (x0))], [])) rfl ⟨⟨(sm_K.p c44 (sm_sh.rf _)).1, (sm_K.p c44 (sm_sh.rf _)).2.1, (sm_K.p c44 (sm_sh.rf _)).2.2, rfl⟩, trivial⟩ ?_
  have h := h _ rfl
  generalize sm_wR M42 x0 6 (some M36.1) = M45 at h ⊢
  refine sm_w.run t0 sr0 41 2 (M2 := sm_new M45 21 4) (f2 := (94, [some (.ref (x0))], [.ref (M45.1), .ref (x0)])) rfl ⟨trivial, trivial, trivial⟩ ?_
  have h := h _ rfl
  generalize sm_new M45 21 4 = M46 at h ⊢
  obtain ⟨c47, h⟩ := h
  refine sm_w.run t0 sr0 43 1 (M2 := M46) (f2 := (95, [some (.ref (x0))], [.ref (M45.1), .ref (M45.1), .ref (x0)])) rfl ⟨rfl, trivial⟩ ?_
  refine sm_w.cV t0 sr0 44 (i := 5) (as := [.ref (M45.1)]) (g := (95, [some (.ref (x0))], [.ref (M45.1), .ref (x0)])) rfl ⟨by decide, by decide, (Nat.le_of_ble_eq_true rfl), (sm_K.g c47 (sm_sh.rf _)).1, (sm_K.g c47 (sm_sh.rf _)).2, (Nat.le_of_ble_eq_true rfl)⟩ (Nat.le_of_ble_eq_true rfl) (by decide) h (fun M48 h => ?_)
  obtain ⟨c50, h⟩ := h
  refine sm_w.run t0 sr0 45 1 (M2 := sm_wR M48 x0 7 (some M45.1)) (f2 := (101, [some (.ref (x0))], [])) rfl ⟨⟨(sm_K.p c50 (sm_sh.rf _)).1, (sm_K.p c50 (sm_sh.rf _)).2.1, (sm_K.p c50 (sm_sh.rf _)).2.2, rfl⟩, trivial⟩ ?_
  have h := h _ rfl
  generalize sm_wR M48 x0 7 (some M45.1) = M51 at h ⊢
  refine sm_w.run t0 sr0 46 2 (M2 := sm_new M51 22 11) (f2 := (105, [some (.ref (x0))], [.ref (M51.1), .ref (x0)])) rfl ⟨trivial, trivial, trivial⟩ ?_
  have h := h _ rfl
  generalize sm_new M51 22 11 = M52 at h ⊢
  obtain ⟨c53, h⟩ := h
  refine sm_w.run t0 sr0 48 1 (M2 := M52) (f2 := (106, [some (.ref (x0))], [.ref (M51.1), .ref (M51.1), .ref (x0)])) rfl ⟨rfl, trivial⟩ ?_
  refine sm_w.cV t0 sr0 49 (i := 6) (as := [.ref (M51.1)]) (g := (106, [some (.ref (x0))], [.ref (M51.1), .ref (x0)])) rfl ⟨by decide, by decide, (Nat.le_of_ble_eq_true rfl), (sm_K.g c53 (sm_sh.rf _)).1, (sm_K.g c53 (sm_sh.rf _)).2, (Nat.le_of_ble_eq_true rfl)⟩ (Nat.le_of_ble_eq_true rfl) (by decide) (sm_cV.q (by decide) h) (fun M54 h => ?_)
  obtain ⟨s56, h⟩ := h
  have s56 := sm_sh.tr (sm_sh.rf _) s56
  obtain ⟨c57, h⟩ := h
  refine sm_w.run t0 sr0 50 1 (M2 := sm_wR M54 x0 8 (some M51.1)) (f2 := (112, [some (.ref (x0))], [])) rfl ⟨⟨(sm_K.p c57 s56).1, (sm_K.p c57 s56).2.1, (sm_K.p c57 s56).2.2, rfl⟩, trivial⟩ ?_
  have h := h _ rfl
  generalize sm_wR M54 x0 8 (some M51.1) = M58 at h ⊢
  refine sm_w.run t0 sr0 51 2 (M2 := sm_new M58 23 5) (f2 := (116, [some (.ref (x0))], [.ref (M58.1), .ref (x0)])) rfl ⟨trivial, trivial, trivial⟩ ?_
  have h := h _ rfl
  generalize sm_new M58 23 5 = M59 at h ⊢
  obtain ⟨c60, h⟩ := h
  refine sm_w.run t0 sr0 53 1 (M2 := M59) (f2 := (117, [some (.ref (x0))], [.ref (M58.1), .ref (M58.1), .ref (x0)])) rfl ⟨rfl, trivial⟩ ?_
  refine sm_w.cV t0 sr0 54 (i := 7) (as := [.ref (M58.1)]) (g := (117, [some (.ref (x0))], [.ref (M58.1), .ref (x0)])) rfl ⟨by decide, by decide, (Nat.le_of_ble_eq_true rfl), (sm_K.g c60 (sm_sh.rf _)).1, (sm_K.g c60 (sm_sh.rf _)).2, (Nat.le_of_ble_eq_true rfl)⟩ (Nat.le_of_ble_eq_true rfl) (by decide) h (fun M61 h => ?_)
  obtain ⟨c63, h⟩ := h
  refine sm_w.run t0 sr0 55 1 (M2 := sm_wR M61 x0 9 (some M58.1)) (f2 := (123, [some (.ref (x0))], [])) rfl ⟨⟨(sm_K.p c63 (sm_sh.rf _)).1, (sm_K.p c63 (sm_sh.rf _)).2.1, (sm_K.p c63 (sm_sh.rf _)).2.2, rfl⟩, trivial⟩ ?_
  have h := h _ rfl
  generalize sm_wR M61 x0 9 (some M58.1) = M64 at h ⊢
  refine sm_w.run t0 sr0 56 2 (M2 := sm_new M64 23 5) (f2 := (127, [some (.ref (x0))], [.ref (M64.1), .ref (x0)])) rfl ⟨trivial, trivial, trivial⟩ ?_
  have h := h _ rfl
  generalize sm_new M64 23 5 = M65 at h ⊢
  obtain ⟨c66, h⟩ := h
  refine sm_w.run t0 sr0 58 1 (M2 := M65) (f2 := (128, [some (.ref (x0))], [.ref (M64.1), .ref (M64.1), .ref (x0)])) rfl ⟨rfl, trivial⟩ ?_
  refine sm_w.cV t0 sr0 59 (i := 7) (as := [.ref (M64.1)]) (g := (128, [some (.ref (x0))], [.ref (M64.1), .ref (x0)])) rfl ⟨by decide, by decide, (Nat.le_of_ble_eq_true rfl), (sm_K.g c66 (sm_sh.rf _)).1, (sm_K.g c66 (sm_sh.rf _)).2, (Nat.le_of_ble_eq_true rfl)⟩ (Nat.le_of_ble_eq_true rfl) (by decide) h (fun M67 h => ?_)
  obtain ⟨c69, h⟩ := h
  refine sm_w.run t0 sr0 60 1 (M2 := sm_wR M67 x0 10 (some M64.1)) (f2 := (134, [some (.ref (x0))], [])) rfl ⟨⟨(sm_K.p c69 (sm_sh.rf _)).1, (sm_K.p c69 (sm_sh.rf _)).2.1, (sm_K.p c69 (sm_sh.rf _)).2.2, rfl⟩, trivial⟩ ?_
  have h := h _ rfl
  generalize sm_wR M67 x0 10 (some M64.1) = M70 at h ⊢
  refine sm_w.run t0 sr0 61 2 (M2 := sm_new M70 25 14) (f2 := (138, [some (.ref (x0))], [.ref (M70.1), .ref (x0)])) rfl ⟨trivial, trivial, trivial⟩ ?_
  have h := h _ rfl
  generalize sm_new M70 25 14 = M71 at h ⊢
  obtain ⟨c72, h⟩ := h
  refine sm_w.run t0 sr0 63 1 (M2 := M71) (f2 := (139, [some (.ref (x0))], [.ref (M70.1), .ref (M70.1), .ref (x0)])) rfl ⟨rfl, trivial⟩ ?_
  refine sm_w.cV t0 sr0 64 (i := 10) (as := [.ref (M70.1)]) (g := (139, [some (.ref (x0))], [.ref (M70.1), .ref (x0)])) rfl ⟨by decide, by decide, (Nat.le_of_ble_eq_true rfl), (sm_K.g c72 (sm_sh.rf _)).1, (sm_K.g c72 (sm_sh.rf _)).2, (Nat.le_of_ble_eq_true rfl)⟩ (Nat.le_of_ble_eq_true rfl) (by decide) h (fun M73 h => ?_)
  obtain ⟨c75, h⟩ := h
  refine sm_w.run t0 sr0 65 1 (M2 := sm_wR M73 x0 11 (some M70.1)) (f2 := (145, [some (.ref (x0))], [])) rfl ⟨⟨(sm_K.p c75 (sm_sh.rf _)).1, (sm_K.p c75 (sm_sh.rf _)).2.1, (sm_K.p c75 (sm_sh.rf _)).2.2, rfl⟩, trivial⟩ ?_
  have h := h _ rfl
  generalize sm_wR M73 x0 11 (some M70.1) = M76 at h ⊢
  refine sm_w.run t0 sr0 66 2 (M2 := sm_new M76 25 14) (f2 := (149, [some (.ref (x0))], [.ref (M76.1), .ref (x0)])) rfl ⟨trivial, trivial, trivial⟩ ?_
  have h := h _ rfl
  generalize sm_new M76 25 14 = M77 at h ⊢
  obtain ⟨c78, h⟩ := h
  refine sm_w.run t0 sr0 68 1 (M2 := M77) (f2 := (150, [some (.ref (x0))], [.ref (M76.1), .ref (M76.1), .ref (x0)])) rfl ⟨rfl, trivial⟩ ?_
  refine sm_w.cV t0 sr0 69 (i := 10) (as := [.ref (M76.1)]) (g := (150, [some (.ref (x0))], [.ref (M76.1), .ref (x0)])) rfl ⟨by decide, by decide, (Nat.le_of_ble_eq_true rfl), (sm_K.g c78 (sm_sh.rf _)).1, (sm_K.g c78 (sm_sh.rf _)).2, (Nat.le_of_ble_eq_true rfl)⟩ (Nat.le_of_ble_eq_true rfl) (by decide) h (fun M79 h => ?_)
  obtain ⟨c81, h⟩ := h
  refine sm_w.run t0 sr0 70 1 (M2 := sm_wR M79 x0 12 (some M76.1)) (f2 := (156, [some (.ref (x0))], [])) rfl ⟨⟨(sm_K.p c81 (sm_sh.rf _)).1, (sm_K.p c81 (sm_sh.rf _)).2.1, (sm_K.p c81 (sm_sh.rf _)).2.2, rfl⟩, trivial⟩ ?_
  have h := h _ rfl
  generalize sm_wR M79 x0 12 (some M76.1) = M82 at h ⊢
  refine sm_w.run t0 sr0 71 2 (M2 := sm_new M82 26 9) (f2 := (160, [some (.ref (x0))], [.ref (M82.1), .ref (x0)])) rfl ⟨trivial, trivial, trivial⟩ ?_
  have h := h _ rfl
  generalize sm_new M82 26 9 = M83 at h ⊢
  obtain ⟨c84, h⟩ := h
  refine sm_w.run t0 sr0 73 1 (M2 := M83) (f2 := (161, [some (.ref (x0))], [.ref (M82.1), .ref (M82.1), .ref (x0)])) rfl ⟨rfl, trivial⟩ ?_
  refine sm_w.cV t0 sr0 74 (i := 12) (as := [.ref (M82.1)]) (g := (161, [some (.ref (x0))], [.ref (M82.1), .ref (x0)])) rfl ⟨by decide, by decide, (Nat.le_of_ble_eq_true rfl), (sm_K.g c84 (sm_sh.rf _)).1, (sm_K.g c84 (sm_sh.rf _)).2, (Nat.le_of_ble_eq_true rfl)⟩ (Nat.le_of_ble_eq_true rfl) (by decide) h (fun M85 h => ?_)
  obtain ⟨c87, h⟩ := h
  refine sm_w.run t0 sr0 75 1 (M2 := sm_wR M85 x0 13 (some M82.1)) (f2 := (167, [some (.ref (x0))], [])) rfl ⟨⟨(sm_K.p c87 (sm_sh.rf _)).1, (sm_K.p c87 (sm_sh.rf _)).2.1, (sm_K.p c87 (sm_sh.rf _)).2.2, rfl⟩, trivial⟩ ?_
  have h := h _ rfl
  generalize sm_wR M85 x0 13 (some M82.1) = M88 at h ⊢
  refine sm_w.run t0 sr0 76 2 (M2 := sm_new M88 26 9) (f2 := (171, [some (.ref (x0))], [.ref (M88.1), .ref (x0)])) rfl ⟨trivial, trivial, trivial⟩ ?_
  have h := h _ rfl
  generalize sm_new M88 26 9 = M89 at h ⊢
  obtain ⟨c90, h⟩ := h
  refine sm_w.run t0 sr0 78 1 (M2 := M89) (f2 := (172, [some (.ref (x0))], [.ref (M88.1), .ref (M88.1), .ref (x0)])) rfl ⟨rfl, trivial⟩ ?_
  refine sm_w.cV t0 sr0 79 (i := 12) (as := [.ref (M88.1)]) (g := (172, [some (.ref (x0))], [.ref (M88.1), .ref (x0)])) rfl ⟨by decide, by decide, (Nat.le_of_ble_eq_true rfl), (sm_K.g c90 (sm_sh.rf _)).1, (sm_K.g c90 (sm_sh.rf _)).2, (Nat.le_of_ble_eq_true rfl)⟩ (Nat.le_of_ble_eq_true rfl) (by decide) h (fun M91 h => ?_)
  obtain ⟨c93, h⟩ := h
  refine sm_w.run t0 sr0 80 1 (M2 := sm_wR M91 x0 14 (some M88.1)) (f2 := (178, [some (.ref (x0))], [])) rfl ⟨⟨(sm_K.p c93 (sm_sh.rf _)).1, (sm_K.p c93 (sm_sh.rf _)).2.1, (sm_K.p c93 (sm_sh.rf _)).2.2, rfl⟩, trivial⟩ ?_
  have h := h _ rfl
  generalize sm_wR M91 x0 14 (some M88.1) = M94 at h ⊢
  obtain ⟨c95, h⟩ := h
  refine sm_w.run t0 sr0 81 3 (M2 := sm_wI M94 x0 15 (0 : Int32)) (f2 := (183, [some (.ref (x0))], [])) rfl ⟨trivial, trivial, ⟨(sm_K.p c95 (sm_sh.rf _)).1, (sm_K.p c95 (sm_sh.rf _)).2.1, (sm_K.p c95 (sm_sh.rf _)).2.2, Or.inr ⟨rfl, Or.inl rfl⟩⟩, trivial⟩ ?_
  have h := h _ rfl
  have s97 : sm_sh M94 (sm_wI M94 x0 15 (0 : Int32)) := sm_sh.wI (sm_sh.rf _) _ _ _
  generalize sm_wI M94 x0 15 (0 : Int32) = M96 at h s97 ⊢
  refine sm_w.run t0 sr0 84 3 (M2 := sm_wI M96 x0 16 (-1 : Int32)) (f2 := (188, [some (.ref (x0))], [])) rfl ⟨trivial, trivial, ⟨(sm_K.p c95 s97).1, (sm_K.p c95 s97).2.1, (sm_K.p c95 s97).2.2, Or.inl rfl⟩, trivial⟩ ?_
  have h := h _ rfl
  have s99 : sm_sh M94 (sm_wI M96 x0 16 (-1 : Int32)) := sm_sh.wI s97 _ _ _
  generalize sm_wI M96 x0 16 (-1 : Int32) = M98 at h s99 ⊢
  exact sm_w.end t0 sr0 87 (o := .returned none) (M2 := M98) rfl trivial (by decide) h
-- 160 LineSetterModel.<init>()V
theorem t160 : sP 160 = (2, sp_160, sh_160) := rfl
theorem sr160 : sm_srt sp_160 = true := by decide +kernel
theorem c160_0 {M : sm_M} {x0 : Nat} {Q : Outcome → sm_M → Prop} (h : (sm_K M x0 28) ∧ (¬ (8192 : Int32) < 0 ∧ (8192 : Int32).toNatClampNeg * 8 ≤ 536870912) ∧ ∀ M3, M3 = sm_new M 0 (8192 : Int32).toNatClampNeg → (sm_K M3 x0 28) ∧ ∀ M5, M5 = sm_wR M3 x0 1 (some M.1) → (¬ (8192 : Int32) < 0 ∧ (8192 : Int32).toNatClampNeg * 8 ≤ 536870912) ∧ ∀ M7, M7 = sm_new M5 0 (8192 : Int32).toNatClampNeg → (sm_K M7 x0 28) ∧ ∀ M9, M9 = sm_wR M7 x0 2 (some M5.1) → (¬ (6001 : Int32) < 0 ∧ (6001 : Int32).toNatClampNeg * 8 ≤ 536870912) ∧ ∀ M11, M11 = sm_new M9 0 (6001 : Int32).toNatClampNeg → (sm_K M11 x0 28) ∧ ∀ M13, M13 = sm_wR M11 x0 5 (some M9.1) → (sm_K M13 x0 28) ∧ ∀ M15, M15 = sm_wI M13 x0 7 (-1 : Int32) → (¬ (256 : Int32) < 0 ∧ (256 : Int32).toNatClampNeg * 8 ≤ 536870912) ∧ ∀ M18, M18 = sm_new M15 0 (256 : Int32).toNatClampNeg → (sm_K M18 x0 28) ∧ ∀ M20, M20 = sm_wR M18 x0 14 (some M15.1) → (¬ (256 : Int32) < 0 ∧ (256 : Int32).toNatClampNeg * 8 ≤ 536870912) ∧ ∀ M22, M22 = sm_new M20 0 (256 : Int32).toNatClampNeg → (sm_K M22 x0 28) ∧ ∀ M24, M24 = sm_wR M22 x0 15 (some M20.1) → (¬ (200 : Int32) < 0 ∧ (200 : Int32).toNatClampNeg * 8 ≤ 536870912) ∧ ∀ M26, M26 = sm_new M24 0 (200 : Int32).toNatClampNeg → (sm_K M26 x0 28) ∧ ∀ M28, M28 = sm_wR M26 x0 16 (some M24.1) → (¬ (200 : Int32) < 0 ∧ (200 : Int32).toNatClampNeg * 8 ≤ 536870912) ∧ ∀ M30, M30 = sm_new M28 0 (200 : Int32).toNatClampNeg → (sm_K M30 x0 28) ∧ ∀ M32, M32 = sm_wR M30 x0 17 (some M28.1) → (¬ (200 : Int32) < 0 ∧ (200 : Int32).toNatClampNeg * 8 ≤ 536870912) ∧ ∀ M34, M34 = sm_new M32 0 (200 : Int32).toNatClampNeg → (sm_K M34 x0 28) ∧ ∀ M36, M36 = sm_wR M34 x0 18 (some M32.1) → (¬ (60 : Int32) < 0 ∧ (60 : Int32).toNatClampNeg * 8 ≤ 536870912) ∧ ∀ M38, M38 = sm_new M36 0 (60 : Int32).toNatClampNeg → (sm_K M38 x0 28) ∧ ∀ M40, M40 = sm_wR M38 x0 19 (some M36.1) → (¬ (60 : Int32) < 0 ∧ (60 : Int32).toNatClampNeg * 8 ≤ 536870912) ∧ ∀ M42, M42 = sm_new M40 0 (60 : Int32).toNatClampNeg → (sm_K M42 x0 28) ∧ ∀ M44, M44 = sm_wR M42 x0 20 (some M40.1) → (¬ (60 : Int32) < 0 ∧ (60 : Int32).toNatClampNeg * 8 ≤ 536870912) ∧ ∀ M46, M46 = sm_new M44 0 (60 : Int32).toNatClampNeg → (sm_K M46 x0 28) ∧ ∀ M48, M48 = sm_wR M46 x0 21 (some M44.1) → (¬ (200 : Int32) < 0 ∧ (200 : Int32).toNatClampNeg * 8 ≤ 536870912) ∧ ∀ M50, M50 = sm_new M48 0 (200 : Int32).toNatClampNeg → (sm_K M50 x0 28) ∧ ∀ M52, M52 = sm_wR M50 x0 22 (some M48.1) → (¬ (200 : Int32) < 0 ∧ (200 : Int32).toNatClampNeg * 8 ≤ 536870912) ∧ ∀ M54, M54 = sm_new M52 0 (200 : Int32).toNatClampNeg → (sm_K M54 x0 28) ∧ ∀ M56, M56 = sm_wR M54 x0 23 (some M52.1) → (¬ (200 : Int32) < 0 ∧ (200 : Int32).toNatClampNeg * 8 ≤ 536870912) ∧ ∀ M58, M58 = sm_new M56 0 (200 : Int32).toNatClampNeg → (sm_K M58 x0 28) ∧ ∀ M60, M60 = sm_wR M58 x0 24 (some M56.1) → (¬ (60 : Int32) < 0 ∧ (60 : Int32).toNatClampNeg * 8 ≤ 536870912) ∧ ∀ M62, M62 = sm_new M60 0 (60 : Int32).toNatClampNeg → (sm_K M62 x0 28) ∧ ∀ M64, M64 = sm_wR M62 x0 25 (some M60.1) → (¬ (60 : Int32) < 0 ∧ (60 : Int32).toNatClampNeg * 8 ≤ 536870912) ∧ ∀ M66, M66 = sm_new M64 0 (60 : Int32).toNatClampNeg → (sm_K M66 x0 28) ∧ ∀ M68, M68 = sm_wR M66 x0 26 (some M64.1) → (¬ (60 : Int32) < 0 ∧ (60 : Int32).toNatClampNeg * 8 ≤ 536870912) ∧ ∀ M70, M70 = sm_new M68 0 (60 : Int32).toNatClampNeg → (sm_K M70 x0 28) ∧ ∀ M72, M72 = sm_wR M70 x0 27 (some M68.1) → (¬ (256 : Int32) < 0 ∧ (256 : Int32).toNatClampNeg * 8 ≤ 536870912) ∧ ∀ M74, M74 = sm_new M72 3 (256 : Int32).toNatClampNeg → (sm_K M74 x0 28) ∧ ∀ M76, M76 = sm_wR M74 x0 32 (some M72.1) → (¬ (9600 : Int32) < 0 ∧ (9600 : Int32).toNatClampNeg * 8 ≤ 536870912) ∧ ∀ M78, M78 = sm_new M76 0 (9600 : Int32).toNatClampNeg → (sm_K M78 x0 28) ∧ ∀ M80, M80 = sm_wR M78 x0 37 (some M76.1) → (¬ (600 : Int32) < 0 ∧ (600 : Int32).toNatClampNeg * 8 ≤ 536870912) ∧ ∀ M82, M82 = sm_new M80 0 (600 : Int32).toNatClampNeg → (sm_K M82 x0 28) ∧ ∀ M84, M84 = sm_wR M82 x0 38 (some M80.1) → (¬ (10200 : Int32) < 0 ∧ (10200 : Int32).toNatClampNeg * 8 ≤ 536870912) ∧ ∀ M86, M86 = sm_new M84 0 (10200 : Int32).toNatClampNeg → (sm_K M86 x0 28) ∧ ∀ M88, M88 = sm_wR M86 x0 39 (some M84.1) → (¬ (3840 : Int32) < 0 ∧ (3840 : Int32).toNatClampNeg * 8 ≤ 536870912) ∧ ∀ M90, M90 = sm_new M88 0 (3840 : Int32).toNatClampNeg → (sm_K M90 x0 28) ∧ ∀ M92, M92 = sm_wR M90 x0 40 (some M88.1) → (¬ (120 : Int32) < 0 ∧ (120 : Int32).toNatClampNeg * 8 ≤ 536870912) ∧ ∀ M94, M94 = sm_new M92 0 (120 : Int32).toNatClampNeg → (sm_K M94 x0 28) ∧ ∀ M96, M96 = sm_wR M94 x0 41 (some M92.1) → (¬ (3840 : Int32) < 0 ∧ (3840 : Int32).toNatClampNeg * 8 ≤ 536870912) ∧ ∀ M98, M98 = sm_new M96 3 (3840 : Int32).toNatClampNeg → (sm_K M98 x0 28) ∧ ∀ M100, M100 = sm_wR M98 x0 42 (some M96.1) → (¬ (40 : Int32) < 0 ∧ (40 : Int32).toNatClampNeg * 8 ≤ 536870912) ∧ ∀ M102, M102 = sm_new M100 0 (40 : Int32).toNatClampNeg → (sm_K M102 x0 28) ∧ ∀ M104, M104 = sm_wR M102 x0 47 (some M100.1) → (¬ (40 : Int32) < 0 ∧ (40 : Int32).toNatClampNeg * 8 ≤ 536870912) ∧ ∀ M106, M106 = sm_new M104 0 (40 : Int32).toNatClampNeg → (sm_K M106 x0 28) ∧ ∀ M108, M108 = sm_wR M106 x0 48 (some M104.1) → (¬ (4100 : Int32) < 0 ∧ (4100 : Int32).toNatClampNeg * 8 ≤ 536870912) ∧ ∀ M110, M110 = sm_new M108 0 (4100 : Int32).toNatClampNeg → (sm_K M110 x0 28) ∧ ∀ M112, M112 = sm_wR M110 x0 51 (some M108.1) → (¬ (4100 : Int32) < 0 ∧ (4100 : Int32).toNatClampNeg * 8 ≤ 536870912) ∧ ∀ M114, M114 = sm_new M112 0 (4100 : Int32).toNatClampNeg → (sm_K M114 x0 28) ∧ ∀ M116, M116 = sm_wR M114 x0 52 (some M112.1) → (¬ (4100 : Int32) < 0 ∧ (4100 : Int32).toNatClampNeg * 8 ≤ 536870912) ∧ ∀ M118, M118 = sm_new M116 3 (4100 : Int32).toNatClampNeg → (sm_K M118 x0 28) ∧ ∀ M120, M120 = sm_wR M118 x0 53 (some M116.1) → (¬ (4001 : Int32) < 0 ∧ (4001 : Int32).toNatClampNeg * 8 ≤ 536870912) ∧ ∀ M122, M122 = sm_new M120 0 (4001 : Int32).toNatClampNeg → (sm_K M122 x0 28) ∧ ∀ M124, M124 = sm_wR M122 x0 54 (some M120.1) → (¬ (4001 : Int32) < 0 ∧ (4001 : Int32).toNatClampNeg * 8 ≤ 536870912) ∧ ∀ M126, M126 = sm_new M124 0 (4001 : Int32).toNatClampNeg → (sm_K M126 x0 28) ∧ ∀ M128, M128 = sm_wR M126 x0 55 (some M124.1) → (¬ (8192 : Int32) < 0 ∧ (8192 : Int32).toNatClampNeg * 8 ≤ 536870912) ∧ ∀ M130, M130 = sm_new M128 0 (8192 : Int32).toNatClampNeg → (sm_K M130 x0 28) ∧ ∀ M132, M132 = sm_wR M130 x0 58 (some M128.1) → (¬ (4001 : Int32) < 0 ∧ (4001 : Int32).toNatClampNeg * 8 ≤ 536870912) ∧ ∀ M134, M134 = sm_new M132 0 (4001 : Int32).toNatClampNeg → (sm_K M134 x0 28) ∧ ∀ M136, M136 = sm_wR M134 x0 68 (some M132.1) → (¬ (602 : Int32) < 0 ∧ (602 : Int32).toNatClampNeg * 8 ≤ 536870912) ∧ ∀ M138, M138 = sm_new M136 0 (602 : Int32).toNatClampNeg → (sm_K M138 x0 28) ∧ ∀ M140, M140 = sm_wR M138 x0 70 (some M136.1) → (¬ (602 : Int32) < 0 ∧ (602 : Int32).toNatClampNeg * 8 ≤ 536870912) ∧ ∀ M142, M142 = sm_new M140 0 (602 : Int32).toNatClampNeg → (sm_K M142 x0 28) ∧ ∀ M144, M144 = sm_wR M142 x0 71 (some M140.1) → (¬ (602 : Int32) < 0 ∧ (602 : Int32).toNatClampNeg * 8 ≤ 536870912) ∧ ∀ M146, M146 = sm_new M144 2 (602 : Int32).toNatClampNeg → (sm_K M146 x0 28) ∧ ∀ M148, M148 = sm_wR M146 x0 72 (some M144.1) → (¬ (602 : Int32) < 0 ∧ (602 : Int32).toNatClampNeg * 8 ≤ 536870912) ∧ ∀ M150, M150 = sm_new M148 2 (602 : Int32).toNatClampNeg → (sm_K M150 x0 28) ∧ ∀ M152, M152 = sm_wR M150 x0 73 (some M148.1) → (¬ (602 : Int32) < 0 ∧ (602 : Int32).toNatClampNeg * 8 ≤ 536870912) ∧ ∀ M154, M154 = sm_new M152 2 (602 : Int32).toNatClampNeg → (sm_K M154 x0 28) ∧ ∀ M156, M156 = sm_wR M154 x0 74 (some M152.1) → (¬ (602 : Int32) < 0 ∧ (602 : Int32).toNatClampNeg * 8 ≤ 536870912) ∧ ∀ M158, M158 = sm_new M156 2 (602 : Int32).toNatClampNeg → (sm_K M158 x0 28) ∧ ∀ M160, M160 = sm_wR M158 x0 75 (some M156.1) → (¬ (602 : Int32) < 0 ∧ (602 : Int32).toNatClampNeg * 8 ≤ 536870912) ∧ ∀ M162, M162 = sm_new M160 2 (602 : Int32).toNatClampNeg → (sm_K M162 x0 28) ∧ ∀ M164, M164 = sm_wR M162 x0 76 (some M160.1) → (¬ (4002 : Int32) < 0 ∧ (4002 : Int32).toNatClampNeg * 8 ≤ 536870912) ∧ ∀ M166, M166 = sm_new M164 3 (4002 : Int32).toNatClampNeg → (sm_K M166 x0 28) ∧ ∀ M168, M168 = sm_wR M166 x0 77 (some M164.1) → (¬ (2408 : Int32) < 0 ∧ (2408 : Int32).toNatClampNeg * 8 ≤ 536870912) ∧ ∀ M170, M170 = sm_new M168 2 (2408 : Int32).toNatClampNeg → (sm_K M170 x0 28) ∧ ∀ M172, M172 = sm_wR M170 x0 86 (some M168.1) → (¬ (2408 : Int32) < 0 ∧ (2408 : Int32).toNatClampNeg * 8 ≤ 536870912) ∧ ∀ M174, M174 = sm_new M172 0 (2408 : Int32).toNatClampNeg → (sm_K M174 x0 28) ∧ ∀ M176, M176 = sm_wR M174 x0 87 (some M172.1) → (¬ (2408 : Int32) < 0 ∧ (2408 : Int32).toNatClampNeg * 8 ≤ 536870912) ∧ ∀ M178, M178 = sm_new M176 3 (2408 : Int32).toNatClampNeg → (sm_K M178 x0 28) ∧ ∀ M180, M180 = sm_wR M178 x0 88 (some M176.1) → (¬ (602 : Int32) < 0 ∧ (602 : Int32).toNatClampNeg * 8 ≤ 536870912) ∧ ∀ M182, M182 = sm_new M180 0 (602 : Int32).toNatClampNeg → (sm_K M182 x0 28) ∧ ∀ M184, M184 = sm_wR M182 x0 89 (some M180.1) → (¬ (602 : Int32) < 0 ∧ (602 : Int32).toNatClampNeg * 8 ≤ 536870912) ∧ ∀ M186, M186 = sm_new M184 0 (602 : Int32).toNatClampNeg → (sm_K M186 x0 28) ∧ ∀ M188, M188 = sm_wR M186 x0 90 (some M184.1) → (¬ (602 : Int32) < 0 ∧ (602 : Int32).toNatClampNeg * 8 ≤ 536870912) ∧ ∀ M190, M190 = sm_new M188 2 (602 : Int32).toNatClampNeg → (sm_K M190 x0 28) ∧ ∀ M192, M192 = sm_wR M190 x0 91 (some M188.1) → sm_w 160 (425, [some (.ref (x0)), some (.int ((0 : Int32)))], []) M192 Q) : sm_w 160 (0, [some (.ref (x0)), none], []) M Q := by
  obtain ⟨c1, c2, h⟩ := h
  refine sm_w.run t160 sr160 0 5 (M2 := sm_new M 0 (8192 : Int32).toNatClampNeg) (f2 := (10, [some (.ref (x0)), none], [.ref (M.1), .ref (x0)])) rfl ⟨trivial, ⟨sm_K.g1 c1 (sm_sh.rf _), (Nat.le_of_ble_eq_true rfl)⟩, trivial, trivial, c2, trivial⟩ ?_
  have h := h _ rfl
  generalize sm_new M 0 (8192 : Int32).toNatClampNeg = M3 at h ⊢
  obtain ⟨c4, h⟩ := h
  refine sm_w.run t160 sr160 5 1 (M2 := sm_wR M3 x0 1 (some M.1)) (f2 := (13, [some (.ref (x0)), none], [])) rfl ⟨⟨(sm_K.p c4 (sm_sh.rf _)).1, (sm_K.p c4 (sm_sh.rf _)).2.1, (sm_K.p c4 (sm_sh.rf _)).2.2, rfl⟩, trivial⟩ ?_
  have h := h _ rfl
  generalize sm_wR M3 x0 1 (some M.1) = M5 at h ⊢
  obtain ⟨c6, h⟩ := h
  refine sm_w.run t160 sr160 6 3 (M2 := sm_new M5 0 (8192 : Int32).toNatClampNeg) (f2 := (19, [some (.ref (x0)), none], [.ref (M5.1), .ref (x0)])) rfl ⟨trivial, trivial, c6, trivial⟩ ?_
  have h := h _ rfl
  generalize sm_new M5 0 (8192 : Int32).toNatClampNeg = M7 at h ⊢
  obtain ⟨c8, h⟩ := h
  refine sm_w.run t160 sr160 9 1 (M2 := sm_wR M7 x0 2 (some M5.1)) (f2 := (22, [some (.ref (x0)), none], [])) rfl ⟨⟨(sm_K.p c8 (sm_sh.rf _)).1, (sm_K.p c8 (sm_sh.rf _)).2.1, (sm_K.p c8 (sm_sh.rf _)).2.2, rfl⟩, trivial⟩ ?_
  have h := h _ rfl
  generalize sm_wR M7 x0 2 (some M5.1) = M9 at h ⊢
  obtain ⟨c10, h⟩ := h
  refine sm_w.run t160 sr160 10 3 (M2 := sm_new M9 0 (6001 : Int32).toNatClampNeg) (f2 := (28, [some (.ref (x0)), none], [.ref (M9.1), .ref (x0)])) rfl ⟨trivial, trivial, c10, trivial⟩ ?_
  have h := h _ rfl
  generalize sm_new M9 0 (6001 : Int32).toNatClampNeg = M11 at h ⊢
  obtain ⟨c12, h⟩ := h
  refine sm_w.run t160 sr160 13 1 (M2 := sm_wR M11 x0 5 (some M9.1)) (f2 := (31, [some (.ref (x0)), none], [])) rfl ⟨⟨(sm_K.p c12 (sm_sh.rf _)).1, (sm_K.p c12 (sm_sh.rf _)).2.1, (sm_K.p c12 (sm_sh.rf _)).2.2, rfl⟩, trivial⟩ ?_
  have h := h _ rfl
  generalize sm_wR M11 x0 5 (some M9.1) = M13 at h ⊢
  obtain ⟨c14, h⟩ := h
  refine sm_w.run t160 sr160 14 3 (M2 := sm_wI M13 x0 7 (-1 : Int32)) (f2 := (36, [some (.ref (x0)), none], [])) rfl ⟨trivial, trivial, ⟨(sm_K.p c14 (sm_sh.rf _)).1, (sm_K.p c14 (sm_sh.rf _)).2.1, (sm_K.p c14 (sm_sh.rf _)).2.2, Or.inl rfl⟩, trivial⟩ ?_
  have h := h _ rfl
  have s16 : sm_sh M13 (sm_wI M13 x0 7 (-1 : Int32)) := sm_sh.wI (sm_sh.rf _) _ _ _
  generalize sm_wI M13 x0 7 (-1 : Int32) = M15 at h s16 ⊢
  obtain ⟨c17, h⟩ := h
  refine sm_w.run t160 sr160 17 3 (M2 := sm_new M15 0 (256 : Int32).toNatClampNeg) (f2 := (42, [some (.ref (x0)), none], [.ref (M15.1), .ref (x0)])) rfl ⟨trivial, trivial, c17, trivial⟩ ?_
  have h := h _ rfl
  generalize sm_new M15 0 (256 : Int32).toNatClampNeg = M18 at h ⊢
  obtain ⟨c19, h⟩ := h
  refine sm_w.run t160 sr160 20 1 (M2 := sm_wR M18 x0 14 (some M15.1)) (f2 := (45, [some (.ref (x0)), none], [])) rfl ⟨⟨(sm_K.p c19 (sm_sh.rf _)).1, (sm_K.p c19 (sm_sh.rf _)).2.1, (sm_K.p c19 (sm_sh.rf _)).2.2, rfl⟩, trivial⟩ ?_
  have h := h _ rfl
  generalize sm_wR M18 x0 14 (some M15.1) = M20 at h ⊢
  obtain ⟨c21, h⟩ := h
  refine sm_w.run t160 sr160 21 3 (M2 := sm_new M20 0 (256 : Int32).toNatClampNeg) (f2 := (51, [some (.ref (x0)), none], [.ref (M20.1), .ref (x0)])) rfl ⟨trivial, trivial, c21, trivial⟩ ?_
  have h := h _ rfl
  generalize sm_new M20 0 (256 : Int32).toNatClampNeg = M22 at h ⊢
  obtain ⟨c23, h⟩ := h
  refine sm_w.run t160 sr160 24 1 (M2 := sm_wR M22 x0 15 (some M20.1)) (f2 := (54, [some (.ref (x0)), none], [])) rfl ⟨⟨(sm_K.p c23 (sm_sh.rf _)).1, (sm_K.p c23 (sm_sh.rf _)).2.1, (sm_K.p c23 (sm_sh.rf _)).2.2, rfl⟩, trivial⟩ ?_
  have h := h _ rfl
  generalize sm_wR M22 x0 15 (some M20.1) = M24 at h ⊢
  obtain ⟨c25, h⟩ := h
  refine sm_w.run t160 sr160 25 3 (M2 := sm_new M24 0 (200 : Int32).toNatClampNeg) (f2 := (60, [some (.ref (x0)), none], [.ref (M24.1), .ref (x0)])) rfl ⟨trivial, trivial, c25, trivial⟩ ?_
  have h := h _ rfl
  generalize sm_new M24 0 (200 : Int32).toNatClampNeg = M26 at h ⊢
  obtain ⟨c27, h⟩ := h
  refine sm_w.run t160 sr160 28 1 (M2 := sm_wR M26 x0 16 (some M24.1)) (f2 := (63, [some (.ref (x0)), none], [])) rfl ⟨⟨(sm_K.p c27 (sm_sh.rf _)).1, (sm_K.p c27 (sm_sh.rf _)).2.1, (sm_K.p c27 (sm_sh.rf _)).2.2, rfl⟩, trivial⟩ ?_
  have h := h _ rfl
  generalize sm_wR M26 x0 16 (some M24.1) = M28 at h ⊢
  obtain ⟨c29, h⟩ := h
  refine sm_w.run t160 sr160 29 3 (M2 := sm_new M28 0 (200 : Int32).toNatClampNeg) (f2 := (69, [some (.ref (x0)), none], [.ref (M28.1), .ref (x0)])) rfl ⟨trivial, trivial, c29, trivial⟩ ?_
  have h := h _ rfl
  generalize sm_new M28 0 (200 : Int32).toNatClampNeg = M30 at h ⊢
  obtain ⟨c31, h⟩ := h
  refine sm_w.run t160 sr160 32 1 (M2 := sm_wR M30 x0 17 (some M28.1)) (f2 := (72, [some (.ref (x0)), none], [])) rfl ⟨⟨(sm_K.p c31 (sm_sh.rf _)).1, (sm_K.p c31 (sm_sh.rf _)).2.1, (sm_K.p c31 (sm_sh.rf _)).2.2, rfl⟩, trivial⟩ ?_
  have h := h _ rfl
  generalize sm_wR M30 x0 17 (some M28.1) = M32 at h ⊢
  obtain ⟨c33, h⟩ := h
  refine sm_w.run t160 sr160 33 3 (M2 := sm_new M32 0 (200 : Int32).toNatClampNeg) (f2 := (78, [some (.ref (x0)), none], [.ref (M32.1), .ref (x0)])) rfl ⟨trivial, trivial, c33, trivial⟩ ?_
  have h := h _ rfl
  generalize sm_new M32 0 (200 : Int32).toNatClampNeg = M34 at h ⊢
  obtain ⟨c35, h⟩ := h
  refine sm_w.run t160 sr160 36 1 (M2 := sm_wR M34 x0 18 (some M32.1)) (f2 := (81, [some (.ref (x0)), none], [])) rfl ⟨⟨(sm_K.p c35 (sm_sh.rf _)).1, (sm_K.p c35 (sm_sh.rf _)).2.1, (sm_K.p c35 (sm_sh.rf _)).2.2, rfl⟩, trivial⟩ ?_
  have h := h _ rfl
  generalize sm_wR M34 x0 18 (some M32.1) = M36 at h ⊢
  obtain ⟨c37, h⟩ := h
  refine sm_w.run t160 sr160 37 3 (M2 := sm_new M36 0 (60 : Int32).toNatClampNeg) (f2 := (86, [some (.ref (x0)), none], [.ref (M36.1), .ref (x0)])) rfl ⟨trivial, trivial, c37, trivial⟩ ?_
  have h := h _ rfl
  generalize sm_new M36 0 (60 : Int32).toNatClampNeg = M38 at h ⊢
  obtain ⟨c39, h⟩ := h
  refine sm_w.run t160 sr160 40 1 (M2 := sm_wR M38 x0 19 (some M36.1)) (f2 := (89, [some (.ref (x0)), none], [])) rfl ⟨⟨(sm_K.p c39 (sm_sh.rf _)).1, (sm_K.p c39 (sm_sh.rf _)).2.1, (sm_K.p c39 (sm_sh.rf _)).2.2, rfl⟩, trivial⟩ ?_
  have h := h _ rfl
  generalize sm_wR M38 x0 19 (some M36.1) = M40 at h ⊢
  obtain ⟨c41, h⟩ := h
  refine sm_w.run t160 sr160 41 3 (M2 := sm_new M40 0 (60 : Int32).toNatClampNeg) (f2 := (94, [some (.ref (x0)), none], [.ref (M40.1), .ref (x0)])) rfl ⟨trivial, trivial, c41, trivial⟩ ?_
  have h := h _ rfl
  generalize sm_new M40 0 (60 : Int32).toNatClampNeg = M42 at h ⊢
  obtain ⟨c43, h⟩ := h
  refine sm_w.run t160 sr160 44 1 (M2 := sm_wR M42 x0 20 (some M40.1)) (f2 := (97, [some (.ref (x0)), none], [])) rfl ⟨⟨(sm_K.p c43 (sm_sh.rf _)).1, (sm_K.p c43 (sm_sh.rf _)).2.1, (sm_K.p c43 (sm_sh.rf _)).2.2, rfl⟩, trivial⟩ ?_
  have h := h _ rfl
  generalize sm_wR M42 x0 20 (some M40.1) = M44 at h ⊢
  obtain ⟨c45, h⟩ := h
  refine sm_w.run t160 sr160 45 3 (M2 := sm_new M44 0 (60 : Int32).toNatClampNeg) (f2 := (102, [some (.ref (x0)), none], [.ref (M44.1), .ref (x0)])) rfl ⟨trivial, trivial, c45, trivial⟩ ?_
  have h := h _ rfl
  generalize sm_new M44 0 (60 : Int32).toNatClampNeg = M46 at h ⊢
  obtain ⟨c47, h⟩ := h
  refine sm_w.run t160 sr160 48 1 (M2 := sm_wR M46 x0 21 (some M44.1)) (f2 := (105, [some (.ref (x0)), none], [])) rfl ⟨⟨(sm_K.p c47 (sm_sh.rf _)).1, (sm_K.p c47 (sm_sh.rf _)).2.1, (sm_K.p c47 (sm_sh.rf _)).2.2, rfl⟩, trivial⟩ ?_
  have h := h _ rfl
  generalize sm_wR M46 x0 21 (some M44.1) = M48 at h ⊢
  obtain ⟨c49, h⟩ := h
  refine sm_w.run t160 sr160 49 3 (M2 := sm_new M48 0 (200 : Int32).toNatClampNeg) (f2 := (111, [some (.ref (x0)), none], [.ref (M48.1), .ref (x0)])) rfl ⟨trivial, trivial, c49, trivial⟩ ?_
  have h := h _ rfl
  generalize sm_new M48 0 (200 : Int32).toNatClampNeg = M50 at h ⊢
  obtain ⟨c51, h⟩ := h
  refine sm_w.run t160 sr160 52 1 (M2 := sm_wR M50 x0 22 (some M48.1)) (f2 := (114, [some (.ref (x0)), none], [])) rfl ⟨⟨(sm_K.p c51 (sm_sh.rf _)).1, (sm_K.p c51 (sm_sh.rf _)).2.1, (sm_K.p c51 (sm_sh.rf _)).2.2, rfl⟩, trivial⟩ ?_
  have h := h _ rfl
  generalize sm_wR M50 x0 22 (some M48.1) = M52 at h ⊢
  obtain ⟨c53, h⟩ := h
  refine sm_w.run t160 sr160 53 3 (M2 := sm_new M52 0 (200 : Int32).toNatClampNeg) (f2 := (120, [some (.ref (x0)), none], [.ref (M52.1), .ref (x0)])) rfl ⟨trivial, trivial, c53, trivial⟩ ?_
  have h := h _ rfl
  generalize sm_new M52 0 (200 : Int32).toNatClampNeg = M54 at h ⊢
  obtain ⟨c55, h⟩ := h
  refine sm_w.run t160 sr160 56 1 (M2 := sm_wR M54 x0 23 (some M52.1)) (f2 := (123, [some (.ref (x0)), none], [])) rfl ⟨⟨(sm_K.p c55 (sm_sh.rf _)).1, (sm_K.p c55 (sm_sh.rf _)).2.1, (sm_K.p c55 (sm_sh.rf _)).2.2, rfl⟩, trivial⟩ ?_
  have h := h _ rfl
  generalize sm_wR M54 x0 23 (some M52.1) = M56 at h ⊢
  obtain ⟨c57, h⟩ := h
  refine sm_w.run t160 sr160 57 3 (M2 := sm_new M56 0 (200 : Int32).toNatClampNeg) (f2 := (129, [some (.ref (x0)), none], [.ref (M56.1), .ref (x0)])) rfl ⟨trivial, trivial, c57, trivial⟩ ?_
  have h := h _ rfl
  generalize sm_new M56 0 (200 : Int32).toNatClampNeg = M58 at h ⊢
  obtain ⟨c59, h⟩ := h
  refine sm_w.run t160 sr160 60 1 (M2 := sm_wR M58 x0 24 (some M56.1)) (f2 := (132, [some (.ref (x0)), none], [])) rfl ⟨⟨(sm_K.p c59 (sm_sh.rf _)).1, (sm_K.p c59 (sm_sh.rf _)).2.1, (sm_K.p c59 (sm_sh.rf _)).2.2, rfl⟩, trivial⟩ ?_
  have h := h _ rfl
  generalize sm_wR M58 x0 24 (some M56.1) = M60 at h ⊢
  obtain ⟨c61, h⟩ := h
  refine sm_w.run t160 sr160 61 3 (M2 := sm_new M60 0 (60 : Int32).toNatClampNeg) (f2 := (137, [some (.ref (x0)), none], [.ref (M60.1), .ref (x0)])) rfl ⟨trivial, trivial, c61, trivial⟩ ?_
  have h := h _ rfl
  generalize sm_new M60 0 (60 : Int32).toNatClampNeg = M62 at h ⊢
  obtain ⟨c63, h⟩ := h
  refine sm_w.run t160 sr160 64 1 (M2 := sm_wR M62 x0 25 (some M60.1)) (f2 := (140, [some (.ref (x0)), none], [])) rfl ⟨⟨(sm_K.p c63 (sm_sh.rf _)).1, (sm_K.p c63 (sm_sh.rf _)).2.1, (sm_K.p c63 (sm_sh.rf _)).2.2, rfl⟩, trivial⟩ ?_
  have h := h _ rfl
  generalize sm_wR M62 x0 25 (some M60.1) = M64 at h ⊢
  obtain ⟨c65, h⟩ := h
  refine sm_w.run t160 sr160 65 3 (M2 := sm_new M64 0 (60 : Int32).toNatClampNeg) (f2 := (145, [some (.ref (x0)), none], [.ref (M64.1), .ref (x0)])) rfl ⟨trivial, trivial, c65, trivial⟩ ?_
  have h := h _ rfl
  generalize sm_new M64 0 (60 : Int32).toNatClampNeg = M66 at h ⊢
  obtain ⟨c67, h⟩ := h
  refine sm_w.run t160 sr160 68 1 (M2 := sm_wR M66 x0 26 (some M64.1)) (f2 := (148, [some (.ref (x0)), none], [])) rfl ⟨⟨(sm_K.p c67 (sm_sh.rf _)).1, (sm_K.p c67 (sm_sh.rf _)).2.1, (sm_K.p c67 (sm_sh.rf _)).2.2, rfl⟩, trivial⟩ ?_
  have h := h _ rfl
  generalize sm_wR M66 x0 26 (some M64.1) = M68 at h ⊢
  obtain ⟨c69, h⟩ := h
  refine sm_w.run t160 sr160 69 3 (M2 := sm_new M68 0 (60 : Int32).toNatClampNeg) (f2 := (153, [some (.ref (x0)), none], [.ref (M68.1), .ref (x0)])) rfl ⟨trivial, trivial, c69, trivial⟩ ?_
  have h := h _ rfl
  generalize sm_new M68 0 (60 : Int32).toNatClampNeg = M70 at h ⊢
  obtain ⟨c71, h⟩ := h
  refine sm_w.run t160 sr160 72 1 (M2 := sm_wR M70 x0 27 (some M68.1)) (f2 := (156, [some (.ref (x0)), none], [])) rfl ⟨⟨(sm_K.p c71 (sm_sh.rf _)).1, (sm_K.p c71 (sm_sh.rf _)).2.1, (sm_K.p c71 (sm_sh.rf _)).2.2, rfl⟩, trivial⟩ ?_
  have h := h _ rfl
  generalize sm_wR M70 x0 27 (some M68.1) = M72 at h ⊢
  obtain ⟨c73, h⟩ := h
  refine sm_w.run t160 sr160 73 3 (M2 := sm_new M72 3 (256 : Int32).toNatClampNeg) (f2 := (162, [some (.ref (x0)), none], [.ref (M72.1), .ref (x0)])) rfl ⟨trivial, trivial, c73, trivial⟩ ?_
  have h := h _ rfl
  generalize sm_new M72 3 (256 : Int32).toNatClampNeg = M74 at h ⊢
  obtain ⟨c75, h⟩ := h
  refine sm_w.run t160 sr160 76 1 (M2 := sm_wR M74 x0 32 (some M72.1)) (f2 := (165, [some (.ref (x0)), none], [])) rfl ⟨⟨(sm_K.p c75 (sm_sh.rf _)).1, (sm_K.p c75 (sm_sh.rf _)).2.1, (sm_K.p c75 (sm_sh.rf _)).2.2, rfl⟩, trivial⟩ ?_
  have h := h _ rfl
  generalize sm_wR M74 x0 32 (some M72.1) = M76 at h ⊢
  obtain ⟨c77, h⟩ := h
  refine sm_w.run t160 sr160 77 3 (M2 := sm_new M76 0 (9600 : Int32).toNatClampNeg) (f2 := (171, [some (.ref (x0)), none], [.ref (M76.1), .ref (x0)])) rfl ⟨trivial, trivial, c77, trivial⟩ ?_
  have h := h _ rfl
  generalize sm_new M76 0 (9600 : Int32).toNatClampNeg = M78 at h ⊢
  obtain ⟨c79, h⟩ := h
  refine sm_w.run t160 sr160 80 1 (M2 := sm_wR M78 x0 37 (some M76.1)) (f2 := (174, [some (.ref (x0)), none], [])) rfl ⟨⟨(sm_K.p c79 (sm_sh.rf _)).1, (sm_K.p c79 (sm_sh.rf _)).2.1, (sm_K.p c79 (sm_sh.rf _)).2.2, rfl⟩, trivial⟩ ?_
  have h := h _ rfl
  generalize sm_wR M78 x0 37 (some M76.1) = M80 at h ⊢
  obtain ⟨c81, h⟩ := h
  refine sm_w.run t160 sr160 81 3 (M2 := sm_new M80 0 (600 : Int32).toNatClampNeg) (f2 := (180, [some (.ref (x0)), none], [.ref (M80.1), .ref (x0)])) rfl ⟨trivial, trivial, c81, trivial⟩ ?_
  have h := h _ rfl
  generalize sm_new M80 0 (600 : Int32).toNatClampNeg = M82 at h ⊢
  obtain ⟨c83, h⟩ := h
  refine sm_w.run t160 sr160 84 1 (M2 := sm_wR M82 x0 38 (some M80.1)) (f2 := (183, [some (.ref (x0)), none], [])) rfl ⟨⟨(sm_K.p c83 (sm_sh.rf _)).1, (sm_K.p c83 (sm_sh.rf _)).2.1, (sm_K.p c83 (sm_sh.rf _)).2.2, rfl⟩, trivial⟩ ?_
  have h := h _ rfl
  generalize sm_wR M82 x0 38 (some M80.1) = M84 at h ⊢
  obtain ⟨c85, h⟩ := h
  refine sm_w.run t160 sr160 85 3 (M2 := sm_new M84 0 (10200 : Int32).toNatClampNeg) (f2 := (189, [some (.ref (x0)), none], [.ref (M84.1), .ref (x0)])) rfl ⟨trivial, trivial, c85, trivial⟩ ?_
  have h := h _ rfl
  generalize sm_new M84 0 (10200 : Int32).toNatClampNeg = M86 at h ⊢
  obtain ⟨c87, h⟩ := h
  refine sm_w.run t160 sr160 88 1 (M2 := sm_wR M86 x0 39 (some M84.1)) (f2 := (192, [some (.ref (x0)), none], [])) rfl ⟨⟨(sm_K.p c87 (sm_sh.rf _)).1, (sm_K.p c87 (sm_sh.rf _)).2.1, (sm_K.p c87 (sm_sh.rf _)).2.2, rfl⟩, trivial⟩ ?_
  have h := h _ rfl
  generalize sm_wR M86 x0 39 (some M84.1) = M88 at h ⊢
  obtain ⟨c89, h⟩ := h
  refine sm_w.run t160 sr160 89 3 (M2 := sm_new M88 0 (3840 : Int32).toNatClampNeg) (f2 := (198, [some (.ref (x0)), none], [.ref (M88.1), .ref (x0)])) rfl ⟨trivial, trivial, c89, trivial⟩ ?_
  have h := h _ rfl
  generalize sm_new M88 0 (3840 : Int32).toNatClampNeg = M90 at h ⊢
  obtain ⟨c91, h⟩ := h
  refine sm_w.run t160 sr160 92 1 (M2 := sm_wR M90 x0 40 (some M88.1)) (f2 := (201, [some (.ref (x0)), none], [])) rfl ⟨⟨(sm_K.p c91 (sm_sh.rf _)).1, (sm_K.p c91 (sm_sh.rf _)).2.1, (sm_K.p c91 (sm_sh.rf _)).2.2, rfl⟩, trivial⟩ ?_
  have h := h _ rfl
  generalize sm_wR M90 x0 40 (some M88.1) = M92 at h ⊢
  obtain ⟨c93, h⟩ := h
  refine sm_w.run t160 sr160 93 3 (M2 := sm_new M92 0 (120 : Int32).toNatClampNeg) (f2 := (206, [some (.ref (x0)), none], [.ref (M92.1), .ref (x0)])) rfl ⟨trivial, trivial, c93, trivial⟩ ?_
  have h := h _ rfl
  generalize sm_new M92 0 (120 : Int32).toNatClampNeg = M94 at h ⊢
  obtain ⟨c95, h⟩ := h
  refine sm_w.run t160 sr160 96 1 (M2 := sm_wR M94 x0 41 (some M92.1)) (f2 := (209, [some (.ref (x0)), none], [])) rfl ⟨⟨(sm_K.p c95 (sm_sh.rf _)).1, (sm_K.p c95 (sm_sh.rf _)).2.1, (sm_K.p c95 (sm_sh.rf _)).2.2, rfl⟩, trivial⟩ ?_
  have h := h _ rfl
  generalize sm_wR M94 x0 41 (some M92.1) = M96 at h ⊢
  obtain ⟨c97, h⟩ := h
  refine sm_w.run t160 sr160 97 3 (M2 := sm_new M96 3 (3840 : Int32).toNatClampNeg) (f2 := (215, [some (.ref (x0)), none], [.ref (M96.1), .ref (x0)])) rfl ⟨trivial, trivial, c97, trivial⟩ ?_
  have h := h _ rfl
  generalize sm_new M96 3 (3840 : Int32).toNatClampNeg = M98 at h ⊢
  obtain ⟨c99, h⟩ := h
  refine sm_w.run t160 sr160 100 1 (M2 := sm_wR M98 x0 42 (some M96.1)) (f2 := (218, [some (.ref (x0)), none], [])) rfl ⟨⟨(sm_K.p c99 (sm_sh.rf _)).1, (sm_K.p c99 (sm_sh.rf _)).2.1, (sm_K.p c99 (sm_sh.rf _)).2.2, rfl⟩, trivial⟩ ?_
  have h := h _ rfl
  generalize sm_wR M98 x0 42 (some M96.1) = M100 at h ⊢
  obtain ⟨c101, h⟩ := h
  refine sm_w.run t160 sr160 101 3 (M2 := sm_new M100 0 (40 : Int32).toNatClampNeg) (f2 := (223, [some (.ref (x0)), none], [.ref (M100.1), .ref (x0)])) rfl ⟨trivial, trivial, c101, trivial⟩ ?_
  have h := h _ rfl
  generalize sm_new M100 0 (40 : Int32).toNatClampNeg = M102 at h ⊢
  obtain ⟨c103, h⟩ := h
  refine sm_w.run t160 sr160 104 1 (M2 := sm_wR M102 x0 47 (some M100.1)) (f2 := (226, [some (.ref (x0)), none], [])) rfl ⟨⟨(sm_K.p c103 (sm_sh.rf _)).1, (sm_K.p c103 (sm_sh.rf _)).2.1, (sm_K.p c103 (sm_sh.rf _)).2.2, rfl⟩, trivial⟩ ?_
  have h := h _ rfl
  generalize sm_wR M102 x0 47 (some M100.1) = M104 at h ⊢
  obtain ⟨c105, h⟩ := h
  refine sm_w.run t160 sr160 105 3 (M2 := sm_new M104 0 (40 : Int32).toNatClampNeg) (f2 := (231, [some (.ref (x0)), none], [.ref (M104.1), .ref (x0)])) rfl ⟨trivial, trivial, c105, trivial⟩ ?_
  have h := h _ rfl
  generalize sm_new M104 0 (40 : Int32).toNatClampNeg = M106 at h ⊢
  obtain ⟨c107, h⟩ := h
  refine sm_w.run t160 sr160 108 1 (M2 := sm_wR M106 x0 48 (some M104.1)) (f2 := (234, [some (.ref (x0)), none], [])) rfl ⟨⟨(sm_K.p c107 (sm_sh.rf _)).1, (sm_K.p c107 (sm_sh.rf _)).2.1, (sm_K.p c107 (sm_sh.rf _)).2.2, rfl⟩, trivial⟩ ?_
  have h := h _ rfl
  generalize sm_wR M106 x0 48 (some M104.1) = M108 at h ⊢
  obtain ⟨c109, h⟩ := h
  refine sm_w.run t160 sr160 109 3 (M2 := sm_new M108 0 (4100 : Int32).toNatClampNeg) (f2 := (240, [some (.ref (x0)), none], [.ref (M108.1), .ref (x0)])) rfl ⟨trivial, trivial, c109, trivial⟩ ?_
  have h := h _ rfl
  generalize sm_new M108 0 (4100 : Int32).toNatClampNeg = M110 at h ⊢
  obtain ⟨c111, h⟩ := h
  refine sm_w.run t160 sr160 112 1 (M2 := sm_wR M110 x0 51 (some M108.1)) (f2 := (243, [some (.ref (x0)), none], [])) rfl ⟨⟨(sm_K.p c111 (sm_sh.rf _)).1, (sm_K.p c111 (sm_sh.rf _)).2.1, (sm_K.p c111 (sm_sh.rf _)).2.2, rfl⟩, trivial⟩ ?_
  have h := h _ rfl
  generalize sm_wR M110 x0 51 (some M108.1) = M112 at h ⊢
  obtain ⟨c113, h⟩ := h
  refine sm_w.run t160 sr160 113 3 (M2 := sm_new M112 0 (4100 : Int32).toNatClampNeg) (f2 := (249, [some (.ref (x0)), none], [.ref (M112.1), .ref (x0)])) rfl ⟨trivial, trivial, c113, trivial⟩ ?_
  have h := h _ rfl
  generalize sm_new M112 0 (4100 : Int32).toNatClampNeg = M114 at h ⊢
  obtain ⟨c115, h⟩ := h
  refine sm_w.run t160 sr160 116 1 (M2 := sm_wR M114 x0 52 (some M112.1)) (f2 := (252, [some (.ref (x0)), none], [])) rfl ⟨⟨(sm_K.p c115 (sm_sh.rf _)).1, (sm_K.p c115 (sm_sh.rf _)).2.1, (sm_K.p c115 (sm_sh.rf _)).2.2, rfl⟩, trivial⟩ ?_
  have h := h _ rfl
  generalize sm_wR M114 x0 52 (some M112.1) = M116 at h ⊢
  obtain ⟨c117, h⟩ := h
  refine sm_w.run t160 sr160 117 3 (M2 := sm_new M116 3 (4100 : Int32).toNatClampNeg) (f2 := (258, [some (.ref (x0)), none], [.ref (M116.1), .ref (x0)])) rfl ⟨trivial, trivial, c117, trivial⟩ ?_
  have h := h _ rfl
  generalize sm_new M116 3 (4100 : Int32).toNatClampNeg = M118 at h ⊢
  obtain ⟨c119, h⟩ := h
  refine sm_w.run t160 sr160 120 1 (M2 := sm_wR M118 x0 53 (some M116.1)) (f2 := (261, [some (.ref (x0)), none], [])) rfl ⟨⟨(sm_K.p c119 (sm_sh.rf _)).1, (sm_K.p c119 (sm_sh.rf _)).2.1, (sm_K.p c119 (sm_sh.rf _)).2.2, rfl⟩, trivial⟩ ?_
  have h := h _ rfl
  generalize sm_wR M118 x0 53 (some M116.1) = M120 at h ⊢
  obtain ⟨c121, h⟩ := h
  refine sm_w.run t160 sr160 121 3 (M2 := sm_new M120 0 (4001 : Int32).toNatClampNeg) (f2 := (267, [some (.ref (x0)), none], [.ref (M120.1), .ref (x0)])) rfl ⟨trivial, trivial, c121, trivial⟩ ?_
  have h := h _ rfl
  generalize sm_new M120 0 (4001 : Int32).toNatClampNeg = M122 at h ⊢
  obtain ⟨c123, h⟩ := h
  refine sm_w.run t160 sr160 124 1 (M2 := sm_wR M122 x0 54 (some M120.1)) (f2 := (270, [some (.ref (x0)), none], [])) rfl ⟨⟨(sm_K.p c123 (sm_sh.rf _)).1, (sm_K.p c123 (sm_sh.rf _)).2.1, (sm_K.p c123 (sm_sh.rf _)).2.2, rfl⟩, trivial⟩ ?_
  have h := h _ rfl
  generalize sm_wR M122 x0 54 (some M120.1) = M124 at h ⊢
  obtain ⟨c125, h⟩ := h
  refine sm_w.run t160 sr160 125 3 (M2 := sm_new M124 0 (4001 : Int32).toNatClampNeg) (f2 := (276, [some (.ref (x0)), none], [.ref (M124.1), .ref (x0)])) rfl ⟨trivial, trivial, c125, trivial⟩ ?_
  have h := h _ rfl
  generalize sm_new M124 0 (4001 : Int32).toNatClampNeg = M126 at h ⊢
  obtain ⟨c127, h⟩ := h
  refine sm_w.run t160 sr160 128 1 (M2 := sm_wR M126 x0 55 (some M124.1)) (f2 := (279, [some (.ref (x0)), none], [])) rfl ⟨⟨(sm_K.p c127 (sm_sh.rf _)).1, (sm_K.p c127 (sm_sh.rf _)).2.1, (sm_K.p c127 (sm_sh.rf _)).2.2, rfl⟩, trivial⟩ ?_
  have h := h _ rfl
  generalize sm_wR M126 x0 55 (some M124.1) = M128 at h ⊢
  obtain ⟨c129, h⟩ := h
  refine sm_w.run t160 sr160 129 3 (M2 := sm_new M128 0 (8192 : Int32).toNatClampNeg) (f2 := (285, [some (.ref (x0)), none], [.ref (M128.1), .ref (x0)])) rfl ⟨trivial, trivial, c129, trivial⟩ ?_
  have h := h _ rfl
  generalize sm_new M128 0 (8192 : Int32).toNatClampNeg = M130 at h ⊢
  obtain ⟨c131, h⟩ := h
  refine sm_w.run t160 sr160 132 1 (M2 := sm_wR M130 x0 58 (some M128.1)) (f2 := (288, [some (.ref (x0)), none], [])) rfl ⟨⟨(sm_K.p c131 (sm_sh.rf _)).1, (sm_K.p c131 (sm_sh.rf _)).2.1, (sm_K.p c131 (sm_sh.rf _)).2.2, rfl⟩, trivial⟩ ?_
  have h := h _ rfl
  generalize sm_wR M130 x0 58 (some M128.1) = M132 at h ⊢
  obtain ⟨c133, h⟩ := h
  refine sm_w.run t160 sr160 133 3 (M2 := sm_new M132 0 (4001 : Int32).toNatClampNeg) (f2 := (294, [some (.ref (x0)), none], [.ref (M132.1), .ref (x0)])) rfl ⟨trivial, trivial, c133, trivial⟩ ?_
  have h := h _ rfl
  generalize sm_new M132 0 (4001 : Int32).toNatClampNeg = M134 at h ⊢
  obtain ⟨c135, h⟩ := h
  refine sm_w.run t160 sr160 136 1 (M2 := sm_wR M134 x0 68 (some M132.1)) (f2 := (297, [some (.ref (x0)), none], [])) rfl ⟨⟨(sm_K.p c135 (sm_sh.rf _)).1, (sm_K.p c135 (sm_sh.rf _)).2.1, (sm_K.p c135 (sm_sh.rf _)).2.2, rfl⟩, trivial⟩ ?_
  have h := h _ rfl
  generalize sm_wR M134 x0 68 (some M132.1) = M136 at h ⊢
  obtain ⟨c137, h⟩ := h
  refine sm_w.run t160 sr160 137 3 (M2 := sm_new M136 0 (602 : Int32).toNatClampNeg) (f2 := (303, [some (.ref (x0)), none], [.ref (M136.1), .ref (x0)])) rfl ⟨trivial, trivial, c137, trivial⟩ ?_
  have h := h _ rfl
  generalize sm_new M136 0 (602 : Int32).toNatClampNeg = M138 at h ⊢
  obtain ⟨c139, h⟩ := h
  refine sm_w.run t160 sr160 140 1 (M2 := sm_wR M138 x0 70 (some M136.1)) (f2 := (306, [some (.ref (x0)), none], [])) rfl ⟨⟨(sm_K.p c139 (sm_sh.rf _)).1, (sm_K.p c139 (sm_sh.rf _)).2.1, (sm_K.p c139 (sm_sh.rf _)).2.2, rfl⟩, trivial⟩ ?_
  have h := h _ rfl
  generalize sm_wR M138 x0 70 (some M136.1) = M140 at h ⊢
  obtain ⟨c141, h⟩ := h
  refine sm_w.run t160 sr160 141 3 (M2 := sm_new M140 0 (602 : Int32).toNatClampNeg) (f2 := (312, [some (.ref (x0)), none], [.ref (M140.1), .ref (x0)])) rfl ⟨trivial, trivial, c141, trivial⟩ ?_
  have h := h _ rfl
  generalize sm_new M140 0 (602 : Int32).toNatClampNeg = M142 at h ⊢
  obtain ⟨c143, h⟩ := h
  refine sm_w.run t160 sr160 144 1 (M2 := sm_wR M142 x0 71 (some M140.1)) (f2 := (315, [some (.ref (x0)), none], [])) rfl ⟨⟨(sm_K.p c143 (sm_sh.rf _)).1, (sm_K.p c143 (sm_sh.rf _)).2.1, (sm_K.p c143 (sm_sh.rf _)).2.2, rfl⟩, trivial⟩ ?_
  have h := h _ rfl
  generalize sm_wR M142 x0 71 (some M140.1) = M144 at h ⊢
  obtain ⟨c145, h⟩ := h
  refine sm_w.run t160 sr160 145 3 (M2 := sm_new M144 2 (602 : Int32).toNatClampNeg) (f2 := (321, [some (.ref (x0)), none], [.ref (M144.1), .ref (x0)])) rfl ⟨trivial, trivial, c145, trivial⟩ ?_
  have h := h _ rfl
  generalize sm_new M144 2 (602 : Int32).toNatClampNeg = M146 at h ⊢
  obtain ⟨c147, h⟩ := h
  refine sm_w.run t160 sr160 148 1 (M2 := sm_wR M146 x0 72 (some M144.1)) (f2 := (324, [some (.ref (x0)), none], [])) rfl ⟨⟨(sm_K.p c147 (sm_sh.rf _)).1, (sm_K.p c147 (sm_sh.rf _)).2.1, (sm_K.p c147 (sm_sh.rf _)).2.2, rfl⟩, trivial⟩ ?_
  have h := h _ rfl
  generalize sm_wR M146 x0 72 (some M144.1) = M148 at h ⊢
  obtain ⟨c149, h⟩ := h
  refine sm_w.run t160 sr160 149 3 (M2 := sm_new M148 2 (602 : Int32).toNatClampNeg) (f2 := (330, [some (.ref (x0)), none], [.ref (M148.1), .ref (x0)])) rfl ⟨trivial, trivial, c149, trivial⟩ ?_
  have h := h _ rfl
  generalize sm_new M148 2 (602 : Int32).toNatClampNeg = M150 at h ⊢
  obtain ⟨c151, h⟩ := h
  refine sm_w.run t160 sr160 152 1 (M2 := sm_wR M150 x0 73 (some M148.1)) (f2 := (333, [some (.ref (x0)), none], [])) rfl ⟨⟨(sm_K.p c151 (sm_sh.rf _)).1, (sm_K.p c151 (sm_sh.rf _)).2.1, (sm_K.p c151 (sm_sh.rf _)).2.2, rfl⟩, trivial⟩ ?_
  have h := h _ rfl
  generalize sm_wR M150 x0 73 (some M148.1) = M152 at h ⊢
  obtain ⟨c153, h⟩ := h
  refine sm_w.run t160 sr160 153 3 (M2 := sm_new M152 2 (602 : Int32).toNatClampNeg) (f2 := (339, [some (.ref (x0)), none], [.ref (M152.1), .ref (x0)])) rfl ⟨trivial, trivial, c153, trivial⟩ ?_
  have h := h _ rfl
  generalize sm_new M152 2 (602 : Int32).toNatClampNeg = M154 at h ⊢
  obtain ⟨c155, h⟩ := h
  refine sm_w.run t160 sr160 156 1 (M2 := sm_wR M154 x0 74 (some M152.1)) (f2 := (342, [some (.ref (x0)), none], [])) rfl ⟨⟨(sm_K.p c155 (sm_sh.rf _)).1, (sm_K.p c155 (sm_sh.rf _)).2.1, (sm_K.p c155 (sm_sh.rf _)).2.2, rfl⟩, trivial⟩ ?_
  have h := h _ rfl
  generalize sm_wR M154 x0 74 (some M152.1) = M156 at h ⊢
  obtain ⟨c157, h⟩ := h
  refine sm_w.run t160 sr160 157 3 (M2 := sm_new M156 2 (602 : Int32).toNatClampNeg) (f2 := (348, [some (.ref (x0)), none], [.ref (M156.1), .ref (x0)])) rfl ⟨trivial, trivial, c157, trivial⟩ ?_
  have h := h _ rfl
  generalize sm_new M156 2 (602 : Int32).toNatClampNeg = M158 at h ⊢
  obtain ⟨c159, h⟩ := h
  refine sm_w.run t160 sr160 160 1 (M2 := sm_wR M158 x0 75 (some M156.1)) (f2 := (351, [some (.ref (x0)), none], [])) rfl ⟨⟨(sm_K.p c159 (sm_sh.rf _)).1, (sm_K.p c159 (sm_sh.rf _)).2.1, (sm_K.p c159 (sm_sh.rf _)).2.2, rfl⟩, trivial⟩ ?_
  have h := h _ rfl
  generalize sm_wR M158 x0 75 (some M156.1) = M160 at h ⊢
  obtain ⟨c161, h⟩ := h
  refine sm_w.run t160 sr160 161 3 (M2 := sm_new M160 2 (602 : Int32).toNatClampNeg) (f2 := (357, [some (.ref (x0)), none], [.ref (M160.1), .ref (x0)])) rfl ⟨trivial, trivial, c161, trivial⟩ ?_
  have h := h _ rfl
  generalize sm_new M160 2 (602 : Int32).toNatClampNeg = M162 at h ⊢
  obtain ⟨c163, h⟩ := h
  refine sm_w.run t160 sr160 164 1 (M2 := sm_wR M162 x0 76 (some M160.1)) (f2 := (360, [some (.ref (x0)), none], [])) rfl ⟨⟨(sm_K.p c163 (sm_sh.rf _)).1, (sm_K.p c163 (sm_sh.rf _)).2.1, (sm_K.p c163 (sm_sh.rf _)).2.2, rfl⟩, trivial⟩ ?_
  have h := h _ rfl
  generalize sm_wR M162 x0 76 (some M160.1) = M164 at h ⊢
  obtain ⟨c165, h⟩ := h
  refine sm_w.run t160 sr160 165 3 (M2 := sm_new M164 3 (4002 : Int32).toNatClampNeg) (f2 := (366, [some (.ref (x0)), none], [.ref (M164.1), .ref (x0)])) rfl ⟨trivial, trivial, c165, trivial⟩ ?_
  have h := h _ rfl
  generalize sm_new M164 3 (4002 : Int32).toNatClampNeg = M166 at h ⊢
  obtain ⟨c167, h⟩ := h
  refine sm_w.run t160 sr160 168 1 (M2 := sm_wR M166 x0 77 (some M164.1)) (f2 := (369, [some (.ref (x0)), none], [])) rfl ⟨⟨(sm_K.p c167 (sm_sh.rf _)).1, (sm_K.p c167 (sm_sh.rf _)).2.1, (sm_K.p c167 (sm_sh.rf _)).2.2, rfl⟩, trivial⟩ ?_
  have h := h _ rfl
  generalize sm_wR M166 x0 77 (some M164.1) = M168 at h ⊢
  obtain ⟨c169, h⟩ := h
  refine sm_w.run t160 sr160 169 3 (M2 := sm_new M168 2 (2408 : Int32).toNatClampNeg) (f2 := (375, [some (.ref (x0)), none], [.ref (M168.1), .ref (x0)])) rfl ⟨trivial, trivial, c169, trivial⟩ ?_
  have h := h _ rfl
  generalize sm_new M168 2 (2408 : Int32).toNatClampNeg = M170 at h ⊢
  obtain ⟨c171, h⟩ := h
  refine sm_w.run t160 sr160 172 1 (M2 := sm_wR M170 x0 86 (some M168.1)) (f2 := (378, [some (.ref (x0)), none], [])) rfl ⟨⟨(sm_K.p c171 (sm_sh.rf _)).1, (sm_K.p c171 (sm_sh.rf _)).2.1, (sm_K.p c171 (sm_sh.rf _)).2.2, rfl⟩, trivial⟩ ?_
  have h := h _ rfl
  generalize sm_wR M170 x0 86 (some M168.1) = M172 at h ⊢
  obtain ⟨c173, h⟩ := h
  refine sm_w.run t160 sr160 173 3 (M2 := sm_new M172 0 (2408 : Int32).toNatClampNeg) (f2 := (384, [some (.ref (x0)), none], [.ref (M172.1), .ref (x0)])) rfl ⟨trivial, trivial, c173, trivial⟩ ?_
  have h := h _ rfl
  generalize sm_new M172 0 (2408 : Int32).toNatClampNeg = M174 at h ⊢
  obtain ⟨c175, h⟩ := h
  refine sm_w.run t160 sr160 176 1 (M2 := sm_wR M174 x0 87 (some M172.1)) (f2 := (387, [some (.ref (x0)), none], [])) rfl ⟨⟨(sm_K.p c175 (sm_sh.rf _)).1, (sm_K.p c175 (sm_sh.rf _)).2.1, (sm_K.p c175 (sm_sh.rf _)).2.2, rfl⟩, trivial⟩ ?_
  have h := h _ rfl
  generalize sm_wR M174 x0 87 (some M172.1) = M176 at h ⊢
  obtain ⟨c177, h⟩ := h
  refine sm_w.run t160 sr160 177 3 (M2 := sm_new M176 3 (2408 : Int32).toNatClampNeg) (f2 := (393, [some (.ref (x0)), none], [.ref (M176.1), .ref (x0)])) rfl ⟨trivial, trivial, c177, trivial⟩ ?_
  have h := h _ rfl
  generalize sm_new M176 3 (2408 : Int32).toNatClampNeg = M178 at h ⊢
  obtain ⟨c179, h⟩ := h
  refine sm_w.run t160 sr160 180 1 (M2 := sm_wR M178 x0 88 (some M176.1)) (f2 := (396, [some (.ref (x0)), none], [])) rfl ⟨⟨(sm_K.p c179 (sm_sh.rf _)).1, (sm_K.p c179 (sm_sh.rf _)).2.1, (sm_K.p c179 (sm_sh.rf _)).2.2, rfl⟩, trivial⟩ ?_
  have h := h _ rfl
  generalize sm_wR M178 x0 88 (some M176.1) = M180 at h ⊢
  obtain ⟨c181, h⟩ := h
  refine sm_w.run t160 sr160 181 3 (M2 := sm_new M180 0 (602 : Int32).toNatClampNeg) (f2 := (402, [some (.ref (x0)), none], [.ref (M180.1), .ref (x0)])) rfl ⟨trivial, trivial, c181, trivial⟩ ?_
  have h := h _ rfl
  generalize sm_new M180 0 (602 : Int32).toNatClampNeg = M182 at h ⊢
  obtain ⟨c183, h⟩ := h
  refine sm_w.run t160 sr160 184 1 (M2 := sm_wR M182 x0 89 (some M180.1)) (f2 := (405, [some (.ref (x0)), none], [])) rfl ⟨⟨(sm_K.p c183 (sm_sh.rf _)).1, (sm_K.p c183 (sm_sh.rf _)).2.1, (sm_K.p c183 (sm_sh.rf _)).2.2, rfl⟩, trivial⟩ ?_
  have h := h _ rfl
  generalize sm_wR M182 x0 89 (some M180.1) = M184 at h ⊢
  obtain ⟨c185, h⟩ := h
  refine sm_w.run t160 sr160 185 3 (M2 := sm_new M184 0 (602 : Int32).toNatClampNeg) (f2 := (411, [some (.ref (x0)), none], [.ref (M184.1), .ref (x0)])) rfl ⟨trivial, trivial, c185, trivial⟩ ?_
  have h := h _ rfl
  generalize sm_new M184 0 (602 : Int32).toNatClampNeg = M186 at h ⊢
  obtain ⟨c187, h⟩ := h
  refine sm_w.run t160 sr160 188 1 (M2 := sm_wR M186 x0 90 (some M184.1)) (f2 := (414, [some (.ref (x0)), none], [])) rfl ⟨⟨(sm_K.p c187 (sm_sh.rf _)).1, (sm_K.p c187 (sm_sh.rf _)).2.1, (sm_K.p c187 (sm_sh.rf _)).2.2, rfl⟩, trivial⟩ ?_
  have h := h _ rfl
  generalize sm_wR M186 x0 90 (some M184.1) = M188 at h ⊢
  obtain ⟨c189, h⟩ := h
  refine sm_w.run t160 sr160 189 3 (M2 := sm_new M188 2 (602 : Int32).toNatClampNeg) (f2 := (420, [some (.ref (x0)), none], [.ref (M188.1), .ref (x0)])) rfl ⟨trivial, trivial, c189, trivial⟩ ?_
  have h := h _ rfl
  generalize sm_new M188 2 (602 : Int32).toNatClampNeg = M190 at h ⊢
  obtain ⟨c191, h⟩ := h
  refine sm_w.run t160 sr160 192 1 (M2 := sm_wR M190 x0 91 (some M188.1)) (f2 := (423, [some (.ref (x0)), none], [])) rfl ⟨⟨(sm_K.p c191 (sm_sh.rf _)).1, (sm_K.p c191 (sm_sh.rf _)).2.1, (sm_K.p c191 (sm_sh.rf _)).2.2, rfl⟩, trivial⟩ ?_
  have h := h _ rfl
  generalize sm_wR M190 x0 91 (some M188.1) = M192 at h ⊢
  refine sm_w.run t160 sr160 193 2 (M2 := M192) (f2 := (425, [some (.ref (x0)), some (.int ((0 : Int32)))], [])) rfl ⟨trivial, (Nat.le_of_ble_eq_true rfl), trivial⟩ ?_
  exact h
theorem c160_1 {M : sm_M} {x0 : Nat} {x1 : Int32} {Q : Outcome → sm_M → Prop} (h : (((256 : Int32) ≤ x1 → (sm_K M x0 28) ∧ ∀ M2, M2 = sm_wI M x0 33 (2 : Int32) → ∀ M4, M4 = sm_wI M2 x0 34 (3 : Int32) → Q (.returned none) M4) ∧ (¬ (256 : Int32) ≤ x1 → (sm_K M x0 28) ∧ ∃ r7, sm_rv M x0 14 = some r7 ∧ (sm_K M r7 0) ∧ (vp_in x1 (sm_ln M r7)) ∧ ∀ M11, M11 = sm_wI M r7 x1.toNatClampNeg (500 : Int32) → sm_w 160 (425, [some (.ref (x0)), some (.int (x1 + (1 : Int32)))], []) M11 Q))) : sm_w 160 (425, [some (.ref (x0)), some (.int (x1))], []) M Q := by
  refine sm_w.run t160 sr160 195 3 (M2 := M) (f2 := (if (256 : Int32) ≤ x1 then 447 else 432, [some (.ref (x0)), some (.int (x1))], [])) rfl ⟨trivial, trivial, trivial, trivial⟩ ?_
  refine sm_w.ite (fun hc => ?_) (fun hc => ?_)
  · have h := h.1 hc
    obtain ⟨c1, h⟩ := h
    refine sm_w.run t160 sr160 205 3 (M2 := sm_wI M x0 33 (2 : Int32)) (f2 := (452, [some (.ref (x0)), some (.int (x1))], [])) rfl ⟨trivial, trivial, ⟨(sm_K.p c1 (sm_sh.rf _)).1, (sm_K.p c1 (sm_sh.rf _)).2.1, (sm_K.p c1 (sm_sh.rf _)).2.2, Or.inl rfl⟩, trivial⟩ ?_
    have h := h _ rfl
    have s3 : sm_sh M (sm_wI M x0 33 (2 : Int32)) := sm_sh.wI (sm_sh.rf _) _ _ _
    generalize sm_wI M x0 33 (2 : Int32) = M2 at h s3 ⊢
    refine sm_w.run t160 sr160 208 3 (M2 := sm_wI M2 x0 34 (3 : Int32)) (f2 := (457, [some (.ref (x0)), some (.int (x1))], [])) rfl ⟨trivial, trivial, ⟨(sm_K.p c1 s3).1, (sm_K.p c1 s3).2.1, (sm_K.p c1 s3).2.2, Or.inl rfl⟩, trivial⟩ ?_
    have h := h _ rfl
    have s5 : sm_sh M (sm_wI M2 x0 34 (3 : Int32)) := sm_sh.wI s3 _ _ _
    generalize sm_wI M2 x0 34 (3 : Int32) = M4 at h s5 ⊢
    exact sm_w.end t160 sr160 211 (o := .returned none) (M2 := M4) rfl trivial (by decide) h
  · have h := h.2 hc
    obtain ⟨c6, h⟩ := h
    refine sm_w.run t160 sr160 198 2 (M2 := M) (f2 := (436, [some (.ref (x0)), some (.int (x1))], [va_rf (sm_rv M x0 14)])) rfl ⟨trivial, sm_K.g c6 (sm_sh.rf _), trivial⟩ ?_
    obtain ⟨r7, e8, h⟩ := h
    refine sm_w.fld (sm_sh.rv (sm_sh.rf _) e8) ?_
    obtain ⟨c9, c10, h⟩ := h
    refine sm_w.run t160 sr160 200 3 (M2 := sm_wI M r7 x1.toNatClampNeg (500 : Int32)) (f2 := (441, [some (.ref (x0)), some (.int (x1))], [])) rfl ⟨trivial, trivial, sm_K.s c9 (sm_sh.rf _) c10, trivial⟩ ?_
    have h := h _ rfl
    have s12 : sm_sh M (sm_wI M r7 x1.toNatClampNeg (500 : Int32)) := sm_sh.wI (sm_sh.rf _) _ _ _
    generalize sm_wI M r7 x1.toNatClampNeg (500 : Int32) = M11 at h s12 ⊢
    refine sm_w.run t160 sr160 203 2 (M2 := M11) (f2 := (425, [some (.ref (x0)), some (.int (x1 + (1 : Int32)))], [])) rfl ⟨(Nat.le_of_ble_eq_true rfl), trivial, trivial⟩ ?_
    exact h
set_option maxRecDepth 20000 in
theorem c225_0 {M : sm_M} {x0 : Nat} {Q : Outcome → sm_M → Prop} (h : ∀ M1, M1 = sm_new M 16 17 → (sm_K M1 M.1 16) ∧ sm_cV 0 [.ref (M.1)] M1 (fun M3 => ∀ M5, M5 = sm_new M3 28 92 → (sm_K M5 M3.1 28) ∧ sm_cV 160 [.ref (M3.1)] M5 (fun M7 => (¬ (1 : Int32) < 0 ∧ (1 : Int32).toNatClampNeg * 8 ≤ 536870912) ∧ ∀ M10, M10 = sm_new M7 2 (1 : Int32).toNatClampNeg → sm_w 225 (23, [some (.ref (x0)), some (.ref (M.1)), some (.ref (M3.1)), some (.ref (M7.1)), some (.int ((0 : Int32))), none, none, none], []) M10 Q))) : sm_w 225 (0, [some (.ref (x0)), none, none, none, none, none, none, none], []) M Q := by
  refine sm_w.run t225 sr225 0 1 (M2 := sm_new M 16 17) (f2 := (3, [some (.ref (x0)), none, none, none, none, none, none, none], [.ref (M.1)])) rfl ⟨trivial, trivial⟩ ?_
  have h := h _ rfl
  generalize sm_new M 16 17 = M1 at h ⊢
  obtain ⟨c2, h⟩ := h
  refine sm_w.run t225 sr225 1 1 (M2 := M1) (f2 := (4, [some (.ref (x0)), none, none, none, none, none, none, none], [.ref (M.1), .ref (M.1)])) rfl ⟨rfl, trivial⟩ ?_
  refine sm_w.cV t225 sr225 2 (i := 0) (as := [.ref (M.1)]) (g := (4, [some (.ref (x0)), none, none, none, none, none, none, none], [.ref (M.1)])) rfl ⟨by decide, by decide, (Nat.le_of_ble_eq_true rfl), (sm_K.g c2 (sm_sh.rf _)).1, (sm_K.g c2 (sm_sh.rf _)).2, (Nat.le_of_ble_eq_true rfl)⟩ (Nat.le_of_ble_eq_true rfl) (by decide) h (fun M3 h => ?_)
  refine sm_w.run t225 sr225 3 2 (M2 := sm_new M3 28 92) (f2 := (11, [some (.ref (x0)), some (.ref (M.1)), none, none, none, none, none, none], [.ref (M3.1)])) rfl ⟨(Nat.le_of_ble_eq_true rfl), trivial, trivial⟩ ?_
  have h := h _ rfl
  generalize sm_new M3 28 92 = M5 at h ⊢
  obtain ⟨c6, h⟩ := h
  refine sm_w.run t225 sr225 5 1 (M2 := M5) (f2 := (12, [some (.ref (x0)), some (.ref (M.1)), none, none, none, none, none, none], [.ref (M3.1), .ref (M3.1)])) rfl ⟨rfl, trivial⟩ ?_
  refine sm_w.cV t225 sr225 6 (i := 160) (as := [.ref (M3.1)]) (g := (12, [some (.ref (x0)), some (.ref (M.1)), none, none, none, none, none, none], [.ref (M3.1)])) rfl ⟨by decide, by decide, (Nat.le_of_ble_eq_true rfl), (sm_K.g c6 (sm_sh.rf _)).1, (sm_K.g c6 (sm_sh.rf _)).2, (Nat.le_of_ble_eq_true rfl)⟩ (Nat.le_of_ble_eq_true rfl) (by decide) h (fun M7 h => ?_)
  obtain ⟨c9, h⟩ := h
  refine sm_w.run t225 sr225 7 3 (M2 := sm_new M7 2 (1 : Int32).toNatClampNeg) (f2 := (19, [some (.ref (x0)), some (.ref (M.1)), some (.ref (M3.1)), none, none, none, none, none], [.ref (M7.1)])) rfl ⟨(Nat.le_of_ble_eq_true rfl), trivial, c9, trivial⟩ ?_
  have h := h _ rfl
  generalize sm_new M7 2 (1 : Int32).toNatClampNeg = M10 at h ⊢
  refine sm_w.run t225 sr225 10 3 (M2 := M10) (f2 := (23, [some (.ref (x0)), some (.ref (M.1)), some (.ref (M3.1)), some (.ref (M7.1)), some (.int ((0 : Int32))), none, none, none], [])) rfl ⟨(Nat.le_of_ble_eq_true rfl), trivial, (Nat.le_of_ble_eq_true rfl), trivial⟩ ?_
  exact h
theorem c9_0 {M : sm_M} {x0 : Nat} {x1 : Int32} {Q : Outcome → sm_M → Prop} (h : (sm_K M x0 0) ∧ sm_w 9 (5, [some (.ref (x0)), some (.int (x1)), some (.int ((0 : Int32))), some (.int (Int32.ofNat (sm_ln M x0)))], []) M Q) : sm_w 9 (0, [some (.ref (x0)), some (.int (x1)), none, none], []) M Q := by
  obtain ⟨c1, h⟩ := h
  refine sm_w.run t9 sr9 0 5 (M2 := M) (f2 := (5, [some (.ref (x0)), some (.int (x1)), some (.int ((0 : Int32))), some (.int (Int32.ofNat (sm_ln M x0)))], [])) rfl ⟨trivial, (Nat.le_of_ble_eq_true rfl), trivial, sm_K.l c1 (sm_sh.rf _) (by decide), (Nat.le_of_ble_eq_true rfl), trivial⟩ ?_
  exact h
theorem c9_1 {M : sm_M} {x0 : Nat} {x1 : Int32} {x2 : Int32} {x3 : Int32} {Q : Outcome → sm_M → Prop} (h : ((x3 ≤ x2 → Q (.returned none) M) ∧ (¬ x3 ≤ x2 → (sm_K M x0 0) ∧ (vp_in x2 (sm_ln M x0)) ∧ ∀ M3, M3 = sm_wI M x0 x2.toNatClampNeg x1 → sm_w 9 (5, [some (.ref (x0)), some (.int (x1)), some (.int (x2 + (1 : Int32))), some (.int (x3))], []) M3 Q))) : sm_w 9 (5, [some (.ref (x0)), some (.int (x1)), some (.int (x2)), some (.int (x3))], []) M Q := by
  refine sm_w.run t9 sr9 5 3 (M2 := M) (f2 := (if x3 ≤ x2 then 20 else 10, [some (.ref (x0)), some (.int (x1)), some (.int (x2)), some (.int (x3))], [])) rfl ⟨trivial, trivial, trivial, trivial⟩ ?_
  refine sm_w.ite (fun hc => ?_) (fun hc => ?_)
  · have h := h.1 hc
    exact sm_w.end t9 sr9 14 (o := .returned none) (M2 := M) rfl trivial (by decide) h
  · have h := h.2 hc
    obtain ⟨c1, c2, h⟩ := h
    refine sm_w.run t9 sr9 8 4 (M2 := sm_wI M x0 x2.toNatClampNeg x1) (f2 := (14, [some (.ref (x0)), some (.int (x1)), some (.int (x2)), some (.int (x3))], [])) rfl ⟨trivial, trivial, trivial, sm_K.s c1 (sm_sh.rf _) c2, trivial⟩ ?_
    have h := h _ rfl
    have s4 : sm_sh M (sm_wI M x0 x2.toNatClampNeg x1) := sm_sh.wI (sm_sh.rf _) _ _ _
    generalize sm_wI M x0 x2.toNatClampNeg x1 = M3 at h s4 ⊢
    refine sm_w.run t9 sr9 12 2 (M2 := M3) (f2 := (5, [some (.ref (x0)), some (.int (x1)), some (.int (x2 + (1 : Int32))), some (.int (x3))], [])) rfl ⟨(Nat.le_of_ble_eq_true rfl), trivial, trivial⟩ ?_
    exact h
section FILL
variable {L : Nat} {xs : Nat → Int32} {n s : Nat} {l : List (Nat × Nat × Nat)} {w : List (Nat × Nat × Nat × Int32)} {M : sm_M}
theorem ZS.up {a i : Nat} {x : Int32} (h : ZS L xs n s l ((a, 0, i, x) :: w) M) : ZS L xs n s l ((a, 0, i + 1, x) :: w) (sm_wI M a i x) := by
  obtain ⟨h1, h2, h3, h4, h5, h6, h7, h8, h9⟩ := h
  refine ⟨h1, h2, h3, h4, h5, fun b j => ?_, h7, h8, h9⟩
  rw [iV_wI, h6, zlk_c, zlk_c]
  by_cases c : b = a ∧ j = i
  · rw [if_pos c, if_pos ⟨c.1, by omega, by omega⟩]
  · rw [if_neg c]
    by_cases c2 : b = a ∧ 0 ≤ j ∧ j < i
    · rw [if_pos c2, if_pos ⟨c2.1, by omega, by omega⟩]
    · rw [if_neg c2, if_neg (by omega)]
theorem ZS.st (h : ZS L xs n s l w M) (a : Nat) (x : Int32) : ZS L xs n s l ((a, 0, 0, x) :: w) M := by
  obtain ⟨h1, h2, h3, h4, h5, h6, h7, h8, h9⟩ := h
  refine ⟨h1, h2, h3, h4, h5, fun b j => ?_, h7, h8, h9⟩
  rw [zlk_c, if_neg (by omega)]; exact h6 b j
theorem w9_1 (a N : Nat) (x : Int32) (e : (Nat.ble 23 a && Nat.blt a n && Nat.beq (sKD a) 0) = true) (e2 : (Nat.blt 0 a && Nat.blt a n && Nat.beq (sLN a) N) = true) (hN : N ≤ 8192) : ∀ (d i : Nat), N - i = d → i ≤ N → ∀ M, ZS L xs n s l ((a, 0, i, x) :: w) M → sm_w 9 (5, [some (.ref a), some (.int x), some (.int (Int32.ofNat i)), some (.int (Int32.ofNat N))], []) M (rV (ZS L xs n s l ((a, 0, N, x) :: w))) := by
  intro d
  induction d with
  | zero =>
    intro i hd hi M h
    have ei : i = N := by omega
    subst ei
    exact c9_1 ⟨fun _ => ⟨rfl, h⟩, fun c => absurd ((o_le (by omega) (by omega)).mpr (Nat.le_refl _)) c⟩
  | succ d ih =>
    intro i hd hi M h
    refine c9_1 ⟨fun c => absurd ((o_le (by omega) (by omega)).mp c) (by omega), fun _ => ⟨h.K a 0 e, by rw [h.ln a N e2]; exact (o_in (by omega)).mpr (by omega), fun M3 e3 => ?_⟩⟩
    rw [o_s i]
    refine ih (i + 1) (by omega) (by omega) M3 ?_
    rw [e3, o_cl (by omega)]
    exact h.up
theorem w9 (h : ZS L xs n s l w M) (a N : Nat) (x : Int32) (e : (Nat.ble 23 a && Nat.blt a n && Nat.beq (sKD a) 0) = true) (e2 : (Nat.blt 0 a && Nat.blt a n && Nat.beq (sLN a) N) = true) (hN : N ≤ 8192) : sm_cV 9 [.ref a, .int x] M (ZS L xs n s l ((a, 0, N, x) :: w)) := by
  refine c9_0 (Q := rV _) ⟨h.K a 0 e, ?_⟩
  rw [h.ln a N e2]
  exact w9_1 a N x e e2 hN N 0 (by omega) (by omega) M (h.st a x)
theorem w160_2 (e : (Nat.blt 120 n && l.contains (116, 14, 120)) = true) (h1 : 165 ≤ n + 1) : ∀ (d i : Nat), 256 - i = d → i ≤ 256 → ∀ M, ZS L xs n s l ((120, 0, i, 500) :: w) M → sm_w 160 (425, [some (.ref 116), some (.int (Int32.ofNat i))], []) M (rV (ZS L xs n s l ((116, 34, 35, 3) :: (116, 33, 34, 2) :: (120, 0, 256, 500) :: w))) := by
  rw [Bool.and_eq_true] at e
  intro d
  induction d with
  | zero =>
    intro i hd hi M h
    have ei : i = 256 := by omega
    subst ei
    refine c160_1 ⟨fun _ => ⟨h.K 116 28 ?_, fun M2 e2 M4 e4 => ?_⟩, fun c => absurd (show (256 : Int32) ≤ Int32.ofNat 256 from by decide) c⟩
    · rw [show (Nat.blt 116 n) = true from Nat.ble_eq_true_of_le (by omega)]; rfl
    · refine ⟨rfl, ?_⟩
      rw [e4, e2]
      exact (h.wI 116 33 2).wI 116 34 3
  | succ d ih =>
    intro i hd hi M h
    have hb : Nat.blt 120 n = true := Nat.ble_eq_true_of_le (by omega)
    refine c160_1 ⟨fun c => absurd ((o_le (n := 256) (by omega) (by omega)).mp c) (by omega), fun _ => ⟨h.K 116 28 ?_, 120, h.R 116 14 120 e.2, h.K 120 0 ?_, ?_, fun M3 e3 => ?_⟩⟩
    · rw [show (Nat.blt 116 n) = true from Nat.ble_eq_true_of_le (by omega)]; rfl
    · rw [hb]; rfl
    · rw [h.ln 120 256 (by rw [hb]; rfl)]; exact (o_in (by omega)).mpr (by omega)
    · rw [o_s i]
      refine ih (i + 1) (by omega) (by omega) M3 ?_
      rw [e3, o_cl (by omega)]
      exact h.up
theorem w160_1 (h : ZS L xs n s l w M) (e : (Nat.blt 120 n && l.contains (116, 14, 120)) = true) (h1 : 165 ≤ n + 1) : sm_w 160 (425, [some (.ref 116), some (.int (0 : Int32))], []) M (rV (ZS L xs n s l ((116, 34, 35, 3) :: (116, 33, 34, 2) :: (120, 0, 256, 500) :: w))) := w160_2 e h1 256 0 (by omega) (by omega) M (h.st 120 500)
end FILL

def zl_0 : List (Nat × Nat × Nat) := [(1, 0, 2), (3, 0, 4), (5, 0, 6), (7, 0, 8)]
def zw_0 : List (Nat × Nat × Nat × Int32) := []
section MAKE
variable {L : Nat} {xs : Nat → Int32}
def zl_1 : List (Nat × Nat × Nat) := (24, 0, 25) :: zl_0
def zw_1 : List (Nat × Nat × Nat × Int32) := (24, 1, 2, (0 : Int32)) :: zw_0
theorem w1_24 {M : sm_M} (h : ZS L xs 25 19 zl_0 zw_0 M) : sm_cV 1 [.ref 24, .int (8192)] M (ZS L xs 26 8211 zl_1 zw_1) := by
  refine c1_0 (Q := rV _) ?_
  rw [h.1]
  refine ⟨h.K 24 17 rfl, by decide, fun M3 eM3 => ?_⟩
  have hM3 : ZS L xs 26 8211 zl_0 zw_0 M3 := by rw [eM3]; exact h.new 1 (by decide) rfl rfl rfl
  refine ⟨hM3.K 24 17 rfl, fun M5 eM5 => ?_⟩
  have hM5 : ZS L xs 26 8211 zl_1 zw_0 M5 := by rw [eM5]; exact hM3.wR 24 0 25 rfl
  refine ⟨hM5.K 24 17 rfl, fun M7 eM7 => ?_⟩
  have hM7 : ZS L xs 26 8211 zl_1 zw_1 M7 := by rw [eM7]; exact hM5.wI 24 1 (0 : Int32)
  exact ⟨rfl, hM7⟩
def zl_2 : List (Nat × Nat × Nat) := (23, 0, 24) :: zl_1
def zl_3 : List (Nat × Nat × Nat) := (26, 0, 27) :: zl_2
def zw_2 : List (Nat × Nat × Nat × Int32) := (26, 1, 2, (0 : Int32)) :: zw_1
theorem w1_26 {M : sm_M} (h : ZS L xs 27 8213 zl_2 zw_1 M) : sm_cV 1 [.ref 26, .int (6000)] M (ZS L xs 28 14213 zl_3 zw_2) := by
  refine c1_0 (Q := rV _) ?_
  rw [h.1]
  refine ⟨h.K 26 17 rfl, by decide, fun M3 eM3 => ?_⟩
  have hM3 : ZS L xs 28 14213 zl_2 zw_1 M3 := by rw [eM3]; exact h.new 1 (by decide) rfl rfl rfl
  refine ⟨hM3.K 26 17 rfl, fun M5 eM5 => ?_⟩
  have hM5 : ZS L xs 28 14213 zl_3 zw_1 M5 := by rw [eM5]; exact hM3.wR 26 0 27 rfl
  refine ⟨hM5.K 26 17 rfl, fun M7 eM7 => ?_⟩
  have hM7 : ZS L xs 28 14213 zl_3 zw_2 M7 := by rw [eM7]; exact hM5.wI 26 1 (0 : Int32)
  exact ⟨rfl, hM7⟩
def zl_4 : List (Nat × Nat × Nat) := (23, 1, 26) :: zl_3
def zl_5 : List (Nat × Nat × Nat) := (23, 2, 28) :: zl_4
def zl_6 : List (Nat × Nat × Nat) := (23, 3, 29) :: zl_5
def zl_7 : List (Nat × Nat × Nat) := (30, 0, 31) :: zl_6
def zl_8 : List (Nat × Nat × Nat) := (30, 1, 32) :: zl_7
def zw_3 : List (Nat × Nat × Nat × Int32) := (30, 2, 3, (0 : Int32)) :: zw_2
def zw_4 : List (Nat × Nat × Nat × Int32) := (30, 3, 4, (0 : Int32)) :: zw_3
theorem w2_30 {M : sm_M} (h : ZS L xs 31 22470 zl_6 zw_2 M) : sm_cV 2 [.ref 30] M (ZS L xs 33 30470 zl_8 zw_4) := by
  refine c2_0 (Q := rV _) ?_
  rw [h.1]
  refine ⟨h.K 30 18 rfl, by decide, fun M3 eM3 => ?_⟩
  have hM3 : ZS L xs 32 26470 zl_6 zw_2 M3 := by rw [eM3]; exact h.new 1 (by decide) rfl rfl rfl
  refine ⟨hM3.K 30 18 rfl, fun M5 eM5 => ?_⟩
  have hM5 : ZS L xs 32 26470 zl_7 zw_2 M5 := by rw [eM5]; exact hM3.wR 30 0 31 rfl
  rw [hM5.1]
  refine ⟨by decide, fun M7 eM7 => ?_⟩
  have hM7 : ZS L xs 33 30470 zl_7 zw_2 M7 := by rw [eM7]; exact hM5.new 0 (by decide) rfl rfl rfl
  refine ⟨hM7.K 30 18 rfl, fun M9 eM9 => ?_⟩
  have hM9 : ZS L xs 33 30470 zl_8 zw_2 M9 := by rw [eM9]; exact hM7.wR 30 1 32 rfl
  refine ⟨hM9.K 30 18 rfl, fun M11 eM11 => ?_⟩
  have hM11 : ZS L xs 33 30470 zl_8 zw_3 M11 := by rw [eM11]; exact hM9.wI 30 2 (0 : Int32)
  intro M13 eM13
  have hM13 : ZS L xs 33 30470 zl_8 zw_4 M13 := by rw [eM13]; exact hM11.wI 30 3 (0 : Int32)
  exact ⟨rfl, hM13⟩
def zl_9 : List (Nat × Nat × Nat) := (23, 4, 30) :: zl_8
def zl_10 : List (Nat × Nat × Nat) := (33, 0, 24) :: zl_9
def zw_5 : List (Nat × Nat × Nat × Int32) := (33, 1, 2, (0 : Int32)) :: zw_4
def zw_6 : List (Nat × Nat × Nat × Int32) := (33, 2, 3, (-1 : Int32)) :: zw_5
theorem w3_33 {M : sm_M} (h : ZS L xs 34 30473 zl_9 zw_4 M) : sm_cV 3 [.ref 33, .ref 24] M (ZS L xs 34 30473 zl_10 zw_6) := by
  refine c3_0 (Q := rV _) ?_
  refine ⟨h.K 33 19 rfl, fun M2 eM2 => ?_⟩
  have hM2 : ZS L xs 34 30473 zl_10 zw_4 M2 := by rw [eM2]; exact h.wR 33 0 24 rfl
  refine ⟨hM2.K 33 19 rfl, fun M4 eM4 => ?_⟩
  have hM4 : ZS L xs 34 30473 zl_10 zw_5 M4 := by rw [eM4]; exact hM2.wI 33 1 (0 : Int32)
  intro M6 eM6
  have hM6 : ZS L xs 34 30473 zl_10 zw_6 M6 := by rw [eM6]; exact hM4.wI 33 2 (-1 : Int32)
  exact ⟨rfl, hM6⟩
def zl_11 : List (Nat × Nat × Nat) := (23, 5, 33) :: zl_10
def zl_12 : List (Nat × Nat × Nat) := (34, 0, 24) :: zl_11
def zw_7 : List (Nat × Nat × Nat × Int32) := (34, 1, 2, (0 : Int32)) :: zw_6
def zw_8 : List (Nat × Nat × Nat × Int32) := (34, 2, 3, (0 : Int32)) :: zw_7
def zl_13 : List (Nat × Nat × Nat) := (34, 3, 35) :: zl_12
def zw_9 : List (Nat × Nat × Nat × Int32) := (34, 4, 5, (0 : Int32)) :: zw_8
theorem w4_34 {M : sm_M} (h : ZS L xs 35 30478 zl_11 zw_6 M) : sm_cV 4 [.ref 34, .ref 24] M (ZS L xs 36 30508 zl_13 zw_9) := by
  refine c4_0 (Q := rV _) ?_
  refine ⟨h.K 34 20 rfl, fun M2 eM2 => ?_⟩
  have hM2 : ZS L xs 35 30478 zl_12 zw_6 M2 := by rw [eM2]; exact h.wR 34 0 24 rfl
  refine ⟨hM2.K 34 20 rfl, fun M4 eM4 => ?_⟩
  have hM4 : ZS L xs 35 30478 zl_12 zw_7 M4 := by rw [eM4]; exact hM2.wI 34 1 (0 : Int32)
  intro M6 eM6
  have hM6 : ZS L xs 35 30478 zl_12 zw_8 M6 := by rw [eM6]; exact hM4.wI 34 2 (0 : Int32)
  rw [hM6.1]
  refine ⟨by decide, fun M9 eM9 => ?_⟩
  have hM9 : ZS L xs 36 30508 zl_12 zw_8 M9 := by rw [eM9]; exact hM6.new 1 (by decide) rfl rfl rfl
  refine ⟨hM9.K 34 20 rfl, fun M11 eM11 => ?_⟩
  have hM11 : ZS L xs 36 30508 zl_13 zw_8 M11 := by rw [eM11]; exact hM9.wR 34 3 35 rfl
  refine ⟨hM11.K 34 20 rfl, fun M13 eM13 => ?_⟩
  have hM13 : ZS L xs 36 30508 zl_13 zw_9 M13 := by rw [eM13]; exact hM11.wI 34 4 (0 : Int32)
  exact ⟨rfl, hM13⟩
def zl_14 : List (Nat × Nat × Nat) := (23, 6, 34) :: zl_13
def zl_15 : List (Nat × Nat × Nat) := (36, 0, 37) :: zl_14
def zl_16 : List (Nat × Nat × Nat) := (36, 1, 38) :: zl_15
def zl_17 : List (Nat × Nat × Nat) := (36, 2, 39) :: zl_16
theorem w6_40 {M : sm_M} (h : ZS L xs 41 37735 zl_17 zw_9 M) : sm_cV 6 [.ref 40] M (ZS L xs 41 37735 zl_17 zw_9) := by
  refine c6_0 (Q := rV _) ?_
  refine ⟨h.K 40 22 rfl, ?_⟩
  exact ⟨rfl, h⟩
def zl_18 : List (Nat × Nat × Nat) := (36, 3, 40) :: zl_17
theorem w5_36 {M : sm_M} (h : ZS L xs 37 30512 zl_14 zw_9 M) : sm_cV 5 [.ref 36] M (ZS L xs 41 37735 zl_18 zw_9) := by
  refine c5_0 (Q := rV _) ?_
  rw [h.1]
  refine ⟨h.K 36 21 rfl, by decide, fun M3 eM3 => ?_⟩
  have hM3 : ZS L xs 38 32916 zl_14 zw_9 M3 := by rw [eM3]; exact h.new 2 (by decide) rfl rfl rfl
  refine ⟨hM3.K 36 21 rfl, fun M5 eM5 => ?_⟩
  have hM5 : ZS L xs 38 32916 zl_15 zw_9 M5 := by rw [eM5]; exact hM3.wR 36 0 37 rfl
  rw [hM5.1]
  refine ⟨by decide, fun M7 eM7 => ?_⟩
  have hM7 : ZS L xs 39 35320 zl_15 zw_9 M7 := by rw [eM7]; exact hM5.new 0 (by decide) rfl rfl rfl
  refine ⟨hM7.K 36 21 rfl, fun M9 eM9 => ?_⟩
  have hM9 : ZS L xs 39 35320 zl_16 zw_9 M9 := by rw [eM9]; exact hM7.wR 36 1 38 rfl
  rw [hM9.1]
  refine ⟨by decide, fun M11 eM11 => ?_⟩
  have hM11 : ZS L xs 40 37724 zl_16 zw_9 M11 := by rw [eM11]; exact hM9.new 0 (by decide) rfl rfl rfl
  refine ⟨hM11.K 36 21 rfl, fun M13 eM13 => ?_⟩
  have hM13 : ZS L xs 40 37724 zl_17 zw_9 M13 := by rw [eM13]; exact hM11.wR 36 2 39 rfl
  rw [hM13.1]
  intro M14 eM14
  have hM14 : ZS L xs 41 37735 zl_17 zw_9 M14 := by rw [eM14]; exact hM13.new 22 (by decide) rfl rfl rfl
  refine ⟨hM14.K 40 22 rfl, ?_⟩
  refine (w6_40 hM14).wm fun M16 hM16 => ?_
  refine ⟨hM14.K 36 21 rfl, fun M20 eM20 => ?_⟩
  have hM20 : ZS L xs 41 37735 zl_18 zw_9 M20 := by rw [eM20]; exact hM16.wR 36 3 40 rfl
  exact ⟨rfl, hM20⟩
def zl_19 : List (Nat × Nat × Nat) := (23, 7, 36) :: zl_18
theorem w6_41 {M : sm_M} (h : ZS L xs 42 37746 zl_19 zw_9 M) : sm_cV 6 [.ref 41] M (ZS L xs 42 37746 zl_19 zw_9) := by
  refine c6_0 (Q := rV _) ?_
  refine ⟨h.K 41 22 rfl, ?_⟩
  exact ⟨rfl, h⟩
def zl_20 : List (Nat × Nat × Nat) := (23, 8, 41) :: zl_19
def zl_21 : List (Nat × Nat × Nat) := (42, 0, 43) :: zl_20
def zl_22 : List (Nat × Nat × Nat) := (42, 1, 44) :: zl_21
def zw_10 : List (Nat × Nat × Nat × Int32) := (42, 2, 3, (0 : Int32)) :: zw_9
def zl_23 : List (Nat × Nat × Nat) := (45, 0, 46) :: zl_22
def zl_24 : List (Nat × Nat × Nat) := (45, 1, 47) :: zl_23
def zl_25 : List (Nat × Nat × Nat) := (45, 2, 48) :: zl_24
def zl_26 : List (Nat × Nat × Nat) := (45, 3, 49) :: zl_25
def zw_11 : List (Nat × Nat × Nat × Int32) := (45, 4, 5, (0 : Int32)) :: zw_10
def zw_12 : List (Nat × Nat × Nat × Int32) := (46, 0, 128, -1) :: zw_11
theorem w8_45 {M : sm_M} (h : ZS L xs 46 38012 zl_22 zw_10 M) : sm_cV 8 [.ref 45, .int (200)] M (ZS L xs 50 38740 zl_26 zw_12) := by
  refine c8_0 (Q := rV _) ?_
  rw [h.1]
  refine ⟨h.K 45 24 rfl, by decide, fun M3 eM3 => ?_⟩
  have hM3 : ZS L xs 47 38140 zl_22 zw_10 M3 := by rw [eM3]; exact h.new 0 (by decide) rfl rfl rfl
  refine ⟨hM3.K 45 24 rfl, fun M5 eM5 => ?_⟩
  have hM5 : ZS L xs 47 38140 zl_23 zw_10 M5 := by rw [eM5]; exact hM3.wR 45 0 46 rfl
  rw [hM5.1]
  refine ⟨by decide, fun M7 eM7 => ?_⟩
  have hM7 : ZS L xs 48 38340 zl_23 zw_10 M7 := by rw [eM7]; exact hM5.new 0 (by decide) rfl rfl rfl
  refine ⟨hM7.K 45 24 rfl, fun M9 eM9 => ?_⟩
  have hM9 : ZS L xs 48 38340 zl_24 zw_10 M9 := by rw [eM9]; exact hM7.wR 45 1 47 rfl
  rw [hM9.1]
  refine ⟨by decide, fun M11 eM11 => ?_⟩
  have hM11 : ZS L xs 49 38540 zl_24 zw_10 M11 := by rw [eM11]; exact hM9.new 0 (by decide) rfl rfl rfl
  refine ⟨hM11.K 45 24 rfl, fun M13 eM13 => ?_⟩
  have hM13 : ZS L xs 49 38540 zl_25 zw_10 M13 := by rw [eM13]; exact hM11.wR 45 2 48 rfl
  rw [hM13.1]
  refine ⟨by decide, fun M15 eM15 => ?_⟩
  have hM15 : ZS L xs 50 38740 zl_25 zw_10 M15 := by rw [eM15]; exact hM13.new 0 (by decide) rfl rfl rfl
  refine ⟨hM15.K 45 24 rfl, fun M17 eM17 => ?_⟩
  have hM17 : ZS L xs 50 38740 zl_26 zw_10 M17 := by rw [eM17]; exact hM15.wR 45 3 49 rfl
  refine ⟨hM17.K 45 24 rfl, fun M19 eM19 => ?_⟩
  have hM19 : ZS L xs 50 38740 zl_26 zw_11 M19 := by rw [eM19]; exact hM17.wI 45 4 (0 : Int32)
  refine ⟨46, hM17.R 45 0 46 rfl, ?_⟩
  refine (w9 hM19 46 128 (-1) rfl rfl (by decide)).wm fun M23 hM23 => ?_
  exact ⟨rfl, hM23⟩
def zl_27 : List (Nat × Nat × Nat) := (42, 3, 45) :: zl_26
def zl_28 : List (Nat × Nat × Nat) := (50, 0, 51) :: zl_27
def zl_29 : List (Nat × Nat × Nat) := (50, 1, 52) :: zl_28
def zl_30 : List (Nat × Nat × Nat) := (50, 2, 53) :: zl_29
def zl_31 : List (Nat × Nat × Nat) := (50, 3, 54) :: zl_30
def zw_13 : List (Nat × Nat × Nat × Int32) := (50, 4, 5, (0 : Int32)) :: zw_12
def zw_14 : List (Nat × Nat × Nat × Int32) := (51, 0, 128, -1) :: zw_13
theorem w8_50 {M : sm_M} (h : ZS L xs 51 38745 zl_27 zw_12 M) : sm_cV 8 [.ref 50, .int (60)] M (ZS L xs 55 39053 zl_31 zw_14) := by
  refine c8_0 (Q := rV _) ?_
  rw [h.1]
  refine ⟨h.K 50 24 rfl, by decide, fun M3 eM3 => ?_⟩
  have hM3 : ZS L xs 52 38873 zl_27 zw_12 M3 := by rw [eM3]; exact h.new 0 (by decide) rfl rfl rfl
  refine ⟨hM3.K 50 24 rfl, fun M5 eM5 => ?_⟩
  have hM5 : ZS L xs 52 38873 zl_28 zw_12 M5 := by rw [eM5]; exact hM3.wR 50 0 51 rfl
  rw [hM5.1]
  refine ⟨by decide, fun M7 eM7 => ?_⟩
  have hM7 : ZS L xs 53 38933 zl_28 zw_12 M7 := by rw [eM7]; exact hM5.new 0 (by decide) rfl rfl rfl
  refine ⟨hM7.K 50 24 rfl, fun M9 eM9 => ?_⟩
  have hM9 : ZS L xs 53 38933 zl_29 zw_12 M9 := by rw [eM9]; exact hM7.wR 50 1 52 rfl
  rw [hM9.1]
  refine ⟨by decide, fun M11 eM11 => ?_⟩
  have hM11 : ZS L xs 54 38993 zl_29 zw_12 M11 := by rw [eM11]; exact hM9.new 0 (by decide) rfl rfl rfl
  refine ⟨hM11.K 50 24 rfl, fun M13 eM13 => ?_⟩
  have hM13 : ZS L xs 54 38993 zl_30 zw_12 M13 := by rw [eM13]; exact hM11.wR 50 2 53 rfl
  rw [hM13.1]
  refine ⟨by decide, fun M15 eM15 => ?_⟩
  have hM15 : ZS L xs 55 39053 zl_30 zw_12 M15 := by rw [eM15]; exact hM13.new 0 (by decide) rfl rfl rfl
  refine ⟨hM15.K 50 24 rfl, fun M17 eM17 => ?_⟩
  have hM17 : ZS L xs 55 39053 zl_31 zw_12 M17 := by rw [eM17]; exact hM15.wR 50 3 54 rfl
  refine ⟨hM17.K 50 24 rfl, fun M19 eM19 => ?_⟩
  have hM19 : ZS L xs 55 39053 zl_31 zw_13 M19 := by rw [eM19]; exact hM17.wI 50 4 (0 : Int32)
  refine ⟨51, hM17.R 50 0 51 rfl, ?_⟩
  refine (w9 hM19 51 128 (-1) rfl rfl (by decide)).wm fun M23 hM23 => ?_
  exact ⟨rfl, hM23⟩
def zl_32 : List (Nat × Nat × Nat) := (42, 4, 50) :: zl_31
def zw_15 : List (Nat × Nat × Nat × Int32) := (43, 0, 128, 500) :: zw_14
theorem w7_42 {M : sm_M} (h : ZS L xs 43 37751 zl_20 zw_9 M) : sm_cV 7 [.ref 42] M (ZS L xs 55 39053 zl_32 zw_15) := by
  refine c7_0 (Q := rV _) ?_
  rw [h.1]
  refine ⟨h.K 42 23 rfl, by decide, fun M3 eM3 => ?_⟩
  have hM3 : ZS L xs 44 37879 zl_20 zw_9 M3 := by rw [eM3]; exact h.new 0 (by decide) rfl rfl rfl
  refine ⟨hM3.K 42 23 rfl, fun M5 eM5 => ?_⟩
  have hM5 : ZS L xs 44 37879 zl_21 zw_9 M5 := by rw [eM5]; exact hM3.wR 42 0 43 rfl
  rw [hM5.1]
  refine ⟨by decide, fun M7 eM7 => ?_⟩
  have hM7 : ZS L xs 45 38007 zl_21 zw_9 M7 := by rw [eM7]; exact hM5.new 0 (by decide) rfl rfl rfl
  refine ⟨hM7.K 42 23 rfl, fun M9 eM9 => ?_⟩
  have hM9 : ZS L xs 45 38007 zl_22 zw_9 M9 := by rw [eM9]; exact hM7.wR 42 1 44 rfl
  refine ⟨hM9.K 42 23 rfl, fun M11 eM11 => ?_⟩
  have hM11 : ZS L xs 45 38007 zl_22 zw_10 M11 := by rw [eM11]; exact hM9.wI 42 2 (0 : Int32)
  rw [hM11.1]
  intro M13 eM13
  have hM13 : ZS L xs 46 38012 zl_22 zw_10 M13 := by rw [eM13]; exact hM11.new 24 (by decide) rfl rfl rfl
  refine ⟨hM13.K 45 24 rfl, ?_⟩
  refine (w8_45 hM13).wm fun M15 hM15 => ?_
  refine ⟨hM15.K 42 23 rfl, fun M18 eM18 => ?_⟩
  have hM18 : ZS L xs 50 38740 zl_27 zw_12 M18 := by rw [eM18]; exact hM15.wR 42 3 45 rfl
  rw [hM18.1]
  intro M19 eM19
  have hM19 : ZS L xs 51 38745 zl_27 zw_12 M19 := by rw [eM19]; exact hM18.new 24 (by decide) rfl rfl rfl
  refine ⟨hM19.K 50 24 rfl, ?_⟩
  refine (w8_50 hM19).wm fun M21 hM21 => ?_
  refine ⟨hM21.K 42 23 rfl, fun M24 eM24 => ?_⟩
  have hM24 : ZS L xs 55 39053 zl_32 zw_14 M24 := by rw [eM24]; exact hM21.wR 42 4 50 rfl
  refine ⟨hM24.K 42 23 rfl, 43, hM24.R 42 0 43 rfl, ?_⟩
  refine (w9 hM24 43 128 (500) rfl rfl (by decide)).wm fun M28 hM28 => ?_
  exact ⟨rfl, hM28⟩
def zl_33 : List (Nat × Nat × Nat) := (23, 9, 42) :: zl_32
def zl_34 : List (Nat × Nat × Nat) := (55, 0, 56) :: zl_33
def zl_35 : List (Nat × Nat × Nat) := (55, 1, 57) :: zl_34
def zw_16 : List (Nat × Nat × Nat × Int32) := (55, 2, 3, (0 : Int32)) :: zw_15
def zl_36 : List (Nat × Nat × Nat) := (58, 0, 59) :: zl_35
def zl_37 : List (Nat × Nat × Nat) := (58, 1, 60) :: zl_36
def zl_38 : List (Nat × Nat × Nat) := (58, 2, 61) :: zl_37
def zl_39 : List (Nat × Nat × Nat) := (58, 3, 62) :: zl_38
def zw_17 : List (Nat × Nat × Nat × Int32) := (58, 4, 5, (0 : Int32)) :: zw_16
def zw_18 : List (Nat × Nat × Nat × Int32) := (59, 0, 128, -1) :: zw_17
theorem w8_58 {M : sm_M} (h : ZS L xs 59 39319 zl_35 zw_16 M) : sm_cV 8 [.ref 58, .int (200)] M (ZS L xs 63 40047 zl_39 zw_18) := by
  refine c8_0 (Q := rV _) ?_
  rw [h.1]
  refine ⟨h.K 58 24 rfl, by decide, fun M3 eM3 => ?_⟩
  have hM3 : ZS L xs 60 39447 zl_35 zw_16 M3 := by rw [eM3]; exact h.new 0 (by decide) rfl rfl rfl
  refine ⟨hM3.K 58 24 rfl, fun M5 eM5 => ?_⟩
  have hM5 : ZS L xs 60 39447 zl_36 zw_16 M5 := by rw [eM5]; exact hM3.wR 58 0 59 rfl
  rw [hM5.1]
  refine ⟨by decide, fun M7 eM7 => ?_⟩
  have hM7 : ZS L xs 61 39647 zl_36 zw_16 M7 := by rw [eM7]; exact hM5.new 0 (by decide) rfl rfl rfl
  refine ⟨hM7.K 58 24 rfl, fun M9 eM9 => ?_⟩
  have hM9 : ZS L xs 61 39647 zl_37 zw_16 M9 := by rw [eM9]; exact hM7.wR 58 1 60 rfl
  rw [hM9.1]
  refine ⟨by decide, fun M11 eM11 => ?_⟩
  have hM11 : ZS L xs 62 39847 zl_37 zw_16 M11 := by rw [eM11]; exact hM9.new 0 (by decide) rfl rfl rfl
  refine ⟨hM11.K 58 24 rfl, fun M13 eM13 => ?_⟩
  have hM13 : ZS L xs 62 39847 zl_38 zw_16 M13 := by rw [eM13]; exact hM11.wR 58 2 61 rfl
  rw [hM13.1]
  refine ⟨by decide, fun M15 eM15 => ?_⟩
  have hM15 : ZS L xs 63 40047 zl_38 zw_16 M15 := by rw [eM15]; exact hM13.new 0 (by decide) rfl rfl rfl
  refine ⟨hM15.K 58 24 rfl, fun M17 eM17 => ?_⟩
  have hM17 : ZS L xs 63 40047 zl_39 zw_16 M17 := by rw [eM17]; exact hM15.wR 58 3 62 rfl
  refine ⟨hM17.K 58 24 rfl, fun M19 eM19 => ?_⟩
  have hM19 : ZS L xs 63 40047 zl_39 zw_17 M19 := by rw [eM19]; exact hM17.wI 58 4 (0 : Int32)
  refine ⟨59, hM17.R 58 0 59 rfl, ?_⟩
  refine (w9 hM19 59 128 (-1) rfl rfl (by decide)).wm fun M23 hM23 => ?_
  exact ⟨rfl, hM23⟩
def zl_40 : List (Nat × Nat × Nat) := (55, 3, 58) :: zl_39
def zl_41 : List (Nat × Nat × Nat) := (63, 0, 64) :: zl_40
def zl_42 : List (Nat × Nat × Nat) := (63, 1, 65) :: zl_41
def zl_43 : List (Nat × Nat × Nat) := (63, 2, 66) :: zl_42
def zl_44 : List (Nat × Nat × Nat) := (63, 3, 67) :: zl_43
def zw_19 : List (Nat × Nat × Nat × Int32) := (63, 4, 5, (0 : Int32)) :: zw_18
def zw_20 : List (Nat × Nat × Nat × Int32) := (64, 0, 128, -1) :: zw_19
theorem w8_63 {M : sm_M} (h : ZS L xs 64 40052 zl_40 zw_18 M) : sm_cV 8 [.ref 63, .int (60)] M (ZS L xs 68 40360 zl_44 zw_20) := by
  refine c8_0 (Q := rV _) ?_
  rw [h.1]
  refine ⟨h.K 63 24 rfl, by decide, fun M3 eM3 => ?_⟩
  have hM3 : ZS L xs 65 40180 zl_40 zw_18 M3 := by rw [eM3]; exact h.new 0 (by decide) rfl rfl rfl
  refine ⟨hM3.K 63 24 rfl, fun M5 eM5 => ?_⟩
  have hM5 : ZS L xs 65 40180 zl_41 zw_18 M5 := by rw [eM5]; exact hM3.wR 63 0 64 rfl
  rw [hM5.1]
  refine ⟨by decide, fun M7 eM7 => ?_⟩
  have hM7 : ZS L xs 66 40240 zl_41 zw_18 M7 := by rw [eM7]; exact hM5.new 0 (by decide) rfl rfl rfl
  refine ⟨hM7.K 63 24 rfl, fun M9 eM9 => ?_⟩
  have hM9 : ZS L xs 66 40240 zl_42 zw_18 M9 := by rw [eM9]; exact hM7.wR 63 1 65 rfl
  rw [hM9.1]
  refine ⟨by decide, fun M11 eM11 => ?_⟩
  have hM11 : ZS L xs 67 40300 zl_42 zw_18 M11 := by rw [eM11]; exact hM9.new 0 (by decide) rfl rfl rfl
  refine ⟨hM11.K 63 24 rfl, fun M13 eM13 => ?_⟩
  have hM13 : ZS L xs 67 40300 zl_43 zw_18 M13 := by rw [eM13]; exact hM11.wR 63 2 66 rfl
  rw [hM13.1]
  refine ⟨by decide, fun M15 eM15 => ?_⟩
  have hM15 : ZS L xs 68 40360 zl_43 zw_18 M15 := by rw [eM15]; exact hM13.new 0 (by decide) rfl rfl rfl
  refine ⟨hM15.K 63 24 rfl, fun M17 eM17 => ?_⟩
  have hM17 : ZS L xs 68 40360 zl_44 zw_18 M17 := by rw [eM17]; exact hM15.wR 63 3 67 rfl
  refine ⟨hM17.K 63 24 rfl, fun M19 eM19 => ?_⟩
  have hM19 : ZS L xs 68 40360 zl_44 zw_19 M19 := by rw [eM19]; exact hM17.wI 63 4 (0 : Int32)
  refine ⟨64, hM17.R 63 0 64 rfl, ?_⟩
  refine (w9 hM19 64 128 (-1) rfl rfl (by decide)).wm fun M23 hM23 => ?_
  exact ⟨rfl, hM23⟩
def zl_45 : List (Nat × Nat × Nat) := (55, 4, 63) :: zl_44
def zw_21 : List (Nat × Nat × Nat × Int32) := (56, 0, 128, 500) :: zw_20
theorem w7_55 {M : sm_M} (h : ZS L xs 56 39058 zl_33 zw_15 M) : sm_cV 7 [.ref 55] M (ZS L xs 68 40360 zl_45 zw_21) := by
  refine c7_0 (Q := rV _) ?_
  rw [h.1]
  refine ⟨h.K 55 23 rfl, by decide, fun M3 eM3 => ?_⟩
  have hM3 : ZS L xs 57 39186 zl_33 zw_15 M3 := by rw [eM3]; exact h.new 0 (by decide) rfl rfl rfl
  refine ⟨hM3.K 55 23 rfl, fun M5 eM5 => ?_⟩
  have hM5 : ZS L xs 57 39186 zl_34 zw_15 M5 := by rw [eM5]; exact hM3.wR 55 0 56 rfl
  rw [hM5.1]
  refine ⟨by decide, fun M7 eM7 => ?_⟩
  have hM7 : ZS L xs 58 39314 zl_34 zw_15 M7 := by rw [eM7]; exact hM5.new 0 (by decide) rfl rfl rfl
  refine ⟨hM7.K 55 23 rfl, fun M9 eM9 => ?_⟩
  have hM9 : ZS L xs 58 39314 zl_35 zw_15 M9 := by rw [eM9]; exact hM7.wR 55 1 57 rfl
  refine ⟨hM9.K 55 23 rfl, fun M11 eM11 => ?_⟩
  have hM11 : ZS L xs 58 39314 zl_35 zw_16 M11 := by rw [eM11]; exact hM9.wI 55 2 (0 : Int32)
  rw [hM11.1]
  intro M13 eM13
  have hM13 : ZS L xs 59 39319 zl_35 zw_16 M13 := by rw [eM13]; exact hM11.new 24 (by decide) rfl rfl rfl
  refine ⟨hM13.K 58 24 rfl, ?_⟩
  refine (w8_58 hM13).wm fun M15 hM15 => ?_
  refine ⟨hM15.K 55 23 rfl, fun M18 eM18 => ?_⟩
  have hM18 : ZS L xs 63 40047 zl_40 zw_18 M18 := by rw [eM18]; exact hM15.wR 55 3 58 rfl
  rw [hM18.1]
  intro M19 eM19
  have hM19 : ZS L xs 64 40052 zl_40 zw_18 M19 := by rw [eM19]; exact hM18.new 24 (by decide) rfl rfl rfl
  refine ⟨hM19.K 63 24 rfl, ?_⟩
  refine (w8_63 hM19).wm fun M21 hM21 => ?_
  refine ⟨hM21.K 55 23 rfl, fun M24 eM24 => ?_⟩
  have hM24 : ZS L xs 68 40360 zl_45 zw_20 M24 := by rw [eM24]; exact hM21.wR 55 4 63 rfl
  refine ⟨hM24.K 55 23 rfl, 56, hM24.R 55 0 56 rfl, ?_⟩
  refine (w9 hM24 56 128 (500) rfl rfl (by decide)).wm fun M28 hM28 => ?_
  exact ⟨rfl, hM28⟩
def zl_46 : List (Nat × Nat × Nat) := (23, 10, 55) :: zl_45
def zl_47 : List (Nat × Nat × Nat) := (68, 0, 69) :: zl_46
def zl_48 : List (Nat × Nat × Nat) := (68, 1, 70) :: zl_47
def zl_49 : List (Nat × Nat × Nat) := (68, 2, 71) :: zl_48
def zl_50 : List (Nat × Nat × Nat) := (68, 3, 72) :: zl_49
def zl_51 : List (Nat × Nat × Nat) := (68, 5, 73) :: zl_50
def zl_52 : List (Nat × Nat × Nat) := (68, 7, 74) :: zl_51
def zl_53 : List (Nat × Nat × Nat) := (68, 8, 75) :: zl_52
def zl_54 : List (Nat × Nat × Nat) := (68, 9, 76) :: zl_53
def zl_55 : List (Nat × Nat × Nat) := (68, 13, 77) :: zl_54
def zw_22 : List (Nat × Nat × Nat × Int32) := (69, 0, 1, (-1 : Int32)) :: zw_21
def zw_23 : List (Nat × Nat × Nat × Int32) := (70, 0, 1, (-1 : Int32)) :: zw_22
def zw_24 : List (Nat × Nat × Nat × Int32) := (72, 0, 1, (-1 : Int32)) :: zw_23
def zw_25 : List (Nat × Nat × Nat × Int32) := (68, 4, 5, (1 : Int32)) :: zw_24
def zw_26 : List (Nat × Nat × Nat × Int32) := (68, 6, 7, (0 : Int32)) :: zw_25
def zw_27 : List (Nat × Nat × Nat × Int32) := (68, 10, 11, (0 : Int32)) :: zw_26
def zw_28 : List (Nat × Nat × Nat × Int32) := (68, 11, 12, (2 : Int32)) :: zw_27
def zw_29 : List (Nat × Nat × Nat × Int32) := (68, 12, 13, (3 : Int32)) :: zw_28
theorem w11_68 {M : sm_M} (h : ZS L xs 78 63399 zl_55 zw_21 M) : sm_cV 11 [.ref 68] M (ZS L xs 78 63399 zl_55 zw_29) := by
  refine c11_0 (Q := rV _) ?_
  refine ⟨h.K 68 25 rfl, 69, h.R 68 0 69 rfl, h.K 69 0 rfl, h.in0 69 rfl, fun M6 eM6 => ?_⟩
  have hM6 : ZS L xs 78 63399 zl_55 zw_22 M6 := by rw [eM6]; exact h.wI 69 0 (-1 : Int32)
  refine ⟨70, h.R 68 1 70 rfl, h.K 70 0 rfl, h.in0 70 rfl, fun M12 eM12 => ?_⟩
  have hM12 : ZS L xs 78 63399 zl_55 zw_23 M12 := by rw [eM12]; exact hM6.wI 70 0 (-1 : Int32)
  refine ⟨72, h.R 68 3 72 rfl, h.K 72 0 rfl, h.in0 72 rfl, fun M18 eM18 => ?_⟩
  have hM18 : ZS L xs 78 63399 zl_55 zw_24 M18 := by rw [eM18]; exact hM12.wI 72 0 (-1 : Int32)
  intro M20 eM20
  have hM20 : ZS L xs 78 63399 zl_55 zw_25 M20 := by rw [eM20]; exact hM18.wI 68 4 (1 : Int32)
  intro M22 eM22
  have hM22 : ZS L xs 78 63399 zl_55 zw_26 M22 := by rw [eM22]; exact hM20.wI 68 6 (0 : Int32)
  intro M24 eM24
  have hM24 : ZS L xs 78 63399 zl_55 zw_27 M24 := by rw [eM24]; exact hM22.wI 68 10 (0 : Int32)
  intro M26 eM26
  have hM26 : ZS L xs 78 63399 zl_55 zw_28 M26 := by rw [eM26]; exact hM24.wI 68 11 (2 : Int32)
  intro M28 eM28
  have hM28 : ZS L xs 78 63399 zl_55 zw_29 M28 := by rw [eM28]; exact hM26.wI 68 12 (3 : Int32)
  exact ⟨rfl, hM28⟩
theorem w10_68 {M : sm_M} (h : ZS L xs 69 40374 zl_46 zw_21 M) : sm_cV 10 [.ref 68] M (ZS L xs 78 63399 zl_55 zw_29) := by
  refine c10_0 (Q := rV _) ?_
  rw [h.1]
  refine ⟨h.K 68 25 rfl, by decide, fun M3 eM3 => ?_⟩
  have hM3 : ZS L xs 70 44575 zl_46 zw_21 M3 := by rw [eM3]; exact h.new 0 (by decide) rfl rfl rfl
  refine ⟨hM3.K 68 25 rfl, fun M5 eM5 => ?_⟩
  have hM5 : ZS L xs 70 44575 zl_47 zw_21 M5 := by rw [eM5]; exact hM3.wR 68 0 69 rfl
  rw [hM5.1]
  refine ⟨by decide, fun M7 eM7 => ?_⟩
  have hM7 : ZS L xs 71 48776 zl_47 zw_21 M7 := by rw [eM7]; exact hM5.new 0 (by decide) rfl rfl rfl
  refine ⟨hM7.K 68 25 rfl, fun M9 eM9 => ?_⟩
  have hM9 : ZS L xs 71 48776 zl_48 zw_21 M9 := by rw [eM9]; exact hM7.wR 68 1 70 rfl
  rw [hM9.1]
  refine ⟨by decide, fun M11 eM11 => ?_⟩
  have hM11 : ZS L xs 72 52977 zl_48 zw_21 M11 := by rw [eM11]; exact hM9.new 1 (by decide) rfl rfl rfl
  refine ⟨hM11.K 68 25 rfl, fun M13 eM13 => ?_⟩
  have hM13 : ZS L xs 72 52977 zl_49 zw_21 M13 := by rw [eM13]; exact hM11.wR 68 2 71 rfl
  rw [hM13.1]
  refine ⟨by decide, fun M15 eM15 => ?_⟩
  have hM15 : ZS L xs 73 57178 zl_49 zw_21 M15 := by rw [eM15]; exact hM13.new 0 (by decide) rfl rfl rfl
  refine ⟨hM15.K 68 25 rfl, fun M17 eM17 => ?_⟩
  have hM17 : ZS L xs 73 57178 zl_50 zw_21 M17 := by rw [eM17]; exact hM15.wR 68 3 72 rfl
  rw [hM17.1]
  refine ⟨by decide, fun M19 eM19 => ?_⟩
  have hM19 : ZS L xs 74 57478 zl_50 zw_21 M19 := by rw [eM19]; exact hM17.new 2 (by decide) rfl rfl rfl
  refine ⟨hM19.K 68 25 rfl, fun M21 eM21 => ?_⟩
  have hM21 : ZS L xs 74 57478 zl_51 zw_21 M21 := by rw [eM21]; exact hM19.wR 68 5 73 rfl
  rw [hM21.1]
  refine ⟨by decide, fun M23 eM23 => ?_⟩
  have hM23 : ZS L xs 75 59278 zl_51 zw_21 M23 := by rw [eM23]; exact hM21.new 1 (by decide) rfl rfl rfl
  refine ⟨hM23.K 68 25 rfl, fun M25 eM25 => ?_⟩
  have hM25 : ZS L xs 75 59278 zl_52 zw_21 M25 := by rw [eM25]; exact hM23.wR 68 7 74 rfl
  rw [hM25.1]
  refine ⟨by decide, fun M27 eM27 => ?_⟩
  have hM27 : ZS L xs 76 59338 zl_52 zw_21 M27 := by rw [eM27]; exact hM25.new 0 (by decide) rfl rfl rfl
  refine ⟨hM27.K 68 25 rfl, fun M29 eM29 => ?_⟩
  have hM29 : ZS L xs 76 59338 zl_53 zw_21 M29 := by rw [eM29]; exact hM27.wR 68 8 75 rfl
  rw [hM29.1]
  refine ⟨by decide, fun M31 eM31 => ?_⟩
  have hM31 : ZS L xs 77 59398 zl_53 zw_21 M31 := by rw [eM31]; exact hM29.new 0 (by decide) rfl rfl rfl
  refine ⟨hM31.K 68 25 rfl, fun M33 eM33 => ?_⟩
  have hM33 : ZS L xs 77 59398 zl_54 zw_21 M33 := by rw [eM33]; exact hM31.wR 68 9 76 rfl
  rw [hM33.1]
  refine ⟨by decide, fun M35 eM35 => ?_⟩
  have hM35 : ZS L xs 78 63399 zl_54 zw_21 M35 := by rw [eM35]; exact hM33.new 0 (by decide) rfl rfl rfl
  refine ⟨hM35.K 68 25 rfl, fun M37 eM37 => ?_⟩
  have hM37 : ZS L xs 78 63399 zl_55 zw_21 M37 := by rw [eM37]; exact hM35.wR 68 13 77 rfl
  refine ⟨hM37.K 68 25 rfl, ?_⟩
  refine (w11_68 hM37).wm fun M39 hM39 => ?_
  exact ⟨rfl, hM39⟩
def zl_56 : List (Nat × Nat × Nat) := (23, 11, 68) :: zl_55
def zl_57 : List (Nat × Nat × Nat) := (78, 0, 79) :: zl_56
def zl_58 : List (Nat × Nat × Nat) := (78, 1, 80) :: zl_57
def zl_59 : List (Nat × Nat × Nat) := (78, 2, 81) :: zl_58
def zl_60 : List (Nat × Nat × Nat) := (78, 3, 82) :: zl_59
def zl_61 : List (Nat × Nat × Nat) := (78, 5, 83) :: zl_60
def zl_62 : List (Nat × Nat × Nat) := (78, 7, 84) :: zl_61
def zl_63 : List (Nat × Nat × Nat) := (78, 8, 85) :: zl_62
def zl_64 : List (Nat × Nat × Nat) := (78, 9, 86) :: zl_63
def zl_65 : List (Nat × Nat × Nat) := (78, 13, 87) :: zl_64
def zw_30 : List (Nat × Nat × Nat × Int32) := (79, 0, 1, (-1 : Int32)) :: zw_29
def zw_31 : List (Nat × Nat × Nat × Int32) := (80, 0, 1, (-1 : Int32)) :: zw_30
def zw_32 : List (Nat × Nat × Nat × Int32) := (82, 0, 1, (-1 : Int32)) :: zw_31
def zw_33 : List (Nat × Nat × Nat × Int32) := (78, 4, 5, (1 : Int32)) :: zw_32
def zw_34 : List (Nat × Nat × Nat × Int32) := (78, 6, 7, (0 : Int32)) :: zw_33
def zw_35 : List (Nat × Nat × Nat × Int32) := (78, 10, 11, (0 : Int32)) :: zw_34
def zw_36 : List (Nat × Nat × Nat × Int32) := (78, 11, 12, (2 : Int32)) :: zw_35
def zw_37 : List (Nat × Nat × Nat × Int32) := (78, 12, 13, (3 : Int32)) :: zw_36
theorem w11_78 {M : sm_M} (h : ZS L xs 88 86438 zl_65 zw_29 M) : sm_cV 11 [.ref 78] M (ZS L xs 88 86438 zl_65 zw_37) := by
  refine c11_0 (Q := rV _) ?_
  refine ⟨h.K 78 25 rfl, 79, h.R 78 0 79 rfl, h.K 79 0 rfl, h.in0 79 rfl, fun M6 eM6 => ?_⟩
  have hM6 : ZS L xs 88 86438 zl_65 zw_30 M6 := by rw [eM6]; exact h.wI 79 0 (-1 : Int32)
  refine ⟨80, h.R 78 1 80 rfl, h.K 80 0 rfl, h.in0 80 rfl, fun M12 eM12 => ?_⟩
  have hM12 : ZS L xs 88 86438 zl_65 zw_31 M12 := by rw [eM12]; exact hM6.wI 80 0 (-1 : Int32)
  refine ⟨82, h.R 78 3 82 rfl, h.K 82 0 rfl, h.in0 82 rfl, fun M18 eM18 => ?_⟩
  have hM18 : ZS L xs 88 86438 zl_65 zw_32 M18 := by rw [eM18]; exact hM12.wI 82 0 (-1 : Int32)
  intro M20 eM20
  have hM20 : ZS L xs 88 86438 zl_65 zw_33 M20 := by rw [eM20]; exact hM18.wI 78 4 (1 : Int32)
  intro M22 eM22
  have hM22 : ZS L xs 88 86438 zl_65 zw_34 M22 := by rw [eM22]; exact hM20.wI 78 6 (0 : Int32)
  intro M24 eM24
  have hM24 : ZS L xs 88 86438 zl_65 zw_35 M24 := by rw [eM24]; exact hM22.wI 78 10 (0 : Int32)
  intro M26 eM26
  have hM26 : ZS L xs 88 86438 zl_65 zw_36 M26 := by rw [eM26]; exact hM24.wI 78 11 (2 : Int32)
  intro M28 eM28
  have hM28 : ZS L xs 88 86438 zl_65 zw_37 M28 := by rw [eM28]; exact hM26.wI 78 12 (3 : Int32)
  exact ⟨rfl, hM28⟩
theorem w10_78 {M : sm_M} (h : ZS L xs 79 63413 zl_56 zw_29 M) : sm_cV 10 [.ref 78] M (ZS L xs 88 86438 zl_65 zw_37) := by
  refine c10_0 (Q := rV _) ?_
  rw [h.1]
  refine ⟨h.K 78 25 rfl, by decide, fun M3 eM3 => ?_⟩
  have hM3 : ZS L xs 80 67614 zl_56 zw_29 M3 := by rw [eM3]; exact h.new 0 (by decide) rfl rfl rfl
  refine ⟨hM3.K 78 25 rfl, fun M5 eM5 => ?_⟩
  have hM5 : ZS L xs 80 67614 zl_57 zw_29 M5 := by rw [eM5]; exact hM3.wR 78 0 79 rfl
  rw [hM5.1]
  refine ⟨by decide, fun M7 eM7 => ?_⟩
  have hM7 : ZS L xs 81 71815 zl_57 zw_29 M7 := by rw [eM7]; exact hM5.new 0 (by decide) rfl rfl rfl
  refine ⟨hM7.K 78 25 rfl, fun M9 eM9 => ?_⟩
  have hM9 : ZS L xs 81 71815 zl_58 zw_29 M9 := by rw [eM9]; exact hM7.wR 78 1 80 rfl
  rw [hM9.1]
  refine ⟨by decide, fun M11 eM11 => ?_⟩
  have hM11 : ZS L xs 82 76016 zl_58 zw_29 M11 := by rw [eM11]; exact hM9.new 1 (by decide) rfl rfl rfl
  refine ⟨hM11.K 78 25 rfl, fun M13 eM13 => ?_⟩
  have hM13 : ZS L xs 82 76016 zl_59 zw_29 M13 := by rw [eM13]; exact hM11.wR 78 2 81 rfl
  rw [hM13.1]
  refine ⟨by decide, fun M15 eM15 => ?_⟩
  have hM15 : ZS L xs 83 80217 zl_59 zw_29 M15 := by rw [eM15]; exact hM13.new 0 (by decide) rfl rfl rfl
  refine ⟨hM15.K 78 25 rfl, fun M17 eM17 => ?_⟩
  have hM17 : ZS L xs 83 80217 zl_60 zw_29 M17 := by rw [eM17]; exact hM15.wR 78 3 82 rfl
  rw [hM17.1]
  refine ⟨by decide, fun M19 eM19 => ?_⟩
  have hM19 : ZS L xs 84 80517 zl_60 zw_29 M19 := by rw [eM19]; exact hM17.new 2 (by decide) rfl rfl rfl
  refine ⟨hM19.K 78 25 rfl, fun M21 eM21 => ?_⟩
  have hM21 : ZS L xs 84 80517 zl_61 zw_29 M21 := by rw [eM21]; exact hM19.wR 78 5 83 rfl
  rw [hM21.1]
  refine ⟨by decide, fun M23 eM23 => ?_⟩
  have hM23 : ZS L xs 85 82317 zl_61 zw_29 M23 := by rw [eM23]; exact hM21.new 1 (by decide) rfl rfl rfl
  refine ⟨hM23.K 78 25 rfl, fun M25 eM25 => ?_⟩
  have hM25 : ZS L xs 85 82317 zl_62 zw_29 M25 := by rw [eM25]; exact hM23.wR 78 7 84 rfl
  rw [hM25.1]
  refine ⟨by decide, fun M27 eM27 => ?_⟩
  have hM27 : ZS L xs 86 82377 zl_62 zw_29 M27 := by rw [eM27]; exact hM25.new 0 (by decide) rfl rfl rfl
  refine ⟨hM27.K 78 25 rfl, fun M29 eM29 => ?_⟩
  have hM29 : ZS L xs 86 82377 zl_63 zw_29 M29 := by rw [eM29]; exact hM27.wR 78 8 85 rfl
  rw [hM29.1]
  refine ⟨by decide, fun M31 eM31 => ?_⟩
  have hM31 : ZS L xs 87 82437 zl_63 zw_29 M31 := by rw [eM31]; exact hM29.new 0 (by decide) rfl rfl rfl
  refine ⟨hM31.K 78 25 rfl, fun M33 eM33 => ?_⟩
  have hM33 : ZS L xs 87 82437 zl_64 zw_29 M33 := by rw [eM33]; exact hM31.wR 78 9 86 rfl
  rw [hM33.1]
  refine ⟨by decide, fun M35 eM35 => ?_⟩
  have hM35 : ZS L xs 88 86438 zl_64 zw_29 M35 := by rw [eM35]; exact hM33.new 0 (by decide) rfl rfl rfl
  refine ⟨hM35.K 78 25 rfl, fun M37 eM37 => ?_⟩
  have hM37 : ZS L xs 88 86438 zl_65 zw_29 M37 := by rw [eM37]; exact hM35.wR 78 13 87 rfl
  refine ⟨hM37.K 78 25 rfl, ?_⟩
  refine (w11_78 hM37).wm fun M39 hM39 => ?_
  exact ⟨rfl, hM39⟩
def zl_66 : List (Nat × Nat × Nat) := (23, 12, 78) :: zl_65
def zl_67 : List (Nat × Nat × Nat) := (89, 0, 90) :: zl_66
def zw_38 : List (Nat × Nat × Nat × Int32) := (89, 1, 2, (0 : Int32)) :: zw_37
def zl_68 : List (Nat × Nat × Nat) := (89, 2, 91) :: zl_67
def zw_39 : List (Nat × Nat × Nat × Int32) := (89, 3, 4, (0 : Int32)) :: zw_38
def zl_69 : List (Nat × Nat × Nat) := (89, 4, 92) :: zl_68
def zl_70 : List (Nat × Nat × Nat) := (89, 5, 93) :: zl_69
def zl_71 : List (Nat × Nat × Nat) := (89, 6, 94) :: zl_70
def zl_72 : List (Nat × Nat × Nat) := (89, 7, 95) :: zl_71
def zl_73 : List (Nat × Nat × Nat) := (89, 8, 96) :: zl_72
def zl_74 : List (Nat × Nat × Nat) := (89, 9, 97) :: zl_73
def zl_75 : List (Nat × Nat × Nat) := (89, 10, 98) :: zl_74
def zl_76 : List (Nat × Nat × Nat) := (89, 11, 99) :: zl_75
theorem w13_89 {M : sm_M} (h : ZS L xs 90 86460 zl_66 zw_37 M) : sm_cV 13 [.ref 89] M (ZS L xs 100 99269 zl_76 zw_39) := by
  refine c13_0 (Q := rV _) ?_
  rw [h.1]
  refine ⟨h.K 89 27 rfl, by decide, fun M3 eM3 => ?_⟩
  have hM3 : ZS L xs 91 90460 zl_66 zw_37 M3 := by rw [eM3]; exact h.new 1 (by decide) rfl rfl rfl
  refine ⟨hM3.K 89 27 rfl, fun M5 eM5 => ?_⟩
  have hM5 : ZS L xs 91 90460 zl_67 zw_37 M5 := by rw [eM5]; exact hM3.wR 89 0 90 rfl
  refine ⟨hM5.K 89 27 rfl, fun M7 eM7 => ?_⟩
  have hM7 : ZS L xs 91 90460 zl_67 zw_38 M7 := by rw [eM7]; exact hM5.wI 89 1 (0 : Int32)
  rw [hM7.1]
  refine ⟨by decide, fun M10 eM10 => ?_⟩
  have hM10 : ZS L xs 92 94461 zl_67 zw_38 M10 := by rw [eM10]; exact hM7.new 0 (by decide) rfl rfl rfl
  refine ⟨hM10.K 89 27 rfl, fun M12 eM12 => ?_⟩
  have hM12 : ZS L xs 92 94461 zl_68 zw_38 M12 := by rw [eM12]; exact hM10.wR 89 2 91 rfl
  refine ⟨hM12.K 89 27 rfl, fun M14 eM14 => ?_⟩
  have hM14 : ZS L xs 92 94461 zl_68 zw_39 M14 := by rw [eM14]; exact hM12.wI 89 3 (0 : Int32)
  rw [hM14.1]
  refine ⟨by decide, fun M17 eM17 => ?_⟩
  have hM17 : ZS L xs 93 95062 zl_68 zw_39 M17 := by rw [eM17]; exact hM14.new 0 (by decide) rfl rfl rfl
  refine ⟨hM17.K 89 27 rfl, fun M19 eM19 => ?_⟩
  have hM19 : ZS L xs 93 95062 zl_69 zw_39 M19 := by rw [eM19]; exact hM17.wR 89 4 92 rfl
  rw [hM19.1]
  refine ⟨by decide, fun M21 eM21 => ?_⟩
  have hM21 : ZS L xs 94 95663 zl_69 zw_39 M21 := by rw [eM21]; exact hM19.new 0 (by decide) rfl rfl rfl
  refine ⟨hM21.K 89 27 rfl, fun M23 eM23 => ?_⟩
  have hM23 : ZS L xs 94 95663 zl_70 zw_39 M23 := by rw [eM23]; exact hM21.wR 89 5 93 rfl
  rw [hM23.1]
  refine ⟨by decide, fun M25 eM25 => ?_⟩
  have hM25 : ZS L xs 95 96264 zl_70 zw_39 M25 := by rw [eM25]; exact hM23.new 0 (by decide) rfl rfl rfl
  refine ⟨hM25.K 89 27 rfl, fun M27 eM27 => ?_⟩
  have hM27 : ZS L xs 95 96264 zl_71 zw_39 M27 := by rw [eM27]; exact hM25.wR 89 6 94 rfl
  rw [hM27.1]
  refine ⟨by decide, fun M29 eM29 => ?_⟩
  have hM29 : ZS L xs 96 96865 zl_71 zw_39 M29 := by rw [eM29]; exact hM27.new 0 (by decide) rfl rfl rfl
  refine ⟨hM29.K 89 27 rfl, fun M31 eM31 => ?_⟩
  have hM31 : ZS L xs 96 96865 zl_72 zw_39 M31 := by rw [eM31]; exact hM29.wR 89 7 95 rfl
  rw [hM31.1]
  refine ⟨by decide, fun M33 eM33 => ?_⟩
  have hM33 : ZS L xs 97 97466 zl_72 zw_39 M33 := by rw [eM33]; exact hM31.new 2 (by decide) rfl rfl rfl
  refine ⟨hM33.K 89 27 rfl, fun M35 eM35 => ?_⟩
  have hM35 : ZS L xs 97 97466 zl_73 zw_39 M35 := by rw [eM35]; exact hM33.wR 89 8 96 rfl
  rw [hM35.1]
  refine ⟨by decide, fun M37 eM37 => ?_⟩
  have hM37 : ZS L xs 98 98067 zl_73 zw_39 M37 := by rw [eM37]; exact hM35.new 2 (by decide) rfl rfl rfl
  refine ⟨hM37.K 89 27 rfl, fun M39 eM39 => ?_⟩
  have hM39 : ZS L xs 98 98067 zl_74 zw_39 M39 := by rw [eM39]; exact hM37.wR 89 9 97 rfl
  rw [hM39.1]
  refine ⟨by decide, fun M41 eM41 => ?_⟩
  have hM41 : ZS L xs 99 98668 zl_74 zw_39 M41 := by rw [eM41]; exact hM39.new 2 (by decide) rfl rfl rfl
  refine ⟨hM41.K 89 27 rfl, fun M43 eM43 => ?_⟩
  have hM43 : ZS L xs 99 98668 zl_75 zw_39 M43 := by rw [eM43]; exact hM41.wR 89 10 98 rfl
  rw [hM43.1]
  refine ⟨by decide, fun M45 eM45 => ?_⟩
  have hM45 : ZS L xs 100 99269 zl_75 zw_39 M45 := by rw [eM45]; exact hM43.new 2 (by decide) rfl rfl rfl
  refine ⟨hM45.K 89 27 rfl, fun M47 eM47 => ?_⟩
  have hM47 : ZS L xs 100 99269 zl_76 zw_39 M47 := by rw [eM47]; exact hM45.wR 89 11 99 rfl
  refine ⟨hM47.K 89 27 rfl, fun M49 eM49 => ?_⟩
  have hM49 : ZS L xs 100 99269 zl_76 zw_39 M49 := by rw [eM49]; exact hM47.wJ 89 12
  exact ⟨rfl, hM49⟩
def zl_77 : List (Nat × Nat × Nat) := (88, 0, 89) :: zl_76
def zl_78 : List (Nat × Nat × Nat) := (88, 7, 100) :: zl_77
def zl_79 : List (Nat × Nat × Nat) := (88, 8, 101) :: zl_78
theorem w12_88 {M : sm_M} (h : ZS L xs 89 86447 zl_66 zw_37 M) : sm_cV 12 [.ref 88] M (ZS L xs 102 100469 zl_79 zw_39) := by
  refine c12_0 (Q := rV _) ?_
  rw [h.1]
  refine ⟨h.K 88 26 rfl, fun M2 eM2 => ?_⟩
  have hM2 : ZS L xs 90 86460 zl_66 zw_37 M2 := by rw [eM2]; exact h.new 27 (by decide) rfl rfl rfl
  refine ⟨hM2.K 89 27 rfl, ?_⟩
  refine (w13_89 hM2).wm fun M4 hM4 => ?_
  refine ⟨hM4.K 88 26 rfl, fun M7 eM7 => ?_⟩
  have hM7 : ZS L xs 100 99269 zl_77 zw_39 M7 := by rw [eM7]; exact hM4.wR 88 0 89 rfl
  rw [hM7.1]
  refine ⟨by decide, fun M9 eM9 => ?_⟩
  have hM9 : ZS L xs 101 99869 zl_77 zw_39 M9 := by rw [eM9]; exact hM7.new 0 (by decide) rfl rfl rfl
  refine ⟨hM9.K 88 26 rfl, fun M11 eM11 => ?_⟩
  have hM11 : ZS L xs 101 99869 zl_78 zw_39 M11 := by rw [eM11]; exact hM9.wR 88 7 100 rfl
  rw [hM11.1]
  refine ⟨by decide, fun M13 eM13 => ?_⟩
  have hM13 : ZS L xs 102 100469 zl_78 zw_39 M13 := by rw [eM13]; exact hM11.new 2 (by decide) rfl rfl rfl
  refine ⟨hM13.K 88 26 rfl, fun M15 eM15 => ?_⟩
  have hM15 : ZS L xs 102 100469 zl_79 zw_39 M15 := by rw [eM15]; exact hM13.wR 88 8 101 rfl
  exact ⟨rfl, hM15⟩
def zl_80 : List (Nat × Nat × Nat) := (23, 13, 88) :: zl_79
def zl_81 : List (Nat × Nat × Nat) := (103, 0, 104) :: zl_80
def zw_40 : List (Nat × Nat × Nat × Int32) := (103, 1, 2, (0 : Int32)) :: zw_39
def zl_82 : List (Nat × Nat × Nat) := (103, 2, 105) :: zl_81
def zw_41 : List (Nat × Nat × Nat × Int32) := (103, 3, 4, (0 : Int32)) :: zw_40
def zl_83 : List (Nat × Nat × Nat) := (103, 4, 106) :: zl_82
def zl_84 : List (Nat × Nat × Nat) := (103, 5, 107) :: zl_83
def zl_85 : List (Nat × Nat × Nat) := (103, 6, 108) :: zl_84
def zl_86 : List (Nat × Nat × Nat) := (103, 7, 109) :: zl_85
def zl_87 : List (Nat × Nat × Nat) := (103, 8, 110) :: zl_86
def zl_88 : List (Nat × Nat × Nat) := (103, 9, 111) :: zl_87
def zl_89 : List (Nat × Nat × Nat) := (103, 10, 112) :: zl_88
def zl_90 : List (Nat × Nat × Nat) := (103, 11, 113) :: zl_89
theorem w13_103 {M : sm_M} (h : ZS L xs 104 100491 zl_80 zw_39 M) : sm_cV 13 [.ref 103] M (ZS L xs 114 113300 zl_90 zw_41) := by
  refine c13_0 (Q := rV _) ?_
  rw [h.1]
  refine ⟨h.K 103 27 rfl, by decide, fun M3 eM3 => ?_⟩
  have hM3 : ZS L xs 105 104491 zl_80 zw_39 M3 := by rw [eM3]; exact h.new 1 (by decide) rfl rfl rfl
  refine ⟨hM3.K 103 27 rfl, fun M5 eM5 => ?_⟩
  have hM5 : ZS L xs 105 104491 zl_81 zw_39 M5 := by rw [eM5]; exact hM3.wR 103 0 104 rfl
  refine ⟨hM5.K 103 27 rfl, fun M7 eM7 => ?_⟩
  have hM7 : ZS L xs 105 104491 zl_81 zw_40 M7 := by rw [eM7]; exact hM5.wI 103 1 (0 : Int32)
  rw [hM7.1]
  refine ⟨by decide, fun M10 eM10 => ?_⟩
  have hM10 : ZS L xs 106 108492 zl_81 zw_40 M10 := by rw [eM10]; exact hM7.new 0 (by decide) rfl rfl rfl
  refine ⟨hM10.K 103 27 rfl, fun M12 eM12 => ?_⟩
  have hM12 : ZS L xs 106 108492 zl_82 zw_40 M12 := by rw [eM12]; exact hM10.wR 103 2 105 rfl
  refine ⟨hM12.K 103 27 rfl, fun M14 eM14 => ?_⟩
  have hM14 : ZS L xs 106 108492 zl_82 zw_41 M14 := by rw [eM14]; exact hM12.wI 103 3 (0 : Int32)
  rw [hM14.1]
  refine ⟨by decide, fun M17 eM17 => ?_⟩
  have hM17 : ZS L xs 107 109093 zl_82 zw_41 M17 := by rw [eM17]; exact hM14.new 0 (by decide) rfl rfl rfl
  refine ⟨hM17.K 103 27 rfl, fun M19 eM19 => ?_⟩
  have hM19 : ZS L xs 107 109093 zl_83 zw_41 M19 := by rw [eM19]; exact hM17.wR 103 4 106 rfl
  rw [hM19.1]
  refine ⟨by decide, fun M21 eM21 => ?_⟩
  have hM21 : ZS L xs 108 109694 zl_83 zw_41 M21 := by rw [eM21]; exact hM19.new 0 (by decide) rfl rfl rfl
  refine ⟨hM21.K 103 27 rfl, fun M23 eM23 => ?_⟩
  have hM23 : ZS L xs 108 109694 zl_84 zw_41 M23 := by rw [eM23]; exact hM21.wR 103 5 107 rfl
  rw [hM23.1]
  refine ⟨by decide, fun M25 eM25 => ?_⟩
  have hM25 : ZS L xs 109 110295 zl_84 zw_41 M25 := by rw [eM25]; exact hM23.new 0 (by decide) rfl rfl rfl
  refine ⟨hM25.K 103 27 rfl, fun M27 eM27 => ?_⟩
  have hM27 : ZS L xs 109 110295 zl_85 zw_41 M27 := by rw [eM27]; exact hM25.wR 103 6 108 rfl
  rw [hM27.1]
  refine ⟨by decide, fun M29 eM29 => ?_⟩
  have hM29 : ZS L xs 110 110896 zl_85 zw_41 M29 := by rw [eM29]; exact hM27.new 0 (by decide) rfl rfl rfl
  refine ⟨hM29.K 103 27 rfl, fun M31 eM31 => ?_⟩
  have hM31 : ZS L xs 110 110896 zl_86 zw_41 M31 := by rw [eM31]; exact hM29.wR 103 7 109 rfl
  rw [hM31.1]
  refine ⟨by decide, fun M33 eM33 => ?_⟩
  have hM33 : ZS L xs 111 111497 zl_86 zw_41 M33 := by rw [eM33]; exact hM31.new 2 (by decide) rfl rfl rfl
  refine ⟨hM33.K 103 27 rfl, fun M35 eM35 => ?_⟩
  have hM35 : ZS L xs 111 111497 zl_87 zw_41 M35 := by rw [eM35]; exact hM33.wR 103 8 110 rfl
  rw [hM35.1]
  refine ⟨by decide, fun M37 eM37 => ?_⟩
  have hM37 : ZS L xs 112 112098 zl_87 zw_41 M37 := by rw [eM37]; exact hM35.new 2 (by decide) rfl rfl rfl
  refine ⟨hM37.K 103 27 rfl, fun M39 eM39 => ?_⟩
  have hM39 : ZS L xs 112 112098 zl_88 zw_41 M39 := by rw [eM39]; exact hM37.wR 103 9 111 rfl
  rw [hM39.1]
  refine ⟨by decide, fun M41 eM41 => ?_⟩
  have hM41 : ZS L xs 113 112699 zl_88 zw_41 M41 := by rw [eM41]; exact hM39.new 2 (by decide) rfl rfl rfl
  refine ⟨hM41.K 103 27 rfl, fun M43 eM43 => ?_⟩
  have hM43 : ZS L xs 113 112699 zl_89 zw_41 M43 := by rw [eM43]; exact hM41.wR 103 10 112 rfl
  rw [hM43.1]
  refine ⟨by decide, fun M45 eM45 => ?_⟩
  have hM45 : ZS L xs 114 113300 zl_89 zw_41 M45 := by rw [eM45]; exact hM43.new 2 (by decide) rfl rfl rfl
  refine ⟨hM45.K 103 27 rfl, fun M47 eM47 => ?_⟩
  have hM47 : ZS L xs 114 113300 zl_90 zw_41 M47 := by rw [eM47]; exact hM45.wR 103 11 113 rfl
  refine ⟨hM47.K 103 27 rfl, fun M49 eM49 => ?_⟩
  have hM49 : ZS L xs 114 113300 zl_90 zw_41 M49 := by rw [eM49]; exact hM47.wJ 103 12
  exact ⟨rfl, hM49⟩
def zl_91 : List (Nat × Nat × Nat) := (102, 0, 103) :: zl_90
def zl_92 : List (Nat × Nat × Nat) := (102, 7, 114) :: zl_91
def zl_93 : List (Nat × Nat × Nat) := (102, 8, 115) :: zl_92
theorem w12_102 {M : sm_M} (h : ZS L xs 103 100478 zl_80 zw_39 M) : sm_cV 12 [.ref 102] M (ZS L xs 116 114500 zl_93 zw_41) := by
  refine c12_0 (Q := rV _) ?_
  rw [h.1]
  refine ⟨h.K 102 26 rfl, fun M2 eM2 => ?_⟩
  have hM2 : ZS L xs 104 100491 zl_80 zw_39 M2 := by rw [eM2]; exact h.new 27 (by decide) rfl rfl rfl
  refine ⟨hM2.K 103 27 rfl, ?_⟩
  refine (w13_103 hM2).wm fun M4 hM4 => ?_
  refine ⟨hM4.K 102 26 rfl, fun M7 eM7 => ?_⟩
  have hM7 : ZS L xs 114 113300 zl_91 zw_41 M7 := by rw [eM7]; exact hM4.wR 102 0 103 rfl
  rw [hM7.1]
  refine ⟨by decide, fun M9 eM9 => ?_⟩
  have hM9 : ZS L xs 115 113900 zl_91 zw_41 M9 := by rw [eM9]; exact hM7.new 0 (by decide) rfl rfl rfl
  refine ⟨hM9.K 102 26 rfl, fun M11 eM11 => ?_⟩
  have hM11 : ZS L xs 115 113900 zl_92 zw_41 M11 := by rw [eM11]; exact hM9.wR 102 7 114 rfl
  rw [hM11.1]
  refine ⟨by decide, fun M13 eM13 => ?_⟩
  have hM13 : ZS L xs 116 114500 zl_92 zw_41 M13 := by rw [eM13]; exact hM11.new 2 (by decide) rfl rfl rfl
  refine ⟨hM13.K 102 26 rfl, fun M15 eM15 => ?_⟩
  have hM15 : ZS L xs 116 114500 zl_93 zw_41 M15 := by rw [eM15]; exact hM13.wR 102 8 115 rfl
  exact ⟨rfl, hM15⟩
def zl_94 : List (Nat × Nat × Nat) := (23, 14, 102) :: zl_93
def zw_42 : List (Nat × Nat × Nat × Int32) := (23, 15, 16, (0 : Int32)) :: zw_41
def zw_43 : List (Nat × Nat × Nat × Int32) := (23, 16, 17, (-1 : Int32)) :: zw_42
theorem w0_23 {M : sm_M} (h : ZS L xs 24 17 zl_0 zw_0 M) : sm_cV 0 [.ref 23] M (ZS L xs 116 114500 zl_94 zw_43) := by
  refine c0_0 (Q := rV _) ?_
  rw [h.1]
  refine ⟨h.K 23 16 rfl, fun M2 eM2 => ?_⟩
  have hM2 : ZS L xs 25 19 zl_0 zw_0 M2 := by rw [eM2]; exact h.new 17 (by decide) rfl rfl rfl
  refine ⟨hM2.K 24 17 rfl, ?_⟩
  refine (w1_24 hM2).wm fun M4 hM4 => ?_
  refine ⟨hM4.K 23 16 rfl, fun M7 eM7 => ?_⟩
  have hM7 : ZS L xs 26 8211 zl_2 zw_1 M7 := by rw [eM7]; exact hM4.wR 23 0 24 rfl
  rw [hM7.1]
  intro M8 eM8
  have hM8 : ZS L xs 27 8213 zl_2 zw_1 M8 := by rw [eM8]; exact hM7.new 17 (by decide) rfl rfl rfl
  refine ⟨hM8.K 26 17 rfl, ?_⟩
  refine (w1_26 hM8).wm fun M10 hM10 => ?_
  refine ⟨hM10.K 23 16 rfl, fun M13 eM13 => ?_⟩
  have hM13 : ZS L xs 28 14213 zl_4 zw_2 M13 := by rw [eM13]; exact hM10.wR 23 1 26 rfl
  rw [hM13.1]
  refine ⟨by decide, fun M15 eM15 => ?_⟩
  have hM15 : ZS L xs 29 22405 zl_4 zw_2 M15 := by rw [eM15]; exact hM13.new 0 (by decide) rfl rfl rfl
  refine ⟨hM15.K 23 16 rfl, fun M17 eM17 => ?_⟩
  have hM17 : ZS L xs 29 22405 zl_5 zw_2 M17 := by rw [eM17]; exact hM15.wR 23 2 28 rfl
  rw [hM17.1]
  refine ⟨by decide, fun M19 eM19 => ?_⟩
  have hM19 : ZS L xs 30 22466 zl_5 zw_2 M19 := by rw [eM19]; exact hM17.new 0 (by decide) rfl rfl rfl
  refine ⟨hM19.K 23 16 rfl, fun M21 eM21 => ?_⟩
  have hM21 : ZS L xs 30 22466 zl_6 zw_2 M21 := by rw [eM21]; exact hM19.wR 23 3 29 rfl
  rw [hM21.1]
  intro M22 eM22
  have hM22 : ZS L xs 31 22470 zl_6 zw_2 M22 := by rw [eM22]; exact hM21.new 18 (by decide) rfl rfl rfl
  refine ⟨hM22.K 30 18 rfl, ?_⟩
  refine (w2_30 hM22).wm fun M24 hM24 => ?_
  refine ⟨hM24.K 23 16 rfl, fun M27 eM27 => ?_⟩
  have hM27 : ZS L xs 33 30470 zl_9 zw_4 M27 := by rw [eM27]; exact hM24.wR 23 4 30 rfl
  rw [hM27.1]
  intro M28 eM28
  have hM28 : ZS L xs 34 30473 zl_9 zw_4 M28 := by rw [eM28]; exact hM27.new 19 (by decide) rfl rfl rfl
  refine ⟨hM28.K 23 16 rfl, 24, hM28.R 23 0 24 rfl, hM28.K 33 19 rfl, ?_⟩
  refine (w3_33 hM28).wm fun M33 hM33 => ?_
  refine ⟨hM33.K 23 16 rfl, fun M36 eM36 => ?_⟩
  have hM36 : ZS L xs 34 30473 zl_11 zw_6 M36 := by rw [eM36]; exact hM33.wR 23 5 33 rfl
  rw [hM36.1]
  intro M37 eM37
  have hM37 : ZS L xs 35 30478 zl_11 zw_6 M37 := by rw [eM37]; exact hM36.new 20 (by decide) rfl rfl rfl
  refine ⟨hM37.K 23 16 rfl, 24, hM37.R 23 0 24 rfl, hM37.K 34 20 rfl, ?_⟩
  refine (w4_34 hM37).wm fun M42 hM42 => ?_
  refine ⟨hM42.K 23 16 rfl, fun M45 eM45 => ?_⟩
  have hM45 : ZS L xs 36 30508 zl_14 zw_9 M45 := by rw [eM45]; exact hM42.wR 23 6 34 rfl
  rw [hM45.1]
  intro M46 eM46
  have hM46 : ZS L xs 37 30512 zl_14 zw_9 M46 := by rw [eM46]; exact hM45.new 21 (by decide) rfl rfl rfl
  refine ⟨hM46.K 36 21 rfl, ?_⟩
  refine (w5_36 hM46).wm fun M48 hM48 => ?_
  refine ⟨hM48.K 23 16 rfl, fun M51 eM51 => ?_⟩
  have hM51 : ZS L xs 41 37735 zl_19 zw_9 M51 := by rw [eM51]; exact hM48.wR 23 7 36 rfl
  rw [hM51.1]
  intro M52 eM52
  have hM52 : ZS L xs 42 37746 zl_19 zw_9 M52 := by rw [eM52]; exact hM51.new 22 (by decide) rfl rfl rfl
  refine ⟨hM52.K 41 22 rfl, ?_⟩
  refine (w6_41 hM52).wm fun M54 hM54 => ?_
  refine ⟨hM52.K 23 16 rfl, fun M58 eM58 => ?_⟩
  have hM58 : ZS L xs 42 37746 zl_20 zw_9 M58 := by rw [eM58]; exact hM54.wR 23 8 41 rfl
  rw [hM58.1]
  intro M59 eM59
  have hM59 : ZS L xs 43 37751 zl_20 zw_9 M59 := by rw [eM59]; exact hM58.new 23 (by decide) rfl rfl rfl
  refine ⟨hM59.K 42 23 rfl, ?_⟩
  refine (w7_42 hM59).wm fun M61 hM61 => ?_
  refine ⟨hM61.K 23 16 rfl, fun M64 eM64 => ?_⟩
  have hM64 : ZS L xs 55 39053 zl_33 zw_15 M64 := by rw [eM64]; exact hM61.wR 23 9 42 rfl
  rw [hM64.1]
  intro M65 eM65
  have hM65 : ZS L xs 56 39058 zl_33 zw_15 M65 := by rw [eM65]; exact hM64.new 23 (by decide) rfl rfl rfl
  refine ⟨hM65.K 55 23 rfl, ?_⟩
  refine (w7_55 hM65).wm fun M67 hM67 => ?_
  refine ⟨hM67.K 23 16 rfl, fun M70 eM70 => ?_⟩
  have hM70 : ZS L xs 68 40360 zl_46 zw_21 M70 := by rw [eM70]; exact hM67.wR 23 10 55 rfl
  rw [hM70.1]
  intro M71 eM71
  have hM71 : ZS L xs 69 40374 zl_46 zw_21 M71 := by rw [eM71]; exact hM70.new 25 (by decide) rfl rfl rfl
  refine ⟨hM71.K 68 25 rfl, ?_⟩
  refine (w10_68 hM71).wm fun M73 hM73 => ?_
  refine ⟨hM73.K 23 16 rfl, fun M76 eM76 => ?_⟩
  have hM76 : ZS L xs 78 63399 zl_56 zw_29 M76 := by rw [eM76]; exact hM73.wR 23 11 68 rfl
  rw [hM76.1]
  intro M77 eM77
  have hM77 : ZS L xs 79 63413 zl_56 zw_29 M77 := by rw [eM77]; exact hM76.new 25 (by decide) rfl rfl rfl
  refine ⟨hM77.K 78 25 rfl, ?_⟩
  refine (w10_78 hM77).wm fun M79 hM79 => ?_
  refine ⟨hM79.K 23 16 rfl, fun M82 eM82 => ?_⟩
  have hM82 : ZS L xs 88 86438 zl_66 zw_37 M82 := by rw [eM82]; exact hM79.wR 23 12 78 rfl
  rw [hM82.1]
  intro M83 eM83
  have hM83 : ZS L xs 89 86447 zl_66 zw_37 M83 := by rw [eM83]; exact hM82.new 26 (by decide) rfl rfl rfl
  refine ⟨hM83.K 88 26 rfl, ?_⟩
  refine (w12_88 hM83).wm fun M85 hM85 => ?_
  refine ⟨hM85.K 23 16 rfl, fun M88 eM88 => ?_⟩
  have hM88 : ZS L xs 102 100469 zl_80 zw_39 M88 := by rw [eM88]; exact hM85.wR 23 13 88 rfl
  rw [hM88.1]
  intro M89 eM89
  have hM89 : ZS L xs 103 100478 zl_80 zw_39 M89 := by rw [eM89]; exact hM88.new 26 (by decide) rfl rfl rfl
  refine ⟨hM89.K 102 26 rfl, ?_⟩
  refine (w12_102 hM89).wm fun M91 hM91 => ?_
  refine ⟨hM91.K 23 16 rfl, fun M94 eM94 => ?_⟩
  have hM94 : ZS L xs 116 114500 zl_94 zw_41 M94 := by rw [eM94]; exact hM91.wR 23 14 102 rfl
  refine ⟨hM94.K 23 16 rfl, fun M96 eM96 => ?_⟩
  have hM96 : ZS L xs 116 114500 zl_94 zw_42 M96 := by rw [eM96]; exact hM94.wI 23 15 (0 : Int32)
  intro M98 eM98
  have hM98 : ZS L xs 116 114500 zl_94 zw_43 M98 := by rw [eM98]; exact hM96.wI 23 16 (-1 : Int32)
  exact ⟨rfl, hM98⟩
def zl_95 : List (Nat × Nat × Nat) := (116, 1, 117) :: zl_94
def zl_96 : List (Nat × Nat × Nat) := (116, 2, 118) :: zl_95
def zl_97 : List (Nat × Nat × Nat) := (116, 5, 119) :: zl_96
def zw_44 : List (Nat × Nat × Nat × Int32) := (116, 7, 8, (-1 : Int32)) :: zw_43
def zl_98 : List (Nat × Nat × Nat) := (116, 14, 120) :: zl_97
def zl_99 : List (Nat × Nat × Nat) := (116, 15, 121) :: zl_98
def zl_100 : List (Nat × Nat × Nat) := (116, 16, 122) :: zl_99
def zl_101 : List (Nat × Nat × Nat) := (116, 17, 123) :: zl_100
def zl_102 : List (Nat × Nat × Nat) := (116, 18, 124) :: zl_101
def zl_103 : List (Nat × Nat × Nat) := (116, 19, 125) :: zl_102
def zl_104 : List (Nat × Nat × Nat) := (116, 20, 126) :: zl_103
def zl_105 : List (Nat × Nat × Nat) := (116, 21, 127) :: zl_104
def zl_106 : List (Nat × Nat × Nat) := (116, 22, 128) :: zl_105
def zl_107 : List (Nat × Nat × Nat) := (116, 23, 129) :: zl_106
def zl_108 : List (Nat × Nat × Nat) := (116, 24, 130) :: zl_107
def zl_109 : List (Nat × Nat × Nat) := (116, 25, 131) :: zl_108
def zl_110 : List (Nat × Nat × Nat) := (116, 26, 132) :: zl_109
def zl_111 : List (Nat × Nat × Nat) := (116, 27, 133) :: zl_110
def zl_112 : List (Nat × Nat × Nat) := (116, 32, 134) :: zl_111
def zl_113 : List (Nat × Nat × Nat) := (116, 37, 135) :: zl_112
def zl_114 : List (Nat × Nat × Nat) := (116, 38, 136) :: zl_113
def zl_115 : List (Nat × Nat × Nat) := (116, 39, 137) :: zl_114
def zl_116 : List (Nat × Nat × Nat) := (116, 40, 138) :: zl_115
def zl_117 : List (Nat × Nat × Nat) := (116, 41, 139) :: zl_116
def zl_118 : List (Nat × Nat × Nat) := (116, 42, 140) :: zl_117
def zl_119 : List (Nat × Nat × Nat) := (116, 47, 141) :: zl_118
def zl_120 : List (Nat × Nat × Nat) := (116, 48, 142) :: zl_119
def zl_121 : List (Nat × Nat × Nat) := (116, 51, 143) :: zl_120
def zl_122 : List (Nat × Nat × Nat) := (116, 52, 144) :: zl_121
def zl_123 : List (Nat × Nat × Nat) := (116, 53, 145) :: zl_122
def zl_124 : List (Nat × Nat × Nat) := (116, 54, 146) :: zl_123
def zl_125 : List (Nat × Nat × Nat) := (116, 55, 147) :: zl_124
def zl_126 : List (Nat × Nat × Nat) := (116, 58, 148) :: zl_125
def zl_127 : List (Nat × Nat × Nat) := (116, 68, 149) :: zl_126
def zl_128 : List (Nat × Nat × Nat) := (116, 70, 150) :: zl_127
def zl_129 : List (Nat × Nat × Nat) := (116, 71, 151) :: zl_128
def zl_130 : List (Nat × Nat × Nat) := (116, 72, 152) :: zl_129
def zl_131 : List (Nat × Nat × Nat) := (116, 73, 153) :: zl_130
def zl_132 : List (Nat × Nat × Nat) := (116, 74, 154) :: zl_131
def zl_133 : List (Nat × Nat × Nat) := (116, 75, 155) :: zl_132
def zl_134 : List (Nat × Nat × Nat) := (116, 76, 156) :: zl_133
def zl_135 : List (Nat × Nat × Nat) := (116, 77, 157) :: zl_134
def zl_136 : List (Nat × Nat × Nat) := (116, 86, 158) :: zl_135
def zl_137 : List (Nat × Nat × Nat) := (116, 87, 159) :: zl_136
def zl_138 : List (Nat × Nat × Nat) := (116, 88, 160) :: zl_137
def zl_139 : List (Nat × Nat × Nat) := (116, 89, 161) :: zl_138
def zl_140 : List (Nat × Nat × Nat) := (116, 90, 162) :: zl_139
def zl_141 : List (Nat × Nat × Nat) := (116, 91, 163) :: zl_140
def zw_45 : List (Nat × Nat × Nat × Int32) := (120, 0, 256, 500) :: zw_44
def zw_46 : List (Nat × Nat × Nat × Int32) := (116, 33, 34, 2) :: zw_45
def zw_47 : List (Nat × Nat × Nat × Int32) := (116, 34, 35, 3) :: zw_46
theorem w160_116 {M : sm_M} (h : ZS L xs 117 114592 zl_94 zw_43 M) : sm_cV 160 [.ref 116] M (ZS L xs 164 217326 zl_141 zw_47) := by
  refine c160_0 (Q := rV _) ?_
  rw [h.1]
  refine ⟨h.K 116 28 rfl, by decide, fun M3 eM3 => ?_⟩
  have hM3 : ZS L xs 118 122784 zl_94 zw_43 M3 := by rw [eM3]; exact h.new 0 (by decide) rfl rfl rfl
  refine ⟨hM3.K 116 28 rfl, fun M5 eM5 => ?_⟩
  have hM5 : ZS L xs 118 122784 zl_95 zw_43 M5 := by rw [eM5]; exact hM3.wR 116 1 117 rfl
  rw [hM5.1]
  refine ⟨by decide, fun M7 eM7 => ?_⟩
  have hM7 : ZS L xs 119 130976 zl_95 zw_43 M7 := by rw [eM7]; exact hM5.new 0 (by decide) rfl rfl rfl
  refine ⟨hM7.K 116 28 rfl, fun M9 eM9 => ?_⟩
  have hM9 : ZS L xs 119 130976 zl_96 zw_43 M9 := by rw [eM9]; exact hM7.wR 116 2 118 rfl
  rw [hM9.1]
  refine ⟨by decide, fun M11 eM11 => ?_⟩
  have hM11 : ZS L xs 120 136977 zl_96 zw_43 M11 := by rw [eM11]; exact hM9.new 0 (by decide) rfl rfl rfl
  refine ⟨hM11.K 116 28 rfl, fun M13 eM13 => ?_⟩
  have hM13 : ZS L xs 120 136977 zl_97 zw_43 M13 := by rw [eM13]; exact hM11.wR 116 5 119 rfl
  refine ⟨hM13.K 116 28 rfl, fun M15 eM15 => ?_⟩
  have hM15 : ZS L xs 120 136977 zl_97 zw_44 M15 := by rw [eM15]; exact hM13.wI 116 7 (-1 : Int32)
  rw [hM15.1]
  refine ⟨by decide, fun M18 eM18 => ?_⟩
  have hM18 : ZS L xs 121 137233 zl_97 zw_44 M18 := by rw [eM18]; exact hM15.new 0 (by decide) rfl rfl rfl
  refine ⟨hM18.K 116 28 rfl, fun M20 eM20 => ?_⟩
  have hM20 : ZS L xs 121 137233 zl_98 zw_44 M20 := by rw [eM20]; exact hM18.wR 116 14 120 rfl
  rw [hM20.1]
  refine ⟨by decide, fun M22 eM22 => ?_⟩
  have hM22 : ZS L xs 122 137489 zl_98 zw_44 M22 := by rw [eM22]; exact hM20.new 0 (by decide) rfl rfl rfl
  refine ⟨hM22.K 116 28 rfl, fun M24 eM24 => ?_⟩
  have hM24 : ZS L xs 122 137489 zl_99 zw_44 M24 := by rw [eM24]; exact hM22.wR 116 15 121 rfl
  rw [hM24.1]
  refine ⟨by decide, fun M26 eM26 => ?_⟩
  have hM26 : ZS L xs 123 137689 zl_99 zw_44 M26 := by rw [eM26]; exact hM24.new 0 (by decide) rfl rfl rfl
  refine ⟨hM26.K 116 28 rfl, fun M28 eM28 => ?_⟩
  have hM28 : ZS L xs 123 137689 zl_100 zw_44 M28 := by rw [eM28]; exact hM26.wR 116 16 122 rfl
  rw [hM28.1]
  refine ⟨by decide, fun M30 eM30 => ?_⟩
  have hM30 : ZS L xs 124 137889 zl_100 zw_44 M30 := by rw [eM30]; exact hM28.new 0 (by decide) rfl rfl rfl
  refine ⟨hM30.K 116 28 rfl, fun M32 eM32 => ?_⟩
  have hM32 : ZS L xs 124 137889 zl_101 zw_44 M32 := by rw [eM32]; exact hM30.wR 116 17 123 rfl
  rw [hM32.1]
  refine ⟨by decide, fun M34 eM34 => ?_⟩
  have hM34 : ZS L xs 125 138089 zl_101 zw_44 M34 := by rw [eM34]; exact hM32.new 0 (by decide) rfl rfl rfl
  refine ⟨hM34.K 116 28 rfl, fun M36 eM36 => ?_⟩
  have hM36 : ZS L xs 125 138089 zl_102 zw_44 M36 := by rw [eM36]; exact hM34.wR 116 18 124 rfl
  rw [hM36.1]
  refine ⟨by decide, fun M38 eM38 => ?_⟩
  have hM38 : ZS L xs 126 138149 zl_102 zw_44 M38 := by rw [eM38]; exact hM36.new 0 (by decide) rfl rfl rfl
  refine ⟨hM38.K 116 28 rfl, fun M40 eM40 => ?_⟩
  have hM40 : ZS L xs 126 138149 zl_103 zw_44 M40 := by rw [eM40]; exact hM38.wR 116 19 125 rfl
  rw [hM40.1]
  refine ⟨by decide, fun M42 eM42 => ?_⟩
  have hM42 : ZS L xs 127 138209 zl_103 zw_44 M42 := by rw [eM42]; exact hM40.new 0 (by decide) rfl rfl rfl
  refine ⟨hM42.K 116 28 rfl, fun M44 eM44 => ?_⟩
  have hM44 : ZS L xs 127 138209 zl_104 zw_44 M44 := by rw [eM44]; exact hM42.wR 116 20 126 rfl
  rw [hM44.1]
  refine ⟨by decide, fun M46 eM46 => ?_⟩
  have hM46 : ZS L xs 128 138269 zl_104 zw_44 M46 := by rw [eM46]; exact hM44.new 0 (by decide) rfl rfl rfl
  refine ⟨hM46.K 116 28 rfl, fun M48 eM48 => ?_⟩
  have hM48 : ZS L xs 128 138269 zl_105 zw_44 M48 := by rw [eM48]; exact hM46.wR 116 21 127 rfl
  rw [hM48.1]
  refine ⟨by decide, fun M50 eM50 => ?_⟩
  have hM50 : ZS L xs 129 138469 zl_105 zw_44 M50 := by rw [eM50]; exact hM48.new 0 (by decide) rfl rfl rfl
  refine ⟨hM50.K 116 28 rfl, fun M52 eM52 => ?_⟩
  have hM52 : ZS L xs 129 138469 zl_106 zw_44 M52 := by rw [eM52]; exact hM50.wR 116 22 128 rfl
  rw [hM52.1]
  refine ⟨by decide, fun M54 eM54 => ?_⟩
  have hM54 : ZS L xs 130 138669 zl_106 zw_44 M54 := by rw [eM54]; exact hM52.new 0 (by decide) rfl rfl rfl
  refine ⟨hM54.K 116 28 rfl, fun M56 eM56 => ?_⟩
  have hM56 : ZS L xs 130 138669 zl_107 zw_44 M56 := by rw [eM56]; exact hM54.wR 116 23 129 rfl
  rw [hM56.1]
  refine ⟨by decide, fun M58 eM58 => ?_⟩
  have hM58 : ZS L xs 131 138869 zl_107 zw_44 M58 := by rw [eM58]; exact hM56.new 0 (by decide) rfl rfl rfl
  refine ⟨hM58.K 116 28 rfl, fun M60 eM60 => ?_⟩
  have hM60 : ZS L xs 131 138869 zl_108 zw_44 M60 := by rw [eM60]; exact hM58.wR 116 24 130 rfl
  rw [hM60.1]
  refine ⟨by decide, fun M62 eM62 => ?_⟩
  have hM62 : ZS L xs 132 138929 zl_108 zw_44 M62 := by rw [eM62]; exact hM60.new 0 (by decide) rfl rfl rfl
  refine ⟨hM62.K 116 28 rfl, fun M64 eM64 => ?_⟩
  have hM64 : ZS L xs 132 138929 zl_109 zw_44 M64 := by rw [eM64]; exact hM62.wR 116 25 131 rfl
  rw [hM64.1]
  refine ⟨by decide, fun M66 eM66 => ?_⟩
  have hM66 : ZS L xs 133 138989 zl_109 zw_44 M66 := by rw [eM66]; exact hM64.new 0 (by decide) rfl rfl rfl
  refine ⟨hM66.K 116 28 rfl, fun M68 eM68 => ?_⟩
  have hM68 : ZS L xs 133 138989 zl_110 zw_44 M68 := by rw [eM68]; exact hM66.wR 116 26 132 rfl
  rw [hM68.1]
  refine ⟨by decide, fun M70 eM70 => ?_⟩
  have hM70 : ZS L xs 134 139049 zl_110 zw_44 M70 := by rw [eM70]; exact hM68.new 0 (by decide) rfl rfl rfl
  refine ⟨hM70.K 116 28 rfl, fun M72 eM72 => ?_⟩
  have hM72 : ZS L xs 134 139049 zl_111 zw_44 M72 := by rw [eM72]; exact hM70.wR 116 27 133 rfl
  rw [hM72.1]
  refine ⟨by decide, fun M74 eM74 => ?_⟩
  have hM74 : ZS L xs 135 139305 zl_111 zw_44 M74 := by rw [eM74]; exact hM72.new 3 (by decide) rfl rfl rfl
  refine ⟨hM74.K 116 28 rfl, fun M76 eM76 => ?_⟩
  have hM76 : ZS L xs 135 139305 zl_112 zw_44 M76 := by rw [eM76]; exact hM74.wR 116 32 134 rfl
  rw [hM76.1]
  refine ⟨by decide, fun M78 eM78 => ?_⟩
  have hM78 : ZS L xs 136 148905 zl_112 zw_44 M78 := by rw [eM78]; exact hM76.new 0 (by decide) rfl rfl rfl
  refine ⟨hM78.K 116 28 rfl, fun M80 eM80 => ?_⟩
  have hM80 : ZS L xs 136 148905 zl_113 zw_44 M80 := by rw [eM80]; exact hM78.wR 116 37 135 rfl
  rw [hM80.1]
  refine ⟨by decide, fun M82 eM82 => ?_⟩
  have hM82 : ZS L xs 137 149505 zl_113 zw_44 M82 := by rw [eM82]; exact hM80.new 0 (by decide) rfl rfl rfl
  refine ⟨hM82.K 116 28 rfl, fun M84 eM84 => ?_⟩
  have hM84 : ZS L xs 137 149505 zl_114 zw_44 M84 := by rw [eM84]; exact hM82.wR 116 38 136 rfl
  rw [hM84.1]
  refine ⟨by decide, fun M86 eM86 => ?_⟩
  have hM86 : ZS L xs 138 159705 zl_114 zw_44 M86 := by rw [eM86]; exact hM84.new 0 (by decide) rfl rfl rfl
  refine ⟨hM86.K 116 28 rfl, fun M88 eM88 => ?_⟩
  have hM88 : ZS L xs 138 159705 zl_115 zw_44 M88 := by rw [eM88]; exact hM86.wR 116 39 137 rfl
  rw [hM88.1]
  refine ⟨by decide, fun M90 eM90 => ?_⟩
  have hM90 : ZS L xs 139 163545 zl_115 zw_44 M90 := by rw [eM90]; exact hM88.new 0 (by decide) rfl rfl rfl
  refine ⟨hM90.K 116 28 rfl, fun M92 eM92 => ?_⟩
  have hM92 : ZS L xs 139 163545 zl_116 zw_44 M92 := by rw [eM92]; exact hM90.wR 116 40 138 rfl
  rw [hM92.1]
  refine ⟨by decide, fun M94 eM94 => ?_⟩
  have hM94 : ZS L xs 140 163665 zl_116 zw_44 M94 := by rw [eM94]; exact hM92.new 0 (by decide) rfl rfl rfl
  refine ⟨hM94.K 116 28 rfl, fun M96 eM96 => ?_⟩
  have hM96 : ZS L xs 140 163665 zl_117 zw_44 M96 := by rw [eM96]; exact hM94.wR 116 41 139 rfl
  rw [hM96.1]
  refine ⟨by decide, fun M98 eM98 => ?_⟩
  have hM98 : ZS L xs 141 167505 zl_117 zw_44 M98 := by rw [eM98]; exact hM96.new 3 (by decide) rfl rfl rfl
  refine ⟨hM98.K 116 28 rfl, fun M100 eM100 => ?_⟩
  have hM100 : ZS L xs 141 167505 zl_118 zw_44 M100 := by rw [eM100]; exact hM98.wR 116 42 140 rfl
  rw [hM100.1]
  refine ⟨by decide, fun M102 eM102 => ?_⟩
  have hM102 : ZS L xs 142 167545 zl_118 zw_44 M102 := by rw [eM102]; exact hM100.new 0 (by decide) rfl rfl rfl
  refine ⟨hM102.K 116 28 rfl, fun M104 eM104 => ?_⟩
  have hM104 : ZS L xs 142 167545 zl_119 zw_44 M104 := by rw [eM104]; exact hM102.wR 116 47 141 rfl
  rw [hM104.1]
  refine ⟨by decide, fun M106 eM106 => ?_⟩
  have hM106 : ZS L xs 143 167585 zl_119 zw_44 M106 := by rw [eM106]; exact hM104.new 0 (by decide) rfl rfl rfl
  refine ⟨hM106.K 116 28 rfl, fun M108 eM108 => ?_⟩
  have hM108 : ZS L xs 143 167585 zl_120 zw_44 M108 := by rw [eM108]; exact hM106.wR 116 48 142 rfl
  rw [hM108.1]
  refine ⟨by decide, fun M110 eM110 => ?_⟩
  have hM110 : ZS L xs 144 171685 zl_120 zw_44 M110 := by rw [eM110]; exact hM108.new 0 (by decide) rfl rfl rfl
  refine ⟨hM110.K 116 28 rfl, fun M112 eM112 => ?_⟩
  have hM112 : ZS L xs 144 171685 zl_121 zw_44 M112 := by rw [eM112]; exact hM110.wR 116 51 143 rfl
  rw [hM112.1]
  refine ⟨by decide, fun M114 eM114 => ?_⟩
  have hM114 : ZS L xs 145 175785 zl_121 zw_44 M114 := by rw [eM114]; exact hM112.new 0 (by decide) rfl rfl rfl
  refine ⟨hM114.K 116 28 rfl, fun M116 eM116 => ?_⟩
  have hM116 : ZS L xs 145 175785 zl_122 zw_44 M116 := by rw [eM116]; exact hM114.wR 116 52 144 rfl
  rw [hM116.1]
  refine ⟨by decide, fun M118 eM118 => ?_⟩
  have hM118 : ZS L xs 146 179885 zl_122 zw_44 M118 := by rw [eM118]; exact hM116.new 3 (by decide) rfl rfl rfl
  refine ⟨hM118.K 116 28 rfl, fun M120 eM120 => ?_⟩
  have hM120 : ZS L xs 146 179885 zl_123 zw_44 M120 := by rw [eM120]; exact hM118.wR 116 53 145 rfl
  rw [hM120.1]
  refine ⟨by decide, fun M122 eM122 => ?_⟩
  have hM122 : ZS L xs 147 183886 zl_123 zw_44 M122 := by rw [eM122]; exact hM120.new 0 (by decide) rfl rfl rfl
  refine ⟨hM122.K 116 28 rfl, fun M124 eM124 => ?_⟩
  have hM124 : ZS L xs 147 183886 zl_124 zw_44 M124 := by rw [eM124]; exact hM122.wR 116 54 146 rfl
  rw [hM124.1]
  refine ⟨by decide, fun M126 eM126 => ?_⟩
  have hM126 : ZS L xs 148 187887 zl_124 zw_44 M126 := by rw [eM126]; exact hM124.new 0 (by decide) rfl rfl rfl
  refine ⟨hM126.K 116 28 rfl, fun M128 eM128 => ?_⟩
  have hM128 : ZS L xs 148 187887 zl_125 zw_44 M128 := by rw [eM128]; exact hM126.wR 116 55 147 rfl
  rw [hM128.1]
  refine ⟨by decide, fun M130 eM130 => ?_⟩
  have hM130 : ZS L xs 149 196079 zl_125 zw_44 M130 := by rw [eM130]; exact hM128.new 0 (by decide) rfl rfl rfl
  refine ⟨hM130.K 116 28 rfl, fun M132 eM132 => ?_⟩
  have hM132 : ZS L xs 149 196079 zl_126 zw_44 M132 := by rw [eM132]; exact hM130.wR 116 58 148 rfl
  rw [hM132.1]
  refine ⟨by decide, fun M134 eM134 => ?_⟩
  have hM134 : ZS L xs 150 200080 zl_126 zw_44 M134 := by rw [eM134]; exact hM132.new 0 (by decide) rfl rfl rfl
  refine ⟨hM134.K 116 28 rfl, fun M136 eM136 => ?_⟩
  have hM136 : ZS L xs 150 200080 zl_127 zw_44 M136 := by rw [eM136]; exact hM134.wR 116 68 149 rfl
  rw [hM136.1]
  refine ⟨by decide, fun M138 eM138 => ?_⟩
  have hM138 : ZS L xs 151 200682 zl_127 zw_44 M138 := by rw [eM138]; exact hM136.new 0 (by decide) rfl rfl rfl
  refine ⟨hM138.K 116 28 rfl, fun M140 eM140 => ?_⟩
  have hM140 : ZS L xs 151 200682 zl_128 zw_44 M140 := by rw [eM140]; exact hM138.wR 116 70 150 rfl
  rw [hM140.1]
  refine ⟨by decide, fun M142 eM142 => ?_⟩
  have hM142 : ZS L xs 152 201284 zl_128 zw_44 M142 := by rw [eM142]; exact hM140.new 0 (by decide) rfl rfl rfl
  refine ⟨hM142.K 116 28 rfl, fun M144 eM144 => ?_⟩
  have hM144 : ZS L xs 152 201284 zl_129 zw_44 M144 := by rw [eM144]; exact hM142.wR 116 71 151 rfl
  rw [hM144.1]
  refine ⟨by decide, fun M146 eM146 => ?_⟩
  have hM146 : ZS L xs 153 201886 zl_129 zw_44 M146 := by rw [eM146]; exact hM144.new 2 (by decide) rfl rfl rfl
  refine ⟨hM146.K 116 28 rfl, fun M148 eM148 => ?_⟩
  have hM148 : ZS L xs 153 201886 zl_130 zw_44 M148 := by rw [eM148]; exact hM146.wR 116 72 152 rfl
  rw [hM148.1]
  refine ⟨by decide, fun M150 eM150 => ?_⟩
  have hM150 : ZS L xs 154 202488 zl_130 zw_44 M150 := by rw [eM150]; exact hM148.new 2 (by decide) rfl rfl rfl
  refine ⟨hM150.K 116 28 rfl, fun M152 eM152 => ?_⟩
  have hM152 : ZS L xs 154 202488 zl_131 zw_44 M152 := by rw [eM152]; exact hM150.wR 116 73 153 rfl
  rw [hM152.1]
  refine ⟨by decide, fun M154 eM154 => ?_⟩
  have hM154 : ZS L xs 155 203090 zl_131 zw_44 M154 := by rw [eM154]; exact hM152.new 2 (by decide) rfl rfl rfl
  refine ⟨hM154.K 116 28 rfl, fun M156 eM156 => ?_⟩
  have hM156 : ZS L xs 155 203090 zl_132 zw_44 M156 := by rw [eM156]; exact hM154.wR 116 74 154 rfl
  rw [hM156.1]
  refine ⟨by decide, fun M158 eM158 => ?_⟩
  have hM158 : ZS L xs 156 203692 zl_132 zw_44 M158 := by rw [eM158]; exact hM156.new 2 (by decide) rfl rfl rfl
  refine ⟨hM158.K 116 28 rfl, fun M160 eM160 => ?_⟩
  have hM160 : ZS L xs 156 203692 zl_133 zw_44 M160 := by rw [eM160]; exact hM158.wR 116 75 155 rfl
  rw [hM160.1]
  refine ⟨by decide, fun M162 eM162 => ?_⟩
  have hM162 : ZS L xs 157 204294 zl_133 zw_44 M162 := by rw [eM162]; exact hM160.new 2 (by decide) rfl rfl rfl
  refine ⟨hM162.K 116 28 rfl, fun M164 eM164 => ?_⟩
  have hM164 : ZS L xs 157 204294 zl_134 zw_44 M164 := by rw [eM164]; exact hM162.wR 116 76 156 rfl
  rw [hM164.1]
  refine ⟨by decide, fun M166 eM166 => ?_⟩
  have hM166 : ZS L xs 158 208296 zl_134 zw_44 M166 := by rw [eM166]; exact hM164.new 3 (by decide) rfl rfl rfl
  refine ⟨hM166.K 116 28 rfl, fun M168 eM168 => ?_⟩
  have hM168 : ZS L xs 158 208296 zl_135 zw_44 M168 := by rw [eM168]; exact hM166.wR 116 77 157 rfl
  rw [hM168.1]
  refine ⟨by decide, fun M170 eM170 => ?_⟩
  have hM170 : ZS L xs 159 210704 zl_135 zw_44 M170 := by rw [eM170]; exact hM168.new 2 (by decide) rfl rfl rfl
  refine ⟨hM170.K 116 28 rfl, fun M172 eM172 => ?_⟩
  have hM172 : ZS L xs 159 210704 zl_136 zw_44 M172 := by rw [eM172]; exact hM170.wR 116 86 158 rfl
  rw [hM172.1]
  refine ⟨by decide, fun M174 eM174 => ?_⟩
  have hM174 : ZS L xs 160 213112 zl_136 zw_44 M174 := by rw [eM174]; exact hM172.new 0 (by decide) rfl rfl rfl
  refine ⟨hM174.K 116 28 rfl, fun M176 eM176 => ?_⟩
  have hM176 : ZS L xs 160 213112 zl_137 zw_44 M176 := by rw [eM176]; exact hM174.wR 116 87 159 rfl
  rw [hM176.1]
  refine ⟨by decide, fun M178 eM178 => ?_⟩
  have hM178 : ZS L xs 161 215520 zl_137 zw_44 M178 := by rw [eM178]; exact hM176.new 3 (by decide) rfl rfl rfl
  refine ⟨hM178.K 116 28 rfl, fun M180 eM180 => ?_⟩
  have hM180 : ZS L xs 161 215520 zl_138 zw_44 M180 := by rw [eM180]; exact hM178.wR 116 88 160 rfl
  rw [hM180.1]
  refine ⟨by decide, fun M182 eM182 => ?_⟩
  have hM182 : ZS L xs 162 216122 zl_138 zw_44 M182 := by rw [eM182]; exact hM180.new 0 (by decide) rfl rfl rfl
  refine ⟨hM182.K 116 28 rfl, fun M184 eM184 => ?_⟩
  have hM184 : ZS L xs 162 216122 zl_139 zw_44 M184 := by rw [eM184]; exact hM182.wR 116 89 161 rfl
  rw [hM184.1]
  refine ⟨by decide, fun M186 eM186 => ?_⟩
  have hM186 : ZS L xs 163 216724 zl_139 zw_44 M186 := by rw [eM186]; exact hM184.new 0 (by decide) rfl rfl rfl
  refine ⟨hM186.K 116 28 rfl, fun M188 eM188 => ?_⟩
  have hM188 : ZS L xs 163 216724 zl_140 zw_44 M188 := by rw [eM188]; exact hM186.wR 116 90 162 rfl
  rw [hM188.1]
  refine ⟨by decide, fun M190 eM190 => ?_⟩
  have hM190 : ZS L xs 164 217326 zl_140 zw_44 M190 := by rw [eM190]; exact hM188.new 2 (by decide) rfl rfl rfl
  refine ⟨hM190.K 116 28 rfl, fun M192 eM192 => ?_⟩
  have hM192 : ZS L xs 164 217326 zl_141 zw_44 M192 := by rw [eM192]; exact hM190.wR 116 91 163 rfl
  exact w160_1 hM192 rfl (by decide)
theorem w225 {M : sm_M} {Q : Outcome → sm_M → Prop} (h : ZS L xs 23 0 zl_0 zw_0 M) (k : ∀ M2, ZS L xs 165 217327 zl_141 zw_47 M2 → sm_w 225 (23, [some (.ref 0), some (.ref 23), some (.ref 116), some (.ref 164), some (.int (0 : Int32)), none, none, none], []) M2 Q) : sm_w 225 (sm_in sP 225 [.ref 0]) M Q := by
  refine c225_0 ?_
  rw [h.1]
  intro M1 eM1
  have hM1 : ZS L xs 24 17 zl_0 zw_0 M1 := by rw [eM1]; exact h.new 16 (by decide) rfl rfl rfl
  refine ⟨hM1.K 23 16 rfl, ?_⟩
  refine (w0_23 hM1).wm fun M3 hM3 => ?_
  rw [hM3.1]
  intro M5 eM5
  have hM5 : ZS L xs 117 114592 zl_94 zw_43 M5 := by rw [eM5]; exact hM3.new 28 (by decide) rfl rfl rfl
  refine ⟨hM5.K 116 28 rfl, ?_⟩
  refine (w160_116 hM5).wm fun M7 hM7 => ?_
  rw [hM7.1]
  refine ⟨by decide, fun M10 eM10 => ?_⟩
  have hM10 : ZS L xs 165 217327 zl_141 zw_47 M10 := by rw [eM10]; exact hM7.new 2 (by decide) rfl rfl rfl
  exact k _ hM10
end MAKE
