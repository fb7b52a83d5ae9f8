/-! What a check says; a step never takes cells away. -/
theorem sm_dcE {bytes : ByteArray} {pc : Nat} {ins : Jvm.ClassFile.Instr} {n : Nat} (h : sm_dc bytes pc ins n = true) : decode bytes pc = .ok (ins, n) := by
  unfold sm_dc at h
  split at h
  · rename_i i k hd
    simp only [Bool.and_eq_true, decide_eq_true_eq, beq_iff_eq] at h
    rw [hd, h.1, h.2]
  · cases h
/-- a step never takes cells away -/
theorem sm_exM {hs : List sm_X} {E : Nat} {M : sm_M} {pc : Nat} {ls : List (Option Value)} {st : List Value} {ins : Jvm.ClassFile.Instr} {n a b c : Nat} {P : Prop} {M2 : sm_M} {f2 : sm_F} (h : sm_ex hs E M pc ls st ins n a b c = some (P, .inl (M2, f2))) : M.1 ≤ M2.1 ∧ M.2.1 ≤ M2.2.1 := by
  have r0 : M.1 ≤ M.1 ∧ M.2.1 ≤ M.2.1 := ⟨Nat.le_refl _, Nat.le_refl _⟩
  unfold sm_ex at h
  split at h <;> (try unfold sm_lI at h) <;> (try unfold sm_lJ at h) <;> (try unfold sm_lA at h) <;> (try unfold sm_tI at h) <;> (try unfold sm_tJ at h) <;> (try unfold sm_tA at h) <;> (try unfold sm_2I at h) <;> (try unfold sm_2J at h) <;> (try unfold sm_sJ at h) <;> (try unfold sm_1I at h) <;> (try unfold sm_call at h) <;> (repeat' split at h) <;> first | (cases h; done) | (cases h; exact r0) | (cases h; exact ⟨Nat.le_succ _, Nat.le_add_right _ _⟩)
theorem sm_callN {E : Nat} {M : sm_M} {pc : Nat} {ls : List (Option Value)} {st : List Value} {k b c : Nat} {P : Prop} {X : sm_M × sm_F} (hk : 16 ≤ k) (h : sm_call E M pc ls st k b c = some (P, .inl X)) : False := by
  unfold sm_call at h
  split at h <;> first | omega | (split at h <;> cases h)
