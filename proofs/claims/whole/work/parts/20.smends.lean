/-! A METHOD's END. -/
theorem sm_exE {hs : List sm_X} {E : Nat} {M : sm_M} {pc : Nat} {ls : List (Option Value)} {st : List Value} {ins : Jvm.ClassFile.Instr} {n a b c : Nat} {P : Prop} {M2 : sm_M} {o : Outcome} (h : sm_ex hs E M pc ls st ins n a b c = some (P, .inr (.inl (o, M2)))) :
    (ins = .ireturn ∧ ∃ x, st = [.int x] ∧ o = .returned (some (.int x)) ∧ M2 = M ∧ P = (narrow (sm_ry a) (.int x) = .int x)) ∨ (ins = .lreturn ∧ ∃ x, st = [.long x] ∧ o = .returned (some (.long x)) ∧ M2 = M) ∨ ins = .areturn ∨ (ins = .return_ ∧ st = [] ∧ o = .returned none ∧ M2 = M) ∨ (∃ i, ins = .new i ∧ 32 ≤ a ∧ o = .threw M.1 ∧ M2 = sm_new M (16 + a) b ∧ P = ((st.map Value.category).sum ≤ 16)) := by
  unfold sm_ex at h
  split at h <;> (try unfold sm_lI at h) <;> (try unfold sm_lJ at h) <;> (try unfold sm_lA at h) <;> (try unfold sm_tI at h) <;> (try unfold sm_tJ at h) <;> (try unfold sm_tA at h) <;> (try unfold sm_2I at h) <;> (try unfold sm_2J at h) <;> (try unfold sm_sJ at h) <;> (try unfold sm_1I at h) <;> (try unfold sm_call at h) <;> (repeat' split at h) <;> first
    | (cases h; done)
    | (cases h; exact Or.inl ⟨rfl, _, rfl, rfl, rfl, rfl⟩)
    | (cases h; exact Or.inr (Or.inl ⟨rfl, _, rfl, rfl, rfl⟩))
    | (cases h; exact Or.inr (Or.inr (Or.inl rfl)))
    | (cases h; exact Or.inr (Or.inr (Or.inr (Or.inl ⟨rfl, rfl, rfl, rfl⟩))))
    | (cases h; exact Or.inr (Or.inr (Or.inr (Or.inr ⟨_, rfl, by assumption, rfl, rfl, rfl⟩))))
theorem sm_exC {hs : List sm_X} {E : Nat} {M : sm_M} {pc : Nat} {ls : List (Option Value)} {st : List Value} {ins : Jvm.ClassFile.Instr} {n a b c : Nat} {P : Prop} {i : Nat} {as : List Value} {g : sm_F} (h : sm_ex hs E M pc ls st ins n a b c = some (P, .inr (.inr (i, as, g)))) :
    ((∃ k, ins = .invokestatic k) ∨ (∃ k, ins = .invokevirtual k) ∨ ∃ k, ins = .invokespecial k) ∧ sm_call E M pc ls st a b c = some (P, .inr (.inr (i, as, g))) := by
  unfold sm_ex at h
  split at h <;> (try unfold sm_lI at h) <;> (try unfold sm_lJ at h) <;> (try unfold sm_lA at h) <;> (try unfold sm_tI at h) <;> (try unfold sm_tJ at h) <;> (try unfold sm_tA at h) <;> (try unfold sm_2I at h) <;> (try unfold sm_2J at h) <;> (try unfold sm_sJ at h) <;> (try unfold sm_1I at h) <;> first
    | exact ⟨Or.inl ⟨_, rfl⟩, h⟩
    | exact ⟨Or.inr (Or.inl ⟨_, rfl⟩), h⟩
    | exact ⟨Or.inr (Or.inr ⟨_, rfl⟩), h⟩
    | ((repeat' split at h) <;> cases h)
theorem sm_callE {E : Nat} {M : sm_M} {pc : Nat} {ls : List (Option Value)} {st : List Value} {a b c : Nat} {P : Prop} {i : Nat} {as : List Value} {g : sm_F} (h : sm_call E M pc ls st a b c = some (P, .inr (.inr (i, as, g)))) :
    (a = 0 ∧ i = b ∧ as = (st.take c).reverse ∧ g = (pc, ls, st.drop c) ∧ P = (c ≤ st.length ∧ ((st.drop c).map Value.category).sum ≤ 16)) ∨ (∃ q r, st.drop (c - 1) = .ref q :: r ∧ i = b ∧ as = (st.take c).reverse ∧ g = (pc, ls, r) ∧ P = (16 ≤ a ∧ 1 ≤ c ∧ c ≤ st.length ∧ q < M.1 ∧ sm_kd M q = a ∧ (r.map Value.category).sum ≤ 16)) := by
  unfold sm_call at h
  split at h <;> (try split at h) <;> first
    | (cases h; done)
    | (cases h; exact Or.inl ⟨rfl, rfl, rfl, rfl, rfl⟩)
    | (rename_i hq; cases h; exact Or.inr ⟨_, _, hq, rfl, rfl, rfl, rfl⟩)
section SMB
variable {p : Program} {l : Launch} {e : Env} {R : Room} {s : State} {m : MethodId} {args : Array Value} {below : List Frame} {meth : Method} {c : Code} {H : Heap} {locs : List Loc} {cells slots : Nat} {Q Q2 : State → Prop} {g : JFrame}
variable {cc : ByteArray} {pc : Nat} {ls : Array Slot} {w : sm_W} {M : sm_M}
variable {nL : Nat} {lo : List (Option Value)} {st : List Value} {hs : List sm_X} {n a b d : Nat} {Pr : Prop} {M2 : sm_M} {sx : List (String × Nat × String × Nat)} {Ts ws : List Cond} {P : sm_P} {J : Nat → sm_J} {y : MethodName} {bytes : ByteArray} {ret : Option FieldType} {hh : List (Nat × Nat × Nat × Nat)} {dd : Nat} {o : Outcome}
theorem sm_oneE (hfl : l.flags = pinnedFlags ++ [noTraceFlag]) (hA : sm_Ad w) (hgood : ∀ x ∈ Ts, sm_gdB x = true) (hws : ∀ x ∈ ws, x ∈ Ts) (hhs : hh = hs.map (fun q => (q.1, q.2.1, q.2.2.1, q.2.2.2 / 64))) (hcx : sm_Cx Ts w sx sm_excs y bytes nL ret hh (dd + 1) p R s m args meth c) {ins : Jvm.ClassFile.Instr} (hck : sm_ck P J (sm_cs w) (sm_ft w) sx y bytes ret ws hs pc ins n a b d = true) (hdec : decode bytes pc = .ok (ins, n)) (h : sm_ex hs (sm_E w) M pc lo st ins n a b d = some (Pr, .inr (.inl (o, M2)))) (hP : Pr) (hH : sm_H w M H) (hL : sm_lo w locs) (hls : sm_L (sm_ad w) ls nL lo) (hroom : cells + (M2.1 - M.1) ≤ R.cells ∧ slots + (M2.2.1 - M.2.1) ≤ R.slots) : W p l e R s m args below meth c H locs cells slots (sm_Z w s below o M2 (cells + (M2.1 - M.1)) (slots + (M2.2.1 - M.2.1))) (F0 m pc ls (st.map (sm_t (sm_ad w)))) := by
  obtain ⟨hx, hb, hr, hml, hown, hlocks, hname, hxt, hts, hK, hR1, hR2, -⟩ := hcx
  have hw : ∀ {k : Cond}, sm_in1 ws k = true → k.before args s = true := fun h => hts _ (hws _ (of_decide_eq_true h))
  have n0 : ∀ x : Nat, x + (M.1 - M.1) = x := fun x => by omega
  have n1 : ∀ x : Nat, x + (M.2.1 - M.2.1) = x := fun x => by omega
  rcases sm_exE h with ⟨rfl, x, rfl, rfl, rfl, rfl⟩ | ⟨rfl, x, rfl, rfl, rfl⟩ | rfl | ⟨rfl, rfl, rfl, rfl⟩ | ⟨i, rfl, ha, rfl, rfl, rfl⟩
  · have z : n = 1 ∧ ret = some (sm_ry a) := by simpa using (show (n == 1 && decide (ret = some (sm_ry a))) = true from hck)
    obtain ⟨rfl, z⟩ := z
    rw [n0, n1]
    exact sm_Wmono (sm_MQ rfl hL hH) (W.zret hx hb (by rw [hr, z]) hP (fun t ht _ => ⟨rfl, ht⟩) hL hdec hlocks)
  · have z : n = 1 ∧ ret = some .long := by simpa using (show (n == 1 && decide (ret = some .long)) = true from hck)
    obtain ⟨rfl, z⟩ := z
    rw [n0, n1]
    exact sm_Wmono (sm_MQ rfl hL hH) (W.lret hx hb (by rw [hr, z]) (fun t ht _ => ⟨rfl, ht⟩) hL hdec hlocks)
  · exact absurd hck (by change ¬ false = true; decide)
  · have z : n = 1 ∧ ret = none := by simpa using (show (n == 1 && decide (ret = none)) = true from hck)
    obtain ⟨rfl, z⟩ := z
    rw [n0, n1]
    exact sm_Wmono (sm_MQ rfl hL hH) (W.vret hx hb (by rw [hr, z]) (fun t ht _ => ⟨rfl, ht⟩) hL hdec hlocks)
  · have z := (show (n == 3 && ((decide (a < 13) && (match (sm_cs w)[a]? with
        | some q => sm_in1 ws (.classLink y.cls i q.1) && sm_in1 ws (.instantiable q.1 b) && sm_in1 ws (.initialized q.1)
        | none => false)) || (decide (hs = []) && sm_kT sx ws y.cls bytes pc i a b d))) = true from hck)
    rw [Bool.and_eq_true, beq_iff_eq, Bool.or_eq_true, Bool.and_eq_true, Bool.and_eq_true, decide_eq_true_eq, decide_eq_true_eq] at z
    obtain ⟨rfl, z⟩ := z
    rcases z with ⟨z1, -⟩ | ⟨hs0, z2⟩
    · omega
    · unfold sm_kT at z2
      split at z2
      · rename_i X hX
        simp only [Bool.and_eq_true, Bool.or_eq_true, decide_eq_true_eq, List.any_eq_true, List.all_eq_true] at z2
        obtain ⟨⟨⟨⟨⟨⟨⟨⟨z0, zd⟩, zl⟩, q, hq, q1, q2⟩, ztw⟩, w1⟩, w2⟩, w3⟩, zf⟩ := z2
        have e1 : cells + ((sm_new M (16 + a) b).1 - M.1) = cells + 1 := by show cells + (M.1 + 1 - M.1) = _; omega
        have e2 : slots + ((sm_new M (16 + a) b).2.1 - M.2.1) = slots + b := by show slots + (M.2.1 + b - M.2.1) = _; omega
        rw [e1, e2] at hroom
        rw [e1, e2]
        have h44 : a < 44 := by have e5 : sm_excs.length = 4 := rfl; have := (List.getElem?_eq_some_iff.mp hX).1; omega
        have hstr := hK.2.2.2.2.2.2.1 q hq
        rw [q1, q2] at hstr
        have hno : c.exceptionTable.toList = [] := by
          rw [hhs, hs0] at hxt
          exact List.map_eq_nil_iff.mp hxt
        have hup : Bundle.fit X = true ∧ (∀ n ∈ sm_ups, Bundle.fit n = true) ∧ sm_ups.length ≤ 4 := ⟨zf, by decide +kernel, by decide⟩
        have hsum : ((st.map (sm_t (sm_ad w))).map fun v => v.category).sum ≤ 16 := by rw [sm_sumT]; exact hP
        rcases zl with ⟨⟨l4, l6⟩, l9⟩ | ⟨⟨l4, l6⟩, l9⟩
        · exact sm_Wthrow hfl hx hb (by rw [hml]; exact hls.1) hlocks hno hA hK hts hgood hown h44 ⟨z0, hX⟩ hup (fun x hx2 => hws _ (of_decide_eq_true (ztw x hx2))) ⟨hw w1, hw w2, hw w3⟩ hstr hdec (sm_dcE zd) (sm_dcE l4) (sm_dcE l6) (sm_dcE l9) ⟨by omega, by omega⟩ hroom hsum hH hL
        · exact sm_WthrowW hfl hx hb (by rw [hml]; exact hls.1) hlocks hno hA hK hts hgood hown h44 ⟨z0, hX⟩ hup (fun x hx2 => hws _ (of_decide_eq_true (ztw x hx2))) ⟨hw w1, hw w2, hw w3⟩ hstr hdec (sm_dcE zd) (sm_dcE l4) (sm_dcE l6) (sm_dcE l9) ⟨by omega, by omega⟩ hroom hsum hH hL
      · cases z2
end SMB
