/-! THE SMALL MACHINE IS SOUND: what it says of a method, the machine does. -/
theorem sm_laL (ad : Nat → Nat) : ∀ (as : List Value), (lg_sl (as.map (sm_t ad))).length = (sm_la as).length
  | [] => rfl
  | v :: vs => by
    have ih := sm_laL ad vs
    have e1 : lg_sl ((v :: vs).map (sm_t ad)) = (if (sm_t ad v).category = 2 then [.val (sm_t ad v), .second] else [.val (sm_t ad v)]) ++ lg_sl (vs.map (sm_t ad)) := rfl
    rw [e1, List.length_append, ih, sm_tc, show sm_la (v :: vs) = if v.category = 2 then some v :: none :: sm_la vs else some v :: sm_la vs from rfl]
    split <;> simp <;> omega
theorem sm_laA (ad : Nat → Nat) : ∀ (as : List Value) (k i : Nat) (v : Value), (sm_la as)[i]? = some (some v) → (k + i, sm_t ad v) ∈ lv_args k (as.map (sm_t ad))
  | [], k, i, v, h => by simp [sm_la] at h
  | u :: us, k, i, v, h => by
    have e1 : lv_args k ((u :: us).map (sm_t ad)) = (k, sm_t ad u) :: lv_args (if (sm_t ad u).category = 2 then k + 2 else k + 1) (us.map (sm_t ad)) := rfl
    rw [e1, sm_tc]
    unfold sm_la at h
    by_cases hc : u.category = 2
    · rw [if_pos hc] at h ⊢
      match i, h with
      | 0, h => cases h; exact List.mem_cons_self
      | 1, h => cases h
      | j + 2, h =>
        have ih := sm_laA ad us (k + 2) j v (by simpa using h)
        rw [show k + (j + 2) = k + 2 + j by omega]
        exact List.mem_cons_of_mem _ ih
    · rw [if_neg hc] at h ⊢
      match i, h with
      | 0, h => cases h; exact List.mem_cons_self
      | j + 1, h =>
        have ih := sm_laA ad us (k + 1) j v (by simpa using h)
        rw [show k + (j + 1) = k + 1 + j by omega]
        exact List.mem_cons_of_mem _ ih
theorem sm_ent (ad : Nat → Nat) (P : sm_P) (i : Nat) (as : List Value) (h : (sm_la as).length ≤ (P i).1) : sm_L ad ((lg_sl (as.map (sm_t ad)) ++ List.replicate ((P i).1 - (lg_sl (as.map (sm_t ad))).length) Slot.unset).toArray) (P i).1 (sm_in P i as).2.1 := by
  have hl := lv_entry (as.map (sm_t ad)) (n := (P i).1) (by rw [sm_laL]; exact h)
  refine ⟨hl.1, hl.2.1, ?_, fun j v hj => ?_⟩
  · show (sm_la as ++ List.replicate ((P i).1 - (sm_la as).length) none).length = _
    rw [List.length_append, List.length_replicate]
    omega
  · have hj2 : (sm_la as ++ List.replicate ((P i).1 - (sm_la as).length) none)[j]? = some (some v) := hj
    have hlt : j < (sm_la as).length := by
      rcases Nat.lt_or_ge j (sm_la as).length with q | q
      · exact q
      · rw [List.getElem?_append_right q, List.getElem?_replicate] at hj2
        split at hj2 <;> cases hj2
    rw [List.getElem?_append_left hlt] at hj2
    have hm := sm_laA ad as 0 j v hj2
    rw [Nat.zero_add] at hm
    exact hl.2.2 _ hm
section SMC
variable {p : Program} {l : Launch} {e : Env} {R : Room} {s : State} {m : MethodId} {args : Array Value} {below : List Frame} {meth : Method} {c : Code} {H : Heap} {locs : List Loc} {cells slots : Nat} {Q : State → Prop}
variable {pc : Nat} {ls : Array Slot} {w : sm_W} {M : sm_M} {nL : Nat} {lo : List (Option Value)} {st : List Value} {hs : List sm_X} {n a b d : Nat} {Pr : Prop} {sx : List (String × Nat × String × Nat)} {Ts ws : List Cond} {P : sm_P} {J : Nat → sm_J} {y : MethodName} {bytes : ByteArray} {ret : Option FieldType} {hh : List (Nat × Nat × Nat × Nat)} {dd : Nat}
theorem sm_callInv (hws : ∀ x ∈ ws, x ∈ Ts) (hcx : sm_Cx Ts w sx sm_excs y bytes nL ret hh (dd + 1) p R s m args meth c) {ins : Jvm.ClassFile.Instr} (hck : sm_ck P J (sm_cs w) (sm_ft w) sx y bytes ret ws hs pc ins n a b d = true) (hdec : decode bytes pc = .ok (ins, n)) {i : Nat} {as : List Value} {g : sm_F} (h : sm_ex hs (sm_E w) M pc lo st ins n a b d = some (Pr, .inr (.inr (i, as, g)))) (hP : Pr) (hH : sm_H w M H) :
    g.1 = pc ∧ g.2.1 = lo ∧ n = 3 ∧ ((g.2.2.map (sm_t (sm_ad w))).map fun v => v.category).sum ≤ 16 ∧ sm_kH ws y.cls hs pc = true ∧ (sm_cw (J i).1 (J i).2.1 (P i).1 (J i).2.2.1 (J i).2.2.2.1).before args s = true ∧ plainFor (J i).1 = true ∧ (P i).1 ≤ 100 ∧ sm_Inv p l e R s m args below meth c H locs cells slots (F0 m pc ls (st.map (sm_t (sm_ad w)))) (g.2.2.map (sm_t (sm_ad w))) (J i).1 (as.map (sm_t (sm_ad w))).toArray := by
  obtain ⟨hx, hb, hr, hml, hown, hlocks, hname, hxt, hts, hK, hR1, hR2, -⟩ := hcx
  have hw : ∀ {k : Cond}, sm_in1 ws k = true → k.before args s = true := fun h => hts _ (hws _ (of_decide_eq_true h))
  obtain ⟨hins, hcall⟩ := sm_exC h
  rcases sm_callE hcall with ⟨rfl, rfl, rfl, rfl, rfl⟩ | ⟨q, r, hdrop, rfl, rfl, rfl, rfl⟩
  · rcases hins with ⟨k, rfl⟩ | ⟨k, rfl⟩ | ⟨k, rfl⟩
    · have z := (show (n == 3 && sm_kH ws y.cls hs pc && sm_kS P J ws y.cls k i d) = true from hck)
      simp only [sm_kS, sm_okM, Bool.and_eq_true, Bool.or_eq_true, beq_iff_eq, decide_eq_true_eq] at z
      obtain ⟨⟨rfl, zh⟩, ⟨⟨⟨⟨⟨z1, z2⟩, z3⟩, z4⟩, ⟨z5, z6⟩, z7⟩, z8⟩, z9⟩ := z
      refine ⟨rfl, rfl, rfl, by rw [sm_sumT]; exact hP.2, zh, hw z4, z7, z8, ?_⟩
      have hlk : (Cond.methodLink y.cls k (J i).1).before args s = true ∨ ∃ host, (Cond.methodLinkNest y.cls k (J i).1 host).before args s = true := z1.elim (fun q => Or.inl (hw q)) (fun q => Or.inr ⟨_, hw q⟩)
      refine sm_invS hx hown hlk (hw z2) (hw z3) (hw z4) ⟨z5, z6⟩ rfl ?_ ?_ (by rw [hb]; exact hdec)
      · rw [z9]; simp [hP.1]
      · show st.map (sm_t (sm_ad w)) = (((st.take d).reverse).map (sm_t (sm_ad w))).reverse ++ (st.drop d).map (sm_t (sm_ad w))
        rw [List.map_reverse, List.reverse_reverse, ← List.map_append, List.take_append_drop]
    · exfalso
      have z := (show (n == 3 && sm_kH ws y.cls hs pc && sm_kV P J (sm_cs w) ws y.cls k 0 i d) = true from hck)
      simp [sm_kV] at z
    · exfalso
      have z := (show (n == 3 && sm_kH ws y.cls hs pc && sm_kX P J ws y.cls k 0 i d) = true from hck)
      simp [sm_kX, sm_kI] at z
  · obtain ⟨p1, p2, p3, p4, p5, p6⟩ := hP
    have hst : st = st.take (d - 1) ++ .ref q :: r := by rw [← hdrop, List.take_append_drop]
    have hlen : (st.take (d - 1)).length = d - 1 := by rw [List.length_take]; omega
    have htk : st.take d = st.take (d - 1) ++ [.ref q] := by
      have e1 : st.take d = (st.take (d - 1) ++ .ref q :: r).take d := by rw [← hst]
      rw [e1, List.take_append, hlen, show d - (d - 1) = 1 by omega, List.take_of_length_le (by rw [hlen]; omega)]
      rfl
    have has : (st.take d).reverse = .ref q :: (st.take (d - 1)).reverse := by rw [htk]; simp
    have hstk : st.map (sm_t (sm_ad w)) = (((st.take (d - 1)).reverse).map (sm_t (sm_ad w))).reverse ++ .ref (sm_ad w q) :: r.map (sm_t (sm_ad w)) := by
      rw [List.map_reverse, List.reverse_reverse]
      exact (congrArg (List.map (sm_t (sm_ad w))) hst).trans (by rw [List.map_append]; rfl)
    have hal : (((st.take (d - 1)).reverse).map (sm_t (sm_ad w))).length = d - 1 := by simp only [List.length_map, List.length_reverse]; exact hlen
    rw [has]
    rcases hins with ⟨k, rfl⟩ | ⟨k, rfl⟩ | ⟨k, rfl⟩
    · exfalso
      obtain ⟨a2, rfl⟩ : ∃ a2, a = a2 + 16 := ⟨a - 16, by omega⟩
      have z := (show (n == 3 && sm_kH ws y.cls hs pc && false) = true from hck)
      simp at z
    · have z := (show (n == 3 && sm_kH ws y.cls hs pc && sm_kV P J (sm_cs w) ws y.cls k a i d) = true from hck)
      simp only [sm_kV, sm_okM, Bool.and_eq_true, Bool.or_eq_true, beq_iff_eq, decide_eq_true_eq] at z
      obtain ⟨⟨rfl, zh⟩, ⟨⟨⟨⟨⟨⟨⟨z1, z2⟩, z3⟩, z4⟩, ⟨z5, z6⟩, z7⟩, z8⟩, z9⟩, z10⟩, z11⟩ := z
      refine ⟨rfl, rfl, rfl, by rw [sm_sumT]; exact p6, zh, hw z4, z7, z8, ?_⟩
      rcases z11 with ⟨⟨z11, z12⟩, z13⟩ | ⟨rfl, z13⟩
      rotate_left
      · obtain ⟨cell, q1, q3, -, -, q5⟩ := sm_xcE hH p4 (by omega) (by omega)
        obtain ⟨q2, -⟩ := q5 p5
        cases hq1 : (sm_cs w)[13]? with
        | none => rw [hq1] at z13; cases z13
        | some qv =>
          rw [hq1] at z13
          have hcn : qv.1 = (J i).1.cls := Option.some.inj z13
          have hcls : s.vm.findClass (J i).1.cls = some cell.cls := by rw [q2, ← hcn]; exact (hK.1 _ _ hq1).2.1
          exact sm_invV hx hown (hw z1) (hw z2) (hw z3) (hw z4) ⟨z5, z6⟩ q1 q3 hcls rfl (by rw [z10, hal]) hstk (by rw [hb]; exact hdec)
      obtain ⟨qv, hq1, cell, q1, q2, q3, q4⟩ := (hH.2.2.1 q p4).2.1 (by omega) (by omega)
      rw [p5] at hq1 q2
      rw [hq1] at z13
      have hcn : qv.1 = (J i).1.cls := Option.some.inj z13
      have hcls : s.vm.findClass (J i).1.cls = some cell.cls := by rw [q2, ← hcn]; exact (hK.1 _ _ hq1).2.1
      exact sm_invV hx hown (hw z1) (hw z2) (hw z3) (hw z4) ⟨z5, z6⟩ q1 (fun z h => by rw [q3] at h; cases h) hcls rfl (by rw [z10, hal]) hstk (by rw [hb]; exact hdec)
    · have z := (show (n == 3 && sm_kH ws y.cls hs pc && sm_kX P J ws y.cls k a i d) = true from hck)
      rw [show sm_kX P J ws y.cls k a i d = sm_kI P J ws y.cls k a i d from if_neg (by omega)] at z
      simp only [sm_kI, sm_okM, Bool.and_eq_true, Bool.or_eq_true, beq_iff_eq, decide_eq_true_eq] at z
      obtain ⟨⟨rfl, zh⟩, ⟨⟨⟨⟨⟨⟨⟨⟨⟨z1, z2⟩, z4⟩, ⟨z5, z6⟩, z7⟩, z8⟩, z9⟩, z10⟩, z11⟩, z12⟩, z13⟩, z14⟩ := z
      have hcw : (sm_cw (J i).1 (J i).2.1 (P i).1 (J i).2.2.1 (J i).2.2.2.1).before args s = true := by rw [z13, z14]; exact hw z4
      refine ⟨rfl, rfl, rfl, by rw [sm_sumT]; exact p6, zh, hcw, z7, z8, ?_⟩
      have hlk : (Cond.methodLink y.cls k (J i).1).before args s = true ∨ ∃ host, (Cond.methodLinkNest y.cls k (J i).1 host).before args s = true := z1.elim (fun q => Or.inl (hw q)) (fun q => Or.inr ⟨_, hw q⟩)
      exact sm_invI hx hown z12 hlk (hw z2) (hw z4) ⟨z5, z6⟩ rfl (by rw [z10, hal]) hstk (by rw [hb]; exact hdec)
end SMC
