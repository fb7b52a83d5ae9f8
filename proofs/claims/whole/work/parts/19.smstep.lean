/-! ONE STEP of the small machine, whatever it is, is steps of the machine. -/
def sm_OK (P : sm_P) (J : Nat → sm_J) (w : sm_W) (sx : List (String × Nat × String × Nat)) (Ts : List Cond) : Prop :=
  sm_Ad w ∧ (∀ x ∈ Ts, sm_gdB x = true) ∧ (∀ (ci : Nat) (q : vw_C), (sm_cs w)[ci]? = some q → ∀ x ∈ u_ws q.1 q.2.1 q.2.2, x ∈ Ts) ∧ (∀ (ci : Nat) (q : vw_C), ci < 13 → (sm_cs w)[ci]? = some q → sm_Cl Ts w ci q.1 q.2.1 q.2.2) ∧ (∀ mi x, x ∈ (J mi).2.2.2.2 → x ∈ Ts) ∧ (∀ mi, (J mi).2.2.2.1 = (P mi).2.2.map (fun q => (q.1, q.2.1, q.2.2.1, q.2.2.2 / 64))) ∧
  (∀ mi q, q ∈ (P mi).2.1 → sm_dc (J mi).2.1 q.1 q.2.1 q.2.2.1 = true ∧ sm_ck P J (sm_cs w) (sm_ft w) sx (J mi).1 (J mi).2.1 (J mi).2.2.1 (J mi).2.2.2.2 (P mi).2.2 q.1 q.2.1 q.2.2.1 q.2.2.2.1 q.2.2.2.2.1 q.2.2.2.2.2 = true)
theorem sm_lko {pc : Nat} {df : Int} (hd : 0 ≤ (pc : Int) + df) (z : Int) : ∀ (k : List (Int × Int)), (∀ o ∈ k, 0 ≤ (pc : Int) + o.2) → 0 ≤ (pc : Int) + Op.lookupswitch.offset k df z
  | [], _ => by rw [show Op.lookupswitch.offset [] df z = df from rfl]; exact hd
  | q :: r, h => by
    obtain ⟨a, o⟩ := q
    rw [Op.lookupswitch.offset_cons]
    split
    · exact h (a, o) List.mem_cons_self
    · exact sm_lko hd z r (fun x hx => h x (List.mem_cons_of_mem _ hx))
section SM9
variable {p : Program} {l : Launch} {e : Env} {R : Room} {s : State} {m : MethodId} {args : Array Value} {below : List Frame} {meth : Method} {c : Code} {H : Heap} {locs : List Loc} {cells slots : Nat} {Q : State → Prop}
variable {pc : Nat} {ls : Array Slot} {w : sm_W} {M : sm_M} {nL : Nat} {lo : List (Option Value)} {st : List Value} {hs : List sm_X} {n a b d : Nat} {Pr : Prop} {M2 : sm_M} {pc2 : Nat} {lo2 : List (Option Value)} {st2 : List Value} {sx : List (String × Nat × String × Nat)} {Ts ws : List Cond} {P : sm_P} {J : Nat → sm_J} {y : MethodName} {bytes : ByteArray} {ret : Option FieldType} {hh : List (Nat × Nat × Nat × Nat)} {dd : Nat}
theorem sm_one (hA : sm_Ad w) (hgood : ∀ x ∈ Ts, sm_gdB x = true) (hCl : ∀ (ci : Nat) (q : vw_C), (sm_cs w)[ci]? = some q → ∀ x ∈ u_ws q.1 q.2.1 q.2.2, x ∈ Ts) (hCw : ∀ (ci : Nat) (q : vw_C), ci < 13 → (sm_cs w)[ci]? = some q → sm_Cl Ts w ci q.1 q.2.1 q.2.2) (hws : ∀ x ∈ ws, x ∈ Ts) (hcx : sm_Cx Ts w sx sm_excs y bytes nL ret hh (dd + 1) p R s m args meth c) {ins : Jvm.ClassFile.Instr} (hck : sm_ck P J (sm_cs w) (sm_ft w) sx y bytes ret ws hs pc ins n a b d = true) (hdec : decode bytes pc = .ok (ins, n)) (h : sm_ex hs (sm_E w) M pc lo st ins n a b d = some (Pr, .inl (M2, pc2, lo2, st2))) (hP : Pr) (hH : sm_H w M H) (hL : sm_lo w locs) (hls : sm_L (sm_ad w) ls nL lo) (hroom : cells + (M2.1 - M.1) ≤ R.cells ∧ slots + (M2.2.1 - M.2.1) ≤ R.slots) (kk : sm_KK p l e R s m args below meth c w nL cells slots Q M M2 pc2 lo2 st2) : W p l e R s m args below meth c H locs cells slots Q (F0 m pc ls (st.map (sm_t (sm_ad w)))) := by
  obtain ⟨hx, hb, hr, hml, hown, hlocks, hname, hxt, hts, hK, hR1, hR2, -⟩ := hcx
  have hw : ∀ {k : Cond}, sm_in1 ws k = true → k.before args s = true := fun h => hts _ (hws _ (of_decide_eq_true h))
  cases ins with
  | aconst_null =>
    have z : n = 1 := by simpa using (show (n == 1) = true from hck)
    subst z
    exact sm_o_aconst_null hx hb h hP hdec hH hL hls kk
  | iconst i =>
    have z : n = 1 := by simpa using (show (n == 1) = true from hck)
    subst z
    exact sm_o_iconst hx hb h hP hdec hH hL hls kk
  | bipush i =>
    have z : n = 2 := by simpa using (show (n == 2) = true from hck)
    subst z
    exact sm_o_bipush hx hb h hP hdec hH hL hls kk
  | sipush i =>
    have z : n = 3 := by simpa using (show (n == 3) = true from hck)
    subst z
    exact sm_o_sipush hx hb h hP hdec hH hL hls kk
  | lconst i =>
    have z : n = 1 := by simpa using (show (n == 1) = true from hck)
    subst z
    exact sm_o_lconst hx hb h hP hdec hH hL hls kk
  | iload i =>
    have z : n = 2 := by simpa using (show (n == 2) = true from hck)
    subst z
    exact sm_o_iload hx hb h hP hdec hH hL hls kk
  | iload_n i =>
    have z : n = 1 := by simpa using (show (n == 1) = true from hck)
    subst z
    exact sm_o_iload_n hx hb h hP hdec hH hL hls kk
  | lload i =>
    have z : n = 2 := by simpa using (show (n == 2) = true from hck)
    subst z
    exact sm_o_lload hx hb h hP hdec hH hL hls kk
  | lload_n i =>
    have z : n = 1 := by simpa using (show (n == 1) = true from hck)
    subst z
    exact sm_o_lload_n hx hb h hP hdec hH hL hls kk
  | aload i =>
    have z : n = 2 := by simpa using (show (n == 2) = true from hck)
    subst z
    exact sm_o_aload hx hb h hP hdec hH hL hls kk
  | aload_n i =>
    have z : n = 1 := by simpa using (show (n == 1) = true from hck)
    subst z
    exact sm_o_aload_n hx hb h hP hdec hH hL hls kk
  | istore i =>
    have z : n = 2 := by simpa using (show (n == 2) = true from hck)
    subst z
    exact sm_o_istore hx hb h hP hdec hH hL hls kk
  | istore_n i =>
    have z : n = 1 := by simpa using (show (n == 1) = true from hck)
    subst z
    exact sm_o_istore_n hx hb h hP hdec hH hL hls kk
  | lstore i =>
    have z : n = 2 := by simpa using (show (n == 2) = true from hck)
    subst z
    exact sm_o_lstore hx hb h hP hdec hH hL hls kk
  | lstore_n i =>
    have z : n = 1 := by simpa using (show (n == 1) = true from hck)
    subst z
    exact sm_o_lstore_n hx hb h hP hdec hH hL hls kk
  | astore i =>
    have z : n = 2 := by simpa using (show (n == 2) = true from hck)
    subst z
    exact sm_o_astore hx hb h hP hdec hH hL hls kk
  | astore_n i =>
    have z : n = 1 := by simpa using (show (n == 1) = true from hck)
    subst z
    exact sm_o_astore_n hx hb h hP hdec hH hL hls kk
  | iadd =>
    have z : n = 1 := by simpa using (show (n == 1) = true from hck)
    subst z
    exact sm_o_iadd hx hb h hP hdec hH hL hls kk
  | isub =>
    have z : n = 1 := by simpa using (show (n == 1) = true from hck)
    subst z
    exact sm_o_isub hx hb h hP hdec hH hL hls kk
  | imul =>
    have z : n = 1 := by simpa using (show (n == 1) = true from hck)
    subst z
    exact sm_o_imul hx hb h hP hdec hH hL hls kk
  | iand =>
    have z : n = 1 := by simpa using (show (n == 1) = true from hck)
    subst z
    exact sm_o_iand hx hb h hP hdec hH hL hls kk
  | ior =>
    have z : n = 1 := by simpa using (show (n == 1) = true from hck)
    subst z
    exact sm_o_ior hx hb h hP hdec hH hL hls kk
  | ixor =>
    have z : n = 1 := by simpa using (show (n == 1) = true from hck)
    subst z
    exact sm_o_ixor hx hb h hP hdec hH hL hls kk
  | ishl =>
    have z : n = 1 := by simpa using (show (n == 1) = true from hck)
    subst z
    exact sm_o_ishl hx hb h hP hdec hH hL hls kk
  | ishr =>
    have z : n = 1 := by simpa using (show (n == 1) = true from hck)
    subst z
    exact sm_o_ishr hx hb h hP hdec hH hL hls kk
  | iushr =>
    have z : n = 1 := by simpa using (show (n == 1) = true from hck)
    subst z
    exact sm_o_iushr hx hb h hP hdec hH hL hls kk
  | idiv =>
    have z : n = 1 := by simpa using (show (n == 1) = true from hck)
    subst z
    exact sm_o_idiv hx hb h hP hdec hH hL hls kk
  | irem =>
    have z : n = 1 := by simpa using (show (n == 1) = true from hck)
    subst z
    exact sm_o_irem hx hb h hP hdec hH hL hls kk
  | ineg =>
    have z : n = 1 := by simpa using (show (n == 1) = true from hck)
    subst z
    exact sm_o_ineg hx hb h hP hdec hH hL hls kk
  | i2b =>
    have z : n = 1 := by simpa using (show (n == 1) = true from hck)
    subst z
    exact sm_o_i2b hx hb h hP hdec hH hL hls kk
  | i2c =>
    have z : n = 1 := by simpa using (show (n == 1) = true from hck)
    subst z
    exact sm_o_i2c hx hb h hP hdec hH hL hls kk
  | ladd =>
    have z : n = 1 := by simpa using (show (n == 1) = true from hck)
    subst z
    exact sm_o_ladd hx hb h hP hdec hH hL hls kk
  | lsub =>
    have z : n = 1 := by simpa using (show (n == 1) = true from hck)
    subst z
    exact sm_o_lsub hx hb h hP hdec hH hL hls kk
  | lmul =>
    have z : n = 1 := by simpa using (show (n == 1) = true from hck)
    subst z
    exact sm_o_lmul hx hb h hP hdec hH hL hls kk
  | land =>
    have z : n = 1 := by simpa using (show (n == 1) = true from hck)
    subst z
    exact sm_o_land hx hb h hP hdec hH hL hls kk
  | lor =>
    have z : n = 1 := by simpa using (show (n == 1) = true from hck)
    subst z
    exact sm_o_lor hx hb h hP hdec hH hL hls kk
  | lxor =>
    have z : n = 1 := by simpa using (show (n == 1) = true from hck)
    subst z
    exact sm_o_lxor hx hb h hP hdec hH hL hls kk
  | lshl =>
    have z : n = 1 := by simpa using (show (n == 1) = true from hck)
    subst z
    exact sm_o_lshl hx hb h hP hdec hH hL hls kk
  | lshr =>
    have z : n = 1 := by simpa using (show (n == 1) = true from hck)
    subst z
    exact sm_o_lshr hx hb h hP hdec hH hL hls kk
  | lushr =>
    have z : n = 1 := by simpa using (show (n == 1) = true from hck)
    subst z
    exact sm_o_lushr hx hb h hP hdec hH hL hls kk
  | ldiv =>
    have z : n = 1 := by simpa using (show (n == 1) = true from hck)
    subst z
    exact sm_o_ldiv hx hb h hP hdec hH hL hls kk
  | lrem =>
    have z : n = 1 := by simpa using (show (n == 1) = true from hck)
    subst z
    exact sm_o_lrem hx hb h hP hdec hH hL hls kk
  | lneg =>
    have z : n = 1 := by simpa using (show (n == 1) = true from hck)
    subst z
    exact sm_o_lneg hx hb h hP hdec hH hL hls kk
  | lcmp =>
    have z : n = 1 := by simpa using (show (n == 1) = true from hck)
    subst z
    exact sm_o_lcmp hx hb h hP hdec hH hL hls kk
  | i2l =>
    have z : n = 1 := by simpa using (show (n == 1) = true from hck)
    subst z
    exact sm_o_i2l hx hb h hP hdec hH hL hls kk
  | l2i =>
    have z : n = 1 := by simpa using (show (n == 1) = true from hck)
    subst z
    exact sm_o_l2i hx hb h hP hdec hH hL hls kk
  | dup =>
    have z : n = 1 := by simpa using (show (n == 1) = true from hck)
    subst z
    exact sm_o_dup hx hb h hP hdec hH hL hls kk
  | pop =>
    have z : n = 1 := by simpa using (show (n == 1) = true from hck)
    subst z
    exact sm_o_pop hx hb h hP hdec hH hL hls kk
  | dup_x1 =>
    have z : n = 1 := by simpa using (show (n == 1) = true from hck)
    subst z
    exact sm_o_dup_x1 hx hb h hP hdec hH hL hls kk
  | dup2 =>
    have z : n = 1 := by simpa using (show (n == 1) = true from hck)
    subst z
    exact sm_o_dup2 hx hb h hP hdec hH hL hls kk
  | iinc i k =>
    have z : n = 3 ∨ n = 6 := by simpa using (show (n == 3 || n == 6) = true from hck)
    rcases z with rfl | rfl
    · exact sm_o_iinc hx hb h hP hdec rfl hH hL hls kk
    · exact sm_o_iincW hx hb h hP hdec rfl hH hL hls kk
  | goto off =>
    have z : n = 3 ∧ (pc : Int) + off = (a : Int) := by simpa using (show (n == 3 && decide ((pc : Int) + off = (a : Int))) = true from hck)
    obtain ⟨rfl, ht⟩ := z
    exact sm_o_goto hx hb h hP hdec ht hH hL hls kk
  | ifCond k off =>
    have z : n = 3 ∧ (pc : Int) + off = (a : Int) := by simpa using (show (n == 3 && decide ((pc : Int) + off = (a : Int))) = true from hck)
    obtain ⟨rfl, ht⟩ := z
    exact sm_o_ifCond hx hb h hP hdec ht hH hL hls kk
  | if_icmp k off =>
    have z : n = 3 ∧ (pc : Int) + off = (a : Int) := by simpa using (show (n == 3 && decide ((pc : Int) + off = (a : Int))) = true from hck)
    obtain ⟨rfl, ht⟩ := z
    exact sm_o_if_icmp hx hb h hP hdec ht hH hL hls kk
  | ifnull off =>
    have z : n = 3 ∧ (pc : Int) + off = (a : Int) := by simpa using (show (n == 3 && decide ((pc : Int) + off = (a : Int))) = true from hck)
    obtain ⟨rfl, ht⟩ := z
    exact sm_o_ifnull hx hb h hP hdec ht hH hL hls kk
  | ifnonnull off =>
    have z : n = 3 ∧ (pc : Int) + off = (a : Int) := by simpa using (show (n == 3 && decide ((pc : Int) + off = (a : Int))) = true from hck)
    obtain ⟨rfl, ht⟩ := z
    exact sm_o_ifnonnull hx hb h hP hdec ht hH hL hls kk
  | tableswitch df k1 k2 offs =>
    have z := (show (decide (0 ≤ (pc : Int) + df) && offs.toList.all (fun o => decide (0 ≤ (pc : Int) + o))) = true from hck)
    simp only [Bool.and_eq_true, decide_eq_true_eq, List.all_eq_true] at z
    exact sm_o_tableswitch hx hb h hP hdec ⟨z.1, fun o ho => z.2 o (Array.mem_toList_iff.mpr ho)⟩ hH hL hls kk
  | lookupswitch df ps =>
    have z := (show ((ps.toList.zip (ps.toList.drop 1)).all (fun (a, next) => a.1 < next.1) && decide (0 ≤ (pc : Int) + df) && ps.toList.all (fun o => decide (0 ≤ (pc : Int) + o.2))) = true from hck)
    rw [Bool.and_eq_true, Bool.and_eq_true] at z
    obtain ⟨⟨z1, z2⟩, z3⟩ := z
    have z2 : 0 ≤ (pc : Int) + df := of_decide_eq_true z2
    have z3 : ∀ o ∈ ps.toList, 0 ≤ (pc : Int) + o.2 := fun o ho => of_decide_eq_true (List.all_eq_true.mp z3 o ho)
    exact sm_o_lookupswitch hx hb h hP hdec ⟨z1, fun q => sm_lko z2 q _ z3⟩ hH hL hls kk
  | ldc i =>
    have z := (show (n == 2 && ((a == 0 && sm_in1 ws (.constant y.cls i (Int32.ofNat b))) || (a == 1 && sx.any (fun q => decide (q.1 = y.cls) && decide (q.2.1 = i) && decide (q.2.2.2 = b))))) = true from hck)
    simp only [Bool.and_eq_true, Bool.or_eq_true, beq_iff_eq, List.any_eq_true, decide_eq_true_eq] at z
    obtain ⟨rfl, z⟩ := z
    refine sm_o_ldc hx hb hA hK hown h hP hdec ⟨fun ha => ?_, fun ha => ?_⟩ hH hL hls kk
    · rcases z with z | z
      · exact hw z.2
      · omega
    · rcases z with z | ⟨-, q, hq, ⟨q1, q2⟩, q3⟩
      · exact absurd z.1 ha
      · have := hK.2.2.2.2.2.2.1 q hq
        rw [q1, q2, q3] at this
        exact ⟨_, this⟩
  | ldc_w i =>
    have z : n = 3 ∧ sm_in1 ws (.constant y.cls i (Int32.ofNat b)) = true := by simpa using (show (n == 3 && sm_in1 ws (.constant y.cls i (Int32.ofNat b))) = true from hck)
    obtain ⟨rfl, ht⟩ := z
    exact sm_o_ldc_w hx hb hA hK hown h hP hdec (hw ht) hH hL hls kk
  | ldc2_w i =>
    have z : n = 3 ∧ sm_in1 ws (.constantLong y.cls i (Int64.ofNat b)) = true := by simpa using (show (n == 3 && sm_in1 ws (.constantLong y.cls i (Int64.ofNat b))) = true from hck)
    obtain ⟨rfl, ht⟩ := z
    exact sm_o_ldc2_w hx hb hA hK hown h hP hdec (hw ht) hH hL hls kk
  | getstatic i =>
    have z := (show (n == 3 && ((a == 0 && b == 1 && sm_in1 ws (.fieldLink y.cls i "java/lang/String" "COMPACT_STRINGS" "Z")) || (a == 1 && sm_kG ws y.cls bytes pc i b))) = true from hck)
    rw [Bool.and_eq_true, beq_iff_eq, Bool.or_eq_true] at z
    obtain ⟨rfl, z⟩ := z
    rcases z with z | z
    · simp only [Bool.and_eq_true, beq_iff_eq] at z
      exact sm_o_getstatic hx hb hA hK hown h hP hdec z.1.1 z.1.2 (hw z.2) hH hL hls kk
    · simp only [sm_kG, Bool.and_eq_true, beq_iff_eq] at z
      obtain ⟨rfl, ⟨⟨⟨⟨⟨z1, z2⟩, z3⟩, z4⟩, z5⟩, z6⟩, z7⟩ := z
      exact sm_o_ckix hx hb hml hts hgood hK hown ⟨hR1, hR2⟩ (by omega) h hP hdec (sm_dcE z1) (sm_dcE z2) (hw z3) (hw z4) (hw z5) (hw z6) (hw z7) hH hL hls kk
  | iaload =>
    have z : n = 1 ∧ (a = 0 ∨ a = 1) := by simpa using (show (n == 1 && (a == 0 || a == 1)) = true from hck)
    obtain ⟨rfl, ha⟩ := z
    exact sm_o_iaload hx hb hA hK hown h hP hdec ha hH hL hls kk
  | baload =>
    have z : n = 1 ∧ (a = 1 ∨ a = 3 ∨ a = 5) := by simpa [or_assoc] using (show (n == 1 && (a == 1 || a == 3 || a == 5)) = true from hck)
    obtain ⟨rfl, ha⟩ := z
    exact sm_o_baload hx hb hA hK hown h hP hdec ha hH hL hls kk
  | arraylength =>
    have z : n = 1 := by simpa using (show (n == 1) = true from hck)
    subst z
    exact sm_o_arraylength hx hb hA hK hown h hP hdec hH hL hls kk
  | laload =>
    have z : n = 1 := by simpa using (show (n == 1) = true from hck)
    subst z
    exact sm_o_laload hx hb hA hK hown h hP hdec hH hL hls kk
  | iastore =>
    have z : n = 1 := by simpa using (show (n == 1) = true from hck)
    subst z
    exact sm_o_iastore hx hb hA hK hown h hP hdec hH hL hls kk
  | lastore =>
    have z : n = 1 := by simpa using (show (n == 1) = true from hck)
    subst z
    exact sm_o_lastore hx hb hA hK hown h hP hdec hH hL hls kk
  | bastore =>
    have z : n = 1 ∧ (a = 1 ∨ a = 3) := by simpa using (show (n == 1 && (a == 1 || a == 3)) = true from hck)
    obtain ⟨rfl, ha⟩ := z
    exact sm_o_bastore hx hb hA hK hown h hP hdec ha hH hL hls kk
  | newarray t =>
    have z := (show (n == 2 && ((decide (t = .int) && sm_in1 ws (.arrayClass .int)) || (decide (t = .byte) && sm_in1 ws (.arrayClass .byte)) || (decide (t = .long) && sm_in1 ws (.arrayClass .long)) || (decide (t = .boolean) && sm_in1 ws (.arrayClass .boolean)))) = true from hck)
    simp only [Bool.and_eq_true, Bool.or_eq_true, beq_iff_eq, decide_eq_true_eq] at z
    obtain ⟨rfl, z⟩ := z
    refine sm_o_newarray hx hb hA hK hown h hP hdec ?_ hroom hH hL hls kk
    rcases z with ((z | z) | z) | z
    · exact Or.inl ⟨z.1, hw z.2⟩
    · exact Or.inr (Or.inl ⟨z.1, hw z.2⟩)
    · exact Or.inr (Or.inr (Or.inl ⟨z.1, hw z.2⟩))
    · exact Or.inr (Or.inr (Or.inr ⟨z.1, hw z.2⟩))
  | new i =>
    by_cases ha : 32 ≤ a
    · exfalso
      unfold sm_ex at h
      dsimp only at h
      rw [if_pos ha] at h
      cases h
    · have z := (show (n == 3 && ((decide (a < 13) && (match (sm_cs w)[a]? with
        | some q => sm_in1 ws (.classLink y.cls i q.1) && sm_in1 ws (.instantiable q.1 b) && sm_in1 ws (.initialized q.1)
        | none => false)) || (decide (hs = []) && sm_kT sx ws y.cls bytes pc i a b d))) = true from hck)
      rw [Bool.and_eq_true, beq_iff_eq, Bool.or_eq_true, Bool.and_eq_true, Bool.and_eq_true, decide_eq_true_eq] at z
      obtain ⟨rfl, z⟩ := z
      rcases z with ⟨z1, z2⟩ | ⟨-, z2⟩
      · cases hq : (sm_cs w)[a]? with
        | none => rw [hq] at z2; cases z2
        | some q =>
          rw [hq] at z2
          simp only [Bool.and_eq_true] at z2
          exact sm_o_new hx hb hA hK hown h hP hdec hts (hCw a q z1 hq) ⟨hw z2.1.1, hw z2.1.2, hw z2.2⟩ hroom hH hL hls kk
      · exfalso
        unfold sm_kT at z2
        split at z2
        · simp only [Bool.and_eq_true, decide_eq_true_eq] at z2
          omega
        · cases z2
  | getfield i =>
    have z := (show (n == 3 && (sm_kF (sm_cs w) (sm_ft w) ws y.cls i a b d || (a == 54 && sm_kE (sm_cs w) ws y.cls i b d))) = true from hck)
    rw [Bool.and_eq_true, beq_iff_eq, Bool.or_eq_true, Bool.and_eq_true, beq_iff_eq] at z
    obtain ⟨rfl, z⟩ := z
    rcases z with z | ⟨ha, z⟩
    · unfold sm_kF at z
      cases hq : (sm_cs w)[a]? with
      | none => rw [hq] at z; cases z
      | some q =>
        rw [hq] at z
        simp only [Bool.and_eq_true, decide_eq_true_eq] at z
        exact sm_o_getfield hx hb hA hK hown h hP hdec hts ⟨hq, z.1.1.1, hCl a q hq, z.1.1.2, z.1.2⟩ (hw z.2) hH hL hls kk
    · unfold sm_kE at z
      cases hq : (sm_cs w)[13]? with
      | none => rw [hq] at z; cases z
      | some q =>
        rw [hq] at z
        simp only [Bool.and_eq_true, Bool.or_eq_true, beq_iff_eq, decide_eq_true_eq] at z
        exact sm_o_getfieldX hx hb hA hK hown h hP hdec hts ha ⟨hq, hCl 13 q hq, z.1.1, z.1.2⟩ (hw z.2) hH hL hls kk
  | putfield i =>
    have z := (show (n == 3 && decide (a < 13) && sm_kF (sm_cs w) (sm_ft w) ws y.cls i a b d && (match (sm_cs w)[a]? with
      | some q => decide ((q.2.1 b).2.2.2 = false) || (decide (y.name = "<init>") && decide ((q.2.1 b).1 = y.cls))
      | none => false)) = true from hck)
    rw [Bool.and_eq_true, Bool.and_eq_true, Bool.and_eq_true, beq_iff_eq, decide_eq_true_eq] at z
    obtain ⟨⟨⟨rfl, z0⟩, z⟩, z9⟩ := z
    unfold sm_kF at z
    cases hq : (sm_cs w)[a]? with
    | none => rw [hq] at z; cases z
    | some q =>
      rw [hq] at z z9
      simp only [Bool.and_eq_true, Bool.or_eq_true, decide_eq_true_eq] at z z9
      refine sm_o_putfield hx hb hA hK hown h hP hdec hts (hCw a q z0 hq) z.1.1.2 z.1.2 (hw z.2) ?_ hH hL hls kk
      rcases z9 with z9 | z9
      · exact Or.inl z9
      · exact Or.inr ⟨by rw [hname]; exact z9.1, z9.2⟩
  | invokestatic i =>
    have z := hck
    change sm_call (sm_E w) M pc lo st a b d = some _ at h
    have hcR : cells ≤ R.cells ∧ slots ≤ R.slots := by omega
    have hR3 : 8 ≤ R.frames ∧ 200 ≤ R.locals := by omega
    match a, z, h with
    | 0, z, h => cases h
    | 1, z, h => exact absurd z (by simp [sm_ck])
    | 2, z, h =>
      have z := (show (n == 3 && sm_kH ws y.cls hs pc && sm_kM ws y.cls i Lib.Math.max.name Lib.Math.max.code 2 (some .int)) = true from z)
      simp only [sm_kM, Bool.and_eq_true, beq_iff_eq] at z
      obtain ⟨⟨rfl, -⟩, ⟨⟨z1, z2⟩, z3⟩, z4⟩ := z
      exact sm_p_maxI hx hb hml hR3 hcR hA hK hown h hP hdec ⟨hw z1, hw z2, hw z3, hw z4⟩ hH hL hls kk
    | 3, z, h =>
      have z := (show (n == 3 && sm_kH ws y.cls hs pc && sm_kM ws y.cls i Lib.Math.min.name Lib.Math.min.code 2 (some .int)) = true from z)
      simp only [sm_kM, Bool.and_eq_true, beq_iff_eq] at z
      obtain ⟨⟨rfl, -⟩, ⟨⟨z1, z2⟩, z3⟩, z4⟩ := z
      exact sm_p_minI hx hb hml hR3 hcR hA hK hown h hP hdec ⟨hw z1, hw z2, hw z3, hw z4⟩ hH hL hls kk
    | 4, z, h =>
      have z := (show (n == 3 && sm_kH ws y.cls hs pc && sm_kM ws y.cls i Lib.Math.abs.name Lib.Math.abs.code 1 (some .int)) = true from z)
      simp only [sm_kM, Bool.and_eq_true, beq_iff_eq] at z
      obtain ⟨⟨rfl, -⟩, ⟨⟨z1, z2⟩, z3⟩, z4⟩ := z
      exact sm_p_absI hx hb hml hR3 hcR hA hK hown h hP hdec ⟨hw z1, hw z2, hw z3, hw z4⟩ hH hL hls kk
    | 5, z, h =>
      have z := (show (n == 3 && sm_kH ws y.cls hs pc && sm_kM ws y.cls i Lib.MathLoose.max_long.x Lib.MathLoose.max_long.code 4 (some .long)) = true from z)
      simp only [sm_kM, Bool.and_eq_true, beq_iff_eq] at z
      obtain ⟨⟨rfl, -⟩, ⟨⟨z1, z2⟩, z3⟩, z4⟩ := z
      exact sm_p_maxJ hx hb hml hR3 hcR hA hK hown h hP hdec ⟨hw z1, hw z2, hw z3, hw z4⟩ hH hL hls kk
    | 6, z, h =>
      have z := (show (n == 3 && sm_kH ws y.cls hs pc && sm_kM ws y.cls i Lib.MathLoose.min_long.x Lib.MathLoose.min_long.code 4 (some .long)) = true from z)
      simp only [sm_kM, Bool.and_eq_true, beq_iff_eq] at z
      obtain ⟨⟨rfl, -⟩, ⟨⟨z1, z2⟩, z3⟩, z4⟩ := z
      exact sm_p_minJ hx hb hml hR3 hcR hA hK hown h hP hdec ⟨hw z1, hw z2, hw z3, hw z4⟩ hH hL hls kk
    | 7, z, h =>
      have z := (show (n == 3 && sm_kH ws y.cls hs pc && (sm_in1 ws (.methodLink y.cls i arraycopyName) && sm_in1 ws (.native arraycopyName) && sm_in1 ws (.static arraycopyName) && sm_in1 ws (.initialized "java/lang/System"))) = true from z)
      simp only [Bool.and_eq_true, beq_iff_eq] at z
      obtain ⟨⟨rfl, -⟩, ⟨⟨z1, z2⟩, z3⟩, z4⟩ := z
      exact sm_p_copy hx hb hml hR3 hcR hA hK hown h hP hdec ⟨hw z1, hw z2, hw z3, hw z4⟩ hH hL hls kk
    | k + 8, z, h =>
      exfalso
      have z := (show (n == 3 && sm_kH ws y.cls hs pc && false) = true from z)
      simp at z
  | invokevirtual i =>
    exfalso
    have z := (show (n == 3 && sm_kH ws y.cls hs pc && sm_kV P J (sm_cs w) ws y.cls i a b d) = true from hck)
    simp only [sm_kV, Bool.and_eq_true, Bool.or_eq_true, beq_iff_eq, decide_eq_true_eq] at z
    have ha : 16 ≤ a := by
      rcases z.2.2 with z | z
      · exact z.1.1
      · omega
    change sm_call (sm_E w) M pc lo st a b d = some _ at h
    exact sm_callN ha h
  | invokespecial i =>
    have z := hck
    change sm_call (sm_E w) M pc lo st a b d = some _ at h
    have hcR : cells ≤ R.cells ∧ slots ≤ R.slots := by omega
    have hR3 : 8 ≤ R.frames ∧ 200 ≤ R.locals := by omega
    by_cases ha : a = 1
    · subst ha
      have z := (show (n == 3 && sm_kH ws y.cls hs pc && sm_kX P J ws y.cls i 1 b d) = true from z)
      simp only [sm_kX, if_true, Bool.and_eq_true, beq_iff_eq] at z
      obtain ⟨⟨rfl, -⟩, ⟨z1, z2⟩, z3⟩ := z
      exact sm_p_objInit hx hb hml hR3 hcR hA hK hown h hP hdec ⟨hw z1, hw z2, hw z3⟩ hH hL hls kk
    · exfalso
      have z := (show (n == 3 && sm_kH ws y.cls hs pc && sm_kX P J ws y.cls i a b d) = true from z)
      simp only [sm_kX, if_neg ha, sm_kI, Bool.and_eq_true, decide_eq_true_eq] at z
      exact sm_callN z.2.1.1.1.2 h
  | ireturn =>
    exfalso
    unfold sm_ex at h
    dsimp only at h
    split at h <;> cases h
  | lreturn =>
    exfalso
    unfold sm_ex at h
    dsimp only at h
    split at h <;> cases h
  | return_ =>
    exfalso
    unfold sm_ex at h
    dsimp only at h
    split at h <;> cases h
  | _ => exact absurd hck (by change ¬ false = true; decide)
end SM9
