/-! THE WORLD at the law's start. -/
def sN : List Cond := [.exactly (Term.string "LineSetter$FontReader" 39) "java/lang/String", .exactly (Term.string "LineSetter$FontReader" 48) "java/lang/String", .exactly (Term.string "LineSetter$FontReader" 58) "java/lang/String", .exactly (Term.string "LineSetter$HyphenReader" 69) "java/lang/String", .eq (Term.field (Term.string "LineSetter$FontReader" 39) "java/lang/String" "coder" "B") (.int 0), .eq (Term.field (Term.string "LineSetter$FontReader" 48) "java/lang/String" "coder" "B") (.int 0), .eq (Term.field (Term.string "LineSetter$FontReader" 58) "java/lang/String" "coder" "B") (.int 0), .eq (Term.field (Term.string "LineSetter$HyphenReader" 69) "java/lang/String" "coder" "B") (.int 0), .arrayOf (Term.field (Term.string "LineSetter$FontReader" 39) "java/lang/String" "value" "[B") .byte, .arrayOf (Term.field (Term.string "LineSetter$FontReader" 48) "java/lang/String" "value" "[B") .byte, .arrayOf (Term.field (Term.string "LineSetter$FontReader" 58) "java/lang/String" "value" "[B") .byte, .arrayOf (Term.field (Term.string "LineSetter$HyphenReader" 69) "java/lang/String" "value" "[B") .byte, .eq (.length (Term.field (Term.string "LineSetter$FontReader" 39) "java/lang/String" "value" "[B")) (.int 5), .eq (.length (Term.field (Term.string "LineSetter$FontReader" 48) "java/lang/String" "value" "[B")) (.int 4), .eq (.length (Term.field (Term.string "LineSetter$FontReader" 58) "java/lang/String" "value" "[B")) (.int 4), .eq (.length (Term.field (Term.string "LineSetter$HyphenReader" 69) "java/lang/String" "value" "[B")) (.int 4), .eq (.elem (Term.field (Term.string "LineSetter$FontReader" 39) "java/lang/String" "value" "[B") (.int 0)) (.int 119), .eq (.elem (Term.field (Term.string "LineSetter$FontReader" 39) "java/lang/String" "value" "[B") (.int 1)) (.int 105), .eq (.elem (Term.field (Term.string "LineSetter$FontReader" 39) "java/lang/String" "value" "[B") (.int 2)) (.int 100), .eq (.elem (Term.field (Term.string "LineSetter$FontReader" 39) "java/lang/String" "value" "[B") (.int 3)) (.int 116), .eq (.elem (Term.field (Term.string "LineSetter$FontReader" 39) "java/lang/String" "value" "[B") (.int 4)) (.int 104), .eq (.elem (Term.field (Term.string "LineSetter$FontReader" 48) "java/lang/String" "value" "[B") (.int 0)) (.int 107), .eq (.elem (Term.field (Term.string "LineSetter$FontReader" 48) "java/lang/String" "value" "[B") (.int 1)) (.int 101), .eq (.elem (Term.field (Term.string "LineSetter$FontReader" 48) "java/lang/String" "value" "[B") (.int 2)) (.int 114), .eq (.elem (Term.field (Term.string "LineSetter$FontReader" 48) "java/lang/String" "value" "[B") (.int 3)) (.int 110), .eq (.elem (Term.field (Term.string "LineSetter$FontReader" 58) "java/lang/String" "value" "[B") (.int 0)) (.int 106), .eq (.elem (Term.field (Term.string "LineSetter$FontReader" 58) "java/lang/String" "value" "[B") (.int 1)) (.int 111), .eq (.elem (Term.field (Term.string "LineSetter$FontReader" 58) "java/lang/String" "value" "[B") (.int 2)) (.int 105), .eq (.elem (Term.field (Term.string "LineSetter$FontReader" 58) "java/lang/String" "value" "[B") (.int 3)) (.int 110), .eq (.elem (Term.field (Term.string "LineSetter$HyphenReader" 69) "java/lang/String" "value" "[B") (.int 0)) (.int 101), .eq (.elem (Term.field (Term.string "LineSetter$HyphenReader" 69) "java/lang/String" "value" "[B") (.int 1)) (.int 110), .eq (.elem (Term.field (Term.string "LineSetter$HyphenReader" 69) "java/lang/String" "value" "[B") (.int 2)) (.int 100), .eq (.elem (Term.field (Term.string "LineSetter$HyphenReader" 69) "java/lang/String" "value" "[B") (.int 3)) (.int 115), .not (.eq (Term.string "LineSetter$FontReader" 39) (Term.string "LineSetter$FontReader" 48)), .not (.eq (Term.string "LineSetter$FontReader" 39) (Term.string "LineSetter$FontReader" 58)), .not (.eq (Term.string "LineSetter$FontReader" 39) (Term.string "LineSetter$HyphenReader" 69)), .not (.eq (Term.string "LineSetter$FontReader" 48) (Term.string "LineSetter$FontReader" 58)), .not (.eq (Term.string "LineSetter$FontReader" 48) (Term.string "LineSetter$HyphenReader" 69)), .not (.eq (Term.string "LineSetter$FontReader" 58) (Term.string "LineSetter$HyphenReader" 69)), .exactly (Term.string "LineSetter" 108) "java/lang/String", .exactly (Term.string "LineSetter" 118) "java/lang/String", .exactly (Term.string "LineSetter" 127) "java/lang/String", .exactly (Term.string "LineSetter" 137) "java/lang/String", .exactly (Term.string "LineSetter" 324) "java/lang/String", .exactly (Term.string "LineSetter" 151) "java/lang/String", .exactly (Term.string "LineSetter" 156) "java/lang/String", .exactly (Term.string "LineSetter" 174) "java/lang/String", .exactly (Term.string "LineSetter" 190) "java/lang/String", .exactly (Term.string "LineSetter" 327) "java/lang/String", .exactly (Term.string "LineSetter" 267) "java/lang/String", .exactly (Term.string "LineSetter" 287) "java/lang/String", .exactly (Term.string "LineSetter" 296) "java/lang/String", .exactly (Term.string "LineSetter" 314) "java/lang/String", .not (.castable "java/lang/IllegalArgumentException" "java/lang/IllegalStateException"), .not (.castable "java/lang/IllegalArgumentException" "java/lang/UnsupportedOperationException"), .not (.castable "java/lang/IllegalArgumentException" "java/lang/IndexOutOfBoundsException"), .not (.castable "java/lang/IllegalStateException" "java/lang/IllegalArgumentException"), .not (.castable "java/lang/IllegalStateException" "java/lang/UnsupportedOperationException"), .not (.castable "java/lang/IllegalStateException" "java/lang/IndexOutOfBoundsException"), .not (.castable "java/lang/UnsupportedOperationException" "java/lang/IllegalArgumentException"), .not (.castable "java/lang/UnsupportedOperationException" "java/lang/IllegalStateException"), .not (.castable "java/lang/UnsupportedOperationException" "java/lang/IndexOutOfBoundsException"), .not (.castable "java/lang/IndexOutOfBoundsException" "java/lang/IllegalArgumentException"), .not (.castable "java/lang/IndexOutOfBoundsException" "java/lang/IllegalStateException"), .not (.castable "java/lang/IndexOutOfBoundsException" "java/lang/UnsupportedOperationException"), .eq (.static "java/lang/String" "COMPACT_STRINGS" "Z") (.int 1), .isRef (.static "java/lang/Throwable" "UNASSIGNED_STACK" "[Ljava/lang/StackTraceElement;"), .isRef (.static "java/lang/Throwable" "SUPPRESSED_SENTINEL" "Ljava/util/List;"), .isRef (.static "jdk/internal/util/Preconditions" "SIOOBE_FORMATTER" "Ljava/util/function/BiFunction;")]
theorem sN_ok : sN.all (fun c => decide (c ∈ flatC (Jvm.Cond.and given_1 narrow_1))) = true := by decide +kernel
def sZ : List Cond := [.instantiable "LineSetter" 17, .instantiable "LineSetter$Bytes" 2, .instantiable "LineSetter$Paragraph" 4, .instantiable "LineSetter$FontReader" 3, .instantiable "LineSetter$HyphenReader" 5, .instantiable "LineSetter$Chooser" 4, .instantiable "LineSetter$Line" 11, .instantiable "LineSetter$Font" 5, .instantiable "LineSetter$PairTable" 5, .instantiable "LineSetter$HyphenTable" 14, .instantiable "LineSetter$Setting" 9, .instantiable "LineSetter$Breaks" 13, .instantiable "LineSetterModel" 92, .instantiable "java/lang/String" 4, .instantiable "java/lang/IllegalArgumentException" 6, .instantiable "java/lang/IllegalStateException" 6, .instantiable "java/lang/UnsupportedOperationException" 6, .instantiable "java/lang/IndexOutOfBoundsException" 6, .arrayClass .int, .arrayClass .byte, .arrayClass .long, .arrayClass .boolean, .laysStatic "java/lang/String" "COMPACT_STRINGS" "Z", .initialized "java/lang/String", .laysStatic "java/lang/Throwable" "UNASSIGNED_STACK" "[Ljava/lang/StackTraceElement;", .initialized "java/lang/Throwable", .laysStatic "java/lang/Throwable" "SUPPRESSED_SENTINEL" "Ljava/util/List;", .laysStatic "jdk/internal/util/Preconditions" "SIOOBE_FORMATTER" "Ljava/util/function/BiFunction;", .initialized "jdk/internal/util/Preconditions", .stringRef "LineSetter" 108 "the tape is full", .stringRef "LineSetter" 118 "the tape has not as many bytes", .stringRef "LineSetter$FontReader" 39 "width", .stringRef "LineSetter$FontReader" 48 "kern", .stringRef "LineSetter$FontReader" 58 "join", .stringRef "LineSetter" 127 "the font is broken", .stringRef "LineSetter$HyphenReader" 69 "ends", .stringRef "LineSetter" 137 "the hyphens are broken", .stringRef "LineSetter" 324 "a number out of range", .stringRef "LineSetter" 151 "a byte that no paragraph has", .stringRef "LineSetter" 156 "the paragraph is full", .stringRef "LineSetter" 174 "there is no paragraph", .stringRef "LineSetter" 190 "too many breaks", .stringRef "LineSetter" 327 "nothing is set", .stringRef "LineSetter" 267 "the line has no such word", .stringRef "LineSetter" 287 "no rising row of breaks", .stringRef "LineSetter" 296 "no row of letters", .stringRef "LineSetter" 314 "no byte of the text that was put out"]
theorem sZ_ok : sZ = sm_pick lw_tbl [120, 128, 149, 173, 189, 211, 217, 290, 296, 342, 395, 401, 1562, 1186, 657, 982, 819, 572, 171, 147, 273, 1843, 725, 107, 598, 102, 600, 747, 109, 614, 665, 711, 800, 817, 827, 867, 927, 948, 953, 958, 990, 1272, 1434, 1471, 1511, 1532, 1551] := by decide +kernel
def sTm (i : Nat) : Term := sm_nth (Term.string "LineSetter$FontReader" 39) [Term.string "LineSetter$FontReader" 39, Term.string "LineSetter$FontReader" 48, Term.string "LineSetter$FontReader" 58, Term.string "LineSetter$HyphenReader" 69] i
theorem sm_ceO {w : sm_W} {M : sm_M} {r : Nat} {H : Heap} (h : sm_kd M r = 71) : sm_ce w M r H := ⟨fun z => absurd z (by omega), fun _ z => absurd z (by omega), fun _ => ⟨fun z => absurd z (by omega), fun _ z => absurd z (by omega)⟩⟩
theorem sm_ceX {w : sm_W} {M : sm_M} {r : Nat} {H : Heap} (h1 : 60 ≤ sm_kd M r) (h : sm_xc w M r H) : sm_ce w M r H := ⟨fun z => absurd z (by omega), fun _ z => absurd z (by omega), fun _ => ⟨fun z => absurd z (by omega), fun _ _ => h⟩⟩
theorem sm_ns {v : VmData} (h : v.isStatics = false) (k : ClassId) : v ≠ .statics k := fun e => by rw [e] at h; cases h
theorem sm_world {s : State} {b L : Nat} {xs : Nat → Int32} (hts : ∀ x ∈ lw_tbl, x.before #[Value.ref b] s = true) (hX : va_X b L xs s s.heap) (hgv : (Jvm.Cond.and given_1 narrow_1).before #[Value.ref b] s = true) :
    ∃ w : sm_W, sm_cs w = sC ∧ sm_ft w = sF ∧ sm_E w = 23 ∧ sm_h0 w = s.heap.size ∧ sm_ad w 0 = b ∧ sm_Ad w ∧ sm_Kn w sX sm_excs s ∧ sm_H w (sM0 L xs) s.heap := by
  have hs := flat_of_before _ hgv
  have hn : ∀ (k : Nat) (c : Cond), sN[k]? = some c → c.before #[Value.ref b] s = true := fun k c h => hs c (of_decide_eq_true (List.all_eq_true.mp sN_ok c (List.mem_of_getElem? h)))
  have hz : ∀ (k : Nat) (c : Cond), sZ[k]? = some c → c.before #[Value.ref b] s = true := fun k c h => hts c (sm_pickE (by rw [← sZ_ok]; exact List.mem_of_getElem? h))
  have hts2 : ∀ x ∈ sTs, x.before #[Value.ref b] s = true := fun x hx => hts x (List.mem_filter.mp hx).1
  have hbig : ∀ a : Nat, a < s.heap.size → ¬ s.heap.size ≤ a := fun a h => Nat.not_le.mpr h
  have hcl : ∀ ci : Nat, ∃ q : ClassId × (Nat → Nat), ∀ v, sC[ci]? = some v → u_Kn s v.1 v.2.1 v.2.2 q.1 q.2 := by
    intro ci
    match ci with
    | 0 =>
      obtain ⟨cC, iS, h⟩ := u_known (ws := sTs) (T := sT_0) (N := 17) hts2 (so_lay 0 _ rfl) (hz 0 _ rfl)
      exact ⟨(cC, iS), fun v hv => by cases hv; exact h⟩
    | 1 =>
      obtain ⟨cC, iS, h⟩ := u_known (ws := sTs) (T := sT_1) (N := 2) hts2 (so_lay 1 _ rfl) (hz 1 _ rfl)
      exact ⟨(cC, iS), fun v hv => by cases hv; exact h⟩
    | 2 =>
      obtain ⟨cC, iS, h⟩ := u_known (ws := sTs) (T := sT_2) (N := 4) hts2 (so_lay 2 _ rfl) (hz 2 _ rfl)
      exact ⟨(cC, iS), fun v hv => by cases hv; exact h⟩
    | 3 =>
      obtain ⟨cC, iS, h⟩ := u_known (ws := sTs) (T := sT_3) (N := 3) hts2 (so_lay 3 _ rfl) (hz 3 _ rfl)
      exact ⟨(cC, iS), fun v hv => by cases hv; exact h⟩
    | 4 =>
      obtain ⟨cC, iS, h⟩ := u_known (ws := sTs) (T := sT_4) (N := 5) hts2 (so_lay 4 _ rfl) (hz 4 _ rfl)
      exact ⟨(cC, iS), fun v hv => by cases hv; exact h⟩
    | 5 =>
      obtain ⟨cC, iS, h⟩ := u_known (ws := sTs) (T := sT_5) (N := 4) hts2 (so_lay 5 _ rfl) (hz 5 _ rfl)
      exact ⟨(cC, iS), fun v hv => by cases hv; exact h⟩
    | 6 =>
      obtain ⟨cC, iS, h⟩ := u_known (ws := sTs) (T := sT_6) (N := 11) hts2 (so_lay 6 _ rfl) (hz 6 _ rfl)
      exact ⟨(cC, iS), fun v hv => by cases hv; exact h⟩
    | 7 =>
      obtain ⟨cC, iS, h⟩ := u_known (ws := sTs) (T := sT_7) (N := 5) hts2 (so_lay 7 _ rfl) (hz 7 _ rfl)
      exact ⟨(cC, iS), fun v hv => by cases hv; exact h⟩
    | 8 =>
      obtain ⟨cC, iS, h⟩ := u_known (ws := sTs) (T := sT_8) (N := 5) hts2 (so_lay 8 _ rfl) (hz 8 _ rfl)
      exact ⟨(cC, iS), fun v hv => by cases hv; exact h⟩
    | 9 =>
      obtain ⟨cC, iS, h⟩ := u_known (ws := sTs) (T := sT_9) (N := 14) hts2 (so_lay 9 _ rfl) (hz 9 _ rfl)
      exact ⟨(cC, iS), fun v hv => by cases hv; exact h⟩
    | 10 =>
      obtain ⟨cC, iS, h⟩ := u_known (ws := sTs) (T := sT_10) (N := 9) hts2 (so_lay 10 _ rfl) (hz 10 _ rfl)
      exact ⟨(cC, iS), fun v hv => by cases hv; exact h⟩
    | 11 =>
      obtain ⟨cC, iS, h⟩ := u_known (ws := sTs) (T := sT_11) (N := 13) hts2 (so_lay 11 _ rfl) (hz 11 _ rfl)
      exact ⟨(cC, iS), fun v hv => by cases hv; exact h⟩
    | 12 =>
      obtain ⟨cC, iS, h⟩ := u_known (ws := sTs) (T := sT_12) (N := 92) hts2 (so_lay 12 _ rfl) (hz 12 _ rfl)
      exact ⟨(cC, iS), fun v hv => by cases hv; exact h⟩
    | 13 =>
      obtain ⟨cC, iS, h⟩ := u_known (ws := sTs) (T := sT_13) (N := 2) hts2 (so_lay 13 _ rfl) (hz 13 _ rfl)
      exact ⟨(cC, iS), fun v hv => by cases hv; exact h⟩
    | k + 14 =>
      obtain ⟨cC, iS, h⟩ := u_known (ws := sTs) (T := sT_0) (N := 17) hts2 (so_lay 0 _ rfl) (hz 0 _ rfl)
      exact ⟨(cC, iS), fun v hv => absurd hv (by simp [sC])⟩
  obtain ⟨qc, hqc⟩ := Classical.axiomOfChoice hcl
  obtain ⟨a0, k0, m0, f0, g0, e0⟩ := Cond.arrayClass_spec (type := .int) (hz 18 _ rfl)
  have t0 : ArrOfT s a0 .int := fun n z => ⟨fun k h => (by cases h), k0, g0, m0, e0⟩
  obtain ⟨a1, k1, m1, f1, g1, e1⟩ := Cond.arrayClass_spec (type := .byte) (hz 19 _ rfl)
  have t1 : ArrOfT s a1 .byte := fun n z => ⟨fun k h => (by cases h), k1, g1, m1, e1⟩
  obtain ⟨a2, k2, m2, f2, g2, e2⟩ := Cond.arrayClass_spec (type := .long) (hz 20 _ rfl)
  have t2 : ArrOfT s a2 .long := fun n z => ⟨fun k h => (by cases h), k2, g2, m2, e2⟩
  obtain ⟨a3, k3, m3, f3, g3, e3⟩ := Cond.arrayClass_spec (type := .boolean) (hz 21 _ rfl)
  have t3 : ArrOfT s a3 .boolean := fun n z => ⟨fun k h => (by cases h), k3, g3, m3, e3⟩
  obtain ⟨x0, -, y0, -⟩ := Cond.instantiable_spec (hz 14 _ rfl : (Cond.instantiable "java/lang/IllegalArgumentException" 6).before #[Value.ref b] s = true)
  obtain ⟨x1, -, y1, -⟩ := Cond.instantiable_spec (hz 15 _ rfl : (Cond.instantiable "java/lang/IllegalStateException" 6).before #[Value.ref b] s = true)
  obtain ⟨x2, -, y2, -⟩ := Cond.instantiable_spec (hz 16 _ rfl : (Cond.instantiable "java/lang/UnsupportedOperationException" 6).before #[Value.ref b] s = true)
  obtain ⟨x3, -, y3, -⟩ := Cond.instantiable_spec (hz 17 _ rfl : (Cond.instantiable "java/lang/IndexOutOfBoundsException" 6).before #[Value.ref b] s = true)
  obtain ⟨scr, sc1, sc2, sc3, sc4, sc5⟩ := hX
  obtain ⟨adK, adV, hS, hev⟩ := vk_Sof (args := #[Value.ref b]) (s := s) (N := 4) (tm := sTm) (len := [5, 4, 4, 4]) (byt := sBy) (A := fun q => s.heap.size ≤ q)
    (fun i hi => match i, hi with | 0, _ => by decide | 1, _ => by decide | 2, _ => by decide | 3, _ => by decide)
    (fun i hi => match i, hi with | 0, _ => hn 0 _ rfl | 1, _ => hn 1 _ rfl | 2, _ => hn 2 _ rfl | 3, _ => hn 3 _ rfl)
    (fun i hi => match i, hi with | 0, _ => hn 4 _ rfl | 1, _ => hn 5 _ rfl | 2, _ => hn 6 _ rfl | 3, _ => hn 7 _ rfl)
    (fun i hi => match i, hi with | 0, _ => hn 8 _ rfl | 1, _ => hn 9 _ rfl | 2, _ => hn 10 _ rfl | 3, _ => hn 11 _ rfl)
    (fun i hi => match i, hi with | 0, _ => hn 12 _ rfl | 1, _ => hn 13 _ rfl | 2, _ => hn 14 _ rfl | 3, _ => hn 15 _ rfl)
    (fun i hi => match i, hi with | 0, _ => fun j hj => (match j, hj with | 0, _ => hn 16 _ rfl | 1, _ => hn 17 _ rfl | 2, _ => hn 18 _ rfl | 3, _ => hn 19 _ rfl | 4, _ => hn 20 _ rfl) | 1, _ => fun j hj => (match j, hj with | 0, _ => hn 21 _ rfl | 1, _ => hn 22 _ rfl | 2, _ => hn 23 _ rfl | 3, _ => hn 24 _ rfl) | 2, _ => fun j hj => (match j, hj with | 0, _ => hn 25 _ rfl | 1, _ => hn 26 _ rfl | 2, _ => hn 27 _ rfl | 3, _ => hn 28 _ rfl) | 3, _ => fun j hj => (match j, hj with | 0, _ => hn 29 _ rfl | 1, _ => hn 30 _ rfl | 2, _ => hn 31 _ rfl | 3, _ => hn 32 _ rfl))
    (fun i j hi hj => match i, j, hi, hj with | 0, 0, _, _ => fun h => absurd rfl h | 0, 1, _, _ => fun _ => Or.inl (hn 33 _ rfl) | 0, 2, _, _ => fun _ => Or.inl (hn 34 _ rfl) | 0, 3, _, _ => fun _ => Or.inl (hn 35 _ rfl) | 1, 0, _, _ => fun _ => Or.inr (hn 33 _ rfl) | 1, 1, _, _ => fun h => absurd rfl h | 1, 2, _, _ => fun _ => Or.inl (hn 36 _ rfl) | 1, 3, _, _ => fun _ => Or.inl (hn 37 _ rfl) | 2, 0, _, _ => fun _ => Or.inr (hn 34 _ rfl) | 2, 1, _, _ => fun _ => Or.inr (hn 36 _ rfl) | 2, 2, _, _ => fun h => absurd rfl h | 2, 3, _, _ => fun _ => Or.inl (hn 38 _ rfl) | 3, 0, _, _ => fun _ => Or.inr (hn 35 _ rfl) | 3, 1, _, _ => fun _ => Or.inr (hn 37 _ rfl) | 3, 2, _, _ => fun _ => Or.inr (hn 38 _ rfl) | 3, 3, _, _ => fun h => absurd rfl h) hbig
  obtain ⟨⟨oc0, o10, o20, o30, -⟩, ⟨cf0, kf0, fi0, ff0, pc0, p10, -, p20, p30, p40, -⟩, ⟨cg0, kg0, gi0, gf0, vc0, v10, -, v20, v30, v40, -⟩, ⟨bc0, b10, b20, b30, b40, b50, b60, -⟩⟩ := hS.1 0 (by decide)
  obtain ⟨⟨oc1, o11, o21, o31, -⟩, ⟨cf1, kf1, fi1, ff1, pc1, p11, -, p21, p31, p41, -⟩, ⟨cg1, kg1, gi1, gf1, vc1, v11, -, v21, v31, v41, -⟩, ⟨bc1, b11, b21, b31, b41, b51, b61, -⟩⟩ := hS.1 1 (by decide)
  obtain ⟨⟨oc2, o12, o22, o32, -⟩, ⟨cf2, kf2, fi2, ff2, pc2, p12, -, p22, p32, p42, -⟩, ⟨cg2, kg2, gi2, gf2, vc2, v12, -, v22, v32, v42, -⟩, ⟨bc2, b12, b22, b32, b42, b52, b62, -⟩⟩ := hS.1 2 (by decide)
  obtain ⟨⟨oc3, o13, o23, o33, -⟩, ⟨cf3, kf3, fi3, ff3, pc3, p13, -, p23, p33, p43, -⟩, ⟨cg3, kg3, gi3, gf3, vc3, v13, -, v23, v33, v43, -⟩, ⟨bc3, b13, b23, b33, b43, b53, b63, -⟩⟩ := hS.1 3 (by decide)
  obtain ⟨n0, -, nc0, -, r0, -, d0, -⟩ := Cond.exactly_spec (hn 39 _ rfl : (Cond.exactly (Term.string "LineSetter" 108) "java/lang/String").before #[Value.ref b] s = true)
  obtain ⟨n1, -, nc1, -, r1, -, d1, -⟩ := Cond.exactly_spec (hn 40 _ rfl : (Cond.exactly (Term.string "LineSetter" 118) "java/lang/String").before #[Value.ref b] s = true)
  obtain ⟨n2, -, nc2, -, r2, -, d2, -⟩ := Cond.exactly_spec (hn 41 _ rfl : (Cond.exactly (Term.string "LineSetter" 127) "java/lang/String").before #[Value.ref b] s = true)
  obtain ⟨n3, -, nc3, -, r3, -, d3, -⟩ := Cond.exactly_spec (hn 42 _ rfl : (Cond.exactly (Term.string "LineSetter" 137) "java/lang/String").before #[Value.ref b] s = true)
  obtain ⟨n4, -, nc4, -, r4, -, d4, -⟩ := Cond.exactly_spec (hn 43 _ rfl : (Cond.exactly (Term.string "LineSetter" 324) "java/lang/String").before #[Value.ref b] s = true)
  obtain ⟨n5, -, nc5, -, r5, -, d5, -⟩ := Cond.exactly_spec (hn 44 _ rfl : (Cond.exactly (Term.string "LineSetter" 151) "java/lang/String").before #[Value.ref b] s = true)
  obtain ⟨n6, -, nc6, -, r6, -, d6, -⟩ := Cond.exactly_spec (hn 45 _ rfl : (Cond.exactly (Term.string "LineSetter" 156) "java/lang/String").before #[Value.ref b] s = true)
  obtain ⟨n7, -, nc7, -, r7, -, d7, -⟩ := Cond.exactly_spec (hn 46 _ rfl : (Cond.exactly (Term.string "LineSetter" 174) "java/lang/String").before #[Value.ref b] s = true)
  obtain ⟨n8, -, nc8, -, r8, -, d8, -⟩ := Cond.exactly_spec (hn 47 _ rfl : (Cond.exactly (Term.string "LineSetter" 190) "java/lang/String").before #[Value.ref b] s = true)
  obtain ⟨n9, -, nc9, -, r9, -, d9, -⟩ := Cond.exactly_spec (hn 48 _ rfl : (Cond.exactly (Term.string "LineSetter" 327) "java/lang/String").before #[Value.ref b] s = true)
  obtain ⟨n10, -, nc10, -, r10, -, d10, -⟩ := Cond.exactly_spec (hn 49 _ rfl : (Cond.exactly (Term.string "LineSetter" 267) "java/lang/String").before #[Value.ref b] s = true)
  obtain ⟨n11, -, nc11, -, r11, -, d11, -⟩ := Cond.exactly_spec (hn 50 _ rfl : (Cond.exactly (Term.string "LineSetter" 287) "java/lang/String").before #[Value.ref b] s = true)
  obtain ⟨n12, -, nc12, -, r12, -, d12, -⟩ := Cond.exactly_spec (hn 51 _ rfl : (Cond.exactly (Term.string "LineSetter" 296) "java/lang/String").before #[Value.ref b] s = true)
  obtain ⟨n13, -, nc13, -, r13, -, d13, -⟩ := Cond.exactly_spec (hn 52 _ rfl : (Cond.exactly (Term.string "LineSetter" 314) "java/lang/String").before #[Value.ref b] s = true)
  have hlt : ∀ {a : Nat} {c : Cell}, s.heap[a]? = some c → a < s.heap.size := fun h => (Array.getElem?_eq_some_iff.mp h).1
  refine ⟨(fun r => if r < 23 then sm_nth 0 [b, adK 0, adV 0, adK 1, adV 1, adK 2, adV 2, adK 3, adV 3, n0, n1, n2, n3, n4, n5, n6, n7, n8, n9, n10, n11, n12, n13] r else s.heap.size + (r - 23), fun k => if k < 32 then (qc k).1 else sm_nth a0 [x0, x1, x2, x3, a0, a0, a0, a0, a0, a0, a0, a0, scr.cls, bc0.cls, bc1.cls, bc2.cls, bc3.cls] (k - 32), fun k => (qc k).2, fun k => sm_nth a0 [a0, a1, a2, a3] k, sF, sC, 23, s.heap.size, s.heap), rfl, rfl, rfl, rfl, rfl, ⟨fun r hr => if_neg (Nat.not_lt.mpr hr), fun r hr => ?_⟩, ⟨fun ci q h => ?_, fun k hk => ?_, ⟨t0, f0⟩, ⟨t1, f1⟩, ⟨t2, f2⟩, ⟨t3, f3⟩, fun q hq => ?_, va_Zof (hz 22 _ rfl) (hz 23 _ rfl) (va_eqt (hn 65 _ rfl)) hbig, fun i nm h => ?_, fun i j n1 n2 h1 h2 h3 => ?_, va_Zqof (hz 24 _ rfl) (hz 25 _ rfl) (hn 66 _ rfl) hbig, va_Zqof (hz 26 _ rfl) (hz 25 _ rfl) (hn 67 _ rfl) hbig, va_Zqof (hz 27 _ rfl) (hz 28 _ rfl) (hn 68 _ rfl) hbig, fun n z => ⟨fun k h => (by cases h), sc2.2⟩, fun k h1 h2 => ?_, sm_Sl.of (hz 24 _ rfl), sm_Sl.of (hz 26 _ rfl)⟩, ⟨Nat.le_refl _, rfl, fun r hr => ?_, fun q _ => rfl⟩⟩
  · have hr2 : r < 23 := hr
    show (if r < 23 then _ else _) < s.heap.size
    rw [if_pos hr2]
    match r, hr2 with
    | 0, _ => exact hlt sc1
    | 1, _ => exact hlt o10
    | 2, _ => exact hlt b10
    | 3, _ => exact hlt o11
    | 4, _ => exact hlt b11
    | 5, _ => exact hlt o12
    | 6, _ => exact hlt b12
    | 7, _ => exact hlt o13
    | 8, _ => exact hlt b13
    | 9, _ => exact hlt d0
    | 10, _ => exact hlt d1
    | 11, _ => exact hlt d2
    | 12, _ => exact hlt d3
    | 13, _ => exact hlt d4
    | 14, _ => exact hlt d5
    | 15, _ => exact hlt d6
    | 16, _ => exact hlt d7
    | 17, _ => exact hlt d8
    | 18, _ => exact hlt d9
    | 19, _ => exact hlt d10
    | 20, _ => exact hlt d11
    | 21, _ => exact hlt d12
    | 22, _ => exact hlt d13
    | n + 23, h => exact absurd h (by omega)
  · have hci : ci < 14 := by
      have := (List.getElem?_eq_some_iff.mp h).1
      exact this
    show u_Kn s q.1 q.2.1 q.2.2 (if ci < 32 then (qc ci).1 else _) (qc ci).2
    rw [if_pos (by omega)]
    exact hqc ci q h
  · match k with
    | 0 => exact ⟨_, t0⟩
    | 1 => exact ⟨_, t1⟩
    | 2 => exact ⟨_, t2⟩
    | 3 => exact ⟨_, t3⟩
    | k + 4 => exact ⟨_, t0⟩
  · simp only [sX, List.mem_cons, List.not_mem_nil, or_false] at hq
    rcases hq with rfl | rfl | rfl | rfl | rfl | rfl | rfl | rfl | rfl | rfl | rfl | rfl | rfl | rfl | rfl | rfl | rfl | rfl
    · exact vk_R.of (hz 29 _ rfl) r0
    · exact vk_R.of (hz 30 _ rfl) r1
    · exact vk_R.of (hz 31 _ rfl) (hev 0 (by decide))
    · exact vk_R.of (hz 32 _ rfl) (hev 1 (by decide))
    · exact vk_R.of (hz 33 _ rfl) (hev 2 (by decide))
    · exact vk_R.of (hz 34 _ rfl) r2
    · exact vk_R.of (hz 35 _ rfl) (hev 3 (by decide))
    · exact vk_R.of (hz 36 _ rfl) r3
    · exact vk_R.of (hz 37 _ rfl) r4
    · exact vk_R.of (hz 38 _ rfl) r5
    · exact vk_R.of (hz 39 _ rfl) r6
    · exact vk_R.of (hz 40 _ rfl) r7
    · exact vk_R.of (hz 41 _ rfl) r8
    · exact vk_R.of (hz 42 _ rfl) r9
    · exact vk_R.of (hz 43 _ rfl) r10
    · exact vk_R.of (hz 44 _ rfl) r11
    · exact vk_R.of (hz 45 _ rfl) r12
    · exact vk_R.of (hz 46 _ rfl) r13
  · match i, h with
    | 0, h => cases h; exact y0
    | 1, h => cases h; exact y1
    | 2, h => cases h; exact y2
    | 3, h => cases h; exact y3
    | k + 4, h => exact absurd h (by simp [sm_excs])
  · match i, j, h1, h2, h3 with
    | 0, 0, _, _, h3 => exact absurd rfl h3
    | 0, 1, h1, h2, _ => cases h1; cases h2; exact va_Nc.of (hn 53 _ rfl)
    | 0, 2, h1, h2, _ => cases h1; cases h2; exact va_Nc.of (hn 54 _ rfl)
    | 0, 3, h1, h2, _ => cases h1; cases h2; exact va_Nc.of (hn 55 _ rfl)
    | 1, 0, h1, h2, _ => cases h1; cases h2; exact va_Nc.of (hn 56 _ rfl)
    | 1, 1, _, _, h3 => exact absurd rfl h3
    | 1, 2, h1, h2, _ => cases h1; cases h2; exact va_Nc.of (hn 57 _ rfl)
    | 1, 3, h1, h2, _ => cases h1; cases h2; exact va_Nc.of (hn 58 _ rfl)
    | 2, 0, h1, h2, _ => cases h1; cases h2; exact va_Nc.of (hn 59 _ rfl)
    | 2, 1, h1, h2, _ => cases h1; cases h2; exact va_Nc.of (hn 60 _ rfl)
    | 2, 2, _, _, h3 => exact absurd rfl h3
    | 2, 3, h1, h2, _ => cases h1; cases h2; exact va_Nc.of (hn 61 _ rfl)
    | 3, 0, h1, h2, _ => cases h1; cases h2; exact va_Nc.of (hn 62 _ rfl)
    | 3, 1, h1, h2, _ => cases h1; cases h2; exact va_Nc.of (hn 63 _ rfl)
    | 3, 2, h1, h2, _ => cases h1; cases h2; exact va_Nc.of (hn 64 _ rfl)
    | 3, 3, _, _, h3 => exact absurd rfl h3
    | k + 4, _, h1, _, _ => exact absurd h1 (by simp [sm_excs])
    | _, k + 4, _, h2, _ => exact absurd h2 (by simp [sm_excs])
  · rcases (by omega : k = 45 ∨ k = 46 ∨ k = 47 ∨ k = 48) with rfl | rfl | rfl | rfl
    · exact fun n z => ⟨fun k h => (by cases h), b20.2⟩
    · exact fun n z => ⟨fun k h => (by cases h), b21.2⟩
    · exact fun n z => ⟨fun k h => (by cases h), b22.2⟩
    · exact fun n z => ⟨fun k h => (by cases h), b23.2⟩
  · have hr2 : r < 23 := hr
    match r, hr2 with
    | 0, _ => exact sm_ceX (by show 60 ≤ 60; decide) ⟨scr, sc1, sc2.1, sc3, fun _ => ⟨rfl, Nat.le_of_eq sc4.symm, by rw [sc4]; rfl, sc5⟩, fun z => absurd z (by show ¬ 60 = 70; decide)⟩
    | 1, _ =>
      refine sm_ceX (by show 60 ≤ 70; decide) ⟨oc0, o10, sm_ns o20, ?_, fun z => absurd z (by show ¬ 70 < 65; decide), fun _ => ⟨?_, ?_, ?_⟩⟩
      · cases o10.symm.trans p20
        exact p30
      · exact Option.some.inj (o30.symm.trans (hqc 13 _ rfl).2.1)
      · obtain ⟨_, _, _, fd, w1, w2⟩ := (hqc 13 _ rfl).1 0 (by decide)
        cases v10.symm.trans w1
        cases o10.symm.trans v20
        show oc0.slots[(qc 13).2 0]? = _
        rw [← w2]
        exact v40
      · obtain ⟨_, _, _, fd, w1, w2⟩ := (hqc 13 _ rfl).1 1 (by decide)
        cases p10.symm.trans w1
        cases o10.symm.trans p20
        show oc0.slots[(qc 13).2 1]? = _
        rw [← w2]
        exact p40
    | 2, _ => exact sm_ceX (by show 60 ≤ 61; decide) ⟨bc0, b10, b20.1, b30, fun _ => ⟨rfl, b40, b50, b60⟩, fun z => absurd z (by show ¬ 61 = 70; decide)⟩
    | 3, _ =>
      refine sm_ceX (by show 60 ≤ 70; decide) ⟨oc1, o11, sm_ns o21, ?_, fun z => absurd z (by show ¬ 70 < 65; decide), fun _ => ⟨?_, ?_, ?_⟩⟩
      · cases o11.symm.trans p21
        exact p31
      · exact Option.some.inj (o31.symm.trans (hqc 13 _ rfl).2.1)
      · obtain ⟨_, _, _, fd, w1, w2⟩ := (hqc 13 _ rfl).1 0 (by decide)
        cases v11.symm.trans w1
        cases o11.symm.trans v21
        show oc1.slots[(qc 13).2 0]? = _
        rw [← w2]
        exact v41
      · obtain ⟨_, _, _, fd, w1, w2⟩ := (hqc 13 _ rfl).1 1 (by decide)
        cases p11.symm.trans w1
        cases o11.symm.trans p21
        show oc1.slots[(qc 13).2 1]? = _
        rw [← w2]
        exact p41
    | 4, _ => exact sm_ceX (by show 60 ≤ 62; decide) ⟨bc1, b11, b21.1, b31, fun _ => ⟨rfl, b41, b51, b61⟩, fun z => absurd z (by show ¬ 62 = 70; decide)⟩
    | 5, _ =>
      refine sm_ceX (by show 60 ≤ 70; decide) ⟨oc2, o12, sm_ns o22, ?_, fun z => absurd z (by show ¬ 70 < 65; decide), fun _ => ⟨?_, ?_, ?_⟩⟩
      · cases o12.symm.trans p22
        exact p32
      · exact Option.some.inj (o32.symm.trans (hqc 13 _ rfl).2.1)
      · obtain ⟨_, _, _, fd, w1, w2⟩ := (hqc 13 _ rfl).1 0 (by decide)
        cases v12.symm.trans w1
        cases o12.symm.trans v22
        show oc2.slots[(qc 13).2 0]? = _
        rw [← w2]
        exact v42
      · obtain ⟨_, _, _, fd, w1, w2⟩ := (hqc 13 _ rfl).1 1 (by decide)
        cases p12.symm.trans w1
        cases o12.symm.trans p22
        show oc2.slots[(qc 13).2 1]? = _
        rw [← w2]
        exact p42
    | 6, _ => exact sm_ceX (by show 60 ≤ 63; decide) ⟨bc2, b12, b22.1, b32, fun _ => ⟨rfl, b42, b52, b62⟩, fun z => absurd z (by show ¬ 63 = 70; decide)⟩
    | 7, _ =>
      refine sm_ceX (by show 60 ≤ 70; decide) ⟨oc3, o13, sm_ns o23, ?_, fun z => absurd z (by show ¬ 70 < 65; decide), fun _ => ⟨?_, ?_, ?_⟩⟩
      · cases o13.symm.trans p23
        exact p33
      · exact Option.some.inj (o33.symm.trans (hqc 13 _ rfl).2.1)
      · obtain ⟨_, _, _, fd, w1, w2⟩ := (hqc 13 _ rfl).1 0 (by decide)
        cases v13.symm.trans w1
        cases o13.symm.trans v23
        show oc3.slots[(qc 13).2 0]? = _
        rw [← w2]
        exact v43
      · obtain ⟨_, _, _, fd, w1, w2⟩ := (hqc 13 _ rfl).1 1 (by decide)
        cases p13.symm.trans w1
        cases o13.symm.trans p23
        show oc3.slots[(qc 13).2 1]? = _
        rw [← w2]
        exact p43
    | 8, _ => exact sm_ceX (by show 60 ≤ 64; decide) ⟨bc3, b13, b23.1, b33, fun _ => ⟨rfl, b43, b53, b63⟩, fun z => absurd z (by show ¬ 64 = 70; decide)⟩
    | 9, _ => exact sm_ceO rfl
    | 10, _ => exact sm_ceO rfl
    | 11, _ => exact sm_ceO rfl
    | 12, _ => exact sm_ceO rfl
    | 13, _ => exact sm_ceO rfl
    | 14, _ => exact sm_ceO rfl
    | 15, _ => exact sm_ceO rfl
    | 16, _ => exact sm_ceO rfl
    | 17, _ => exact sm_ceO rfl
    | 18, _ => exact sm_ceO rfl
    | 19, _ => exact sm_ceO rfl
    | 20, _ => exact sm_ceO rfl
    | 21, _ => exact sm_ceO rfl
    | 22, _ => exact sm_ceO rfl
    | n + 23, h => exact absurd h (by omega)
