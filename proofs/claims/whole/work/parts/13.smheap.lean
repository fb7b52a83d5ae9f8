/-! The tables' facts of a state, and the instructions that touch the heap. -/
/-- a static field as the tables lay it, in cells that were there -/
def sm_Sl (C n d : String) (h0 : Nat) (U : State) (B : Heap) : Prop := ∃ (c : ClassId) (k : Class) (i : Nat) (f : Field) (a : Nat) (cell : Cell), U.vm.findClass C = some c ∧ U.fieldFound? C n d = some (c, k, i, f) ∧ f.isStatic = true ∧ k.statics = some a ∧ B[a]? = some cell ∧ cell.vm.isStatics = true ∧ cell.cls = c ∧ f.slot < cell.slots.size ∧ k.staticTypes[f.slot]? = some f.type ∧ a < h0
theorem sm_Sl.moved {C n d : String} {h0 : Nat} {u U : State} {B : Heap} (hvm : u.vm.Alike U.vm) (h : sm_Sl C n d h0 u B) : sm_Sl C n d h0 U B := by
  obtain ⟨c, k, i, f, a, cell, h1, h2, h3, h4, h5, h6, h7, h8, h9, h10⟩ := h
  obtain ⟨k2, hi, he⟩ := State.fieldFound?_setVm hvm h2
  exact ⟨c, k2, i, f, a, cell, by rw [hvm.findClass]; exact h1, hi, h3, by rw [he]; exact h4, h5, h6, h7, h8, by rw [he]; exact h9, h10⟩
theorem sm_Sl.of {C n d : String} {s : State} {args : Array Value} (h : (Cond.laysStatic C n d).before args s = true) : sm_Sl C n d s.heap.size s s.heap := by
  obtain ⟨c, k, i, f, a, cell, h1, h2, h3, h4, h5, h6, h7, h8, h9⟩ := Cond.laysStatic_spec h
  exact ⟨c, k, i, f, a, cell, h1, h2, h3, h4, h5, h6, h7, h8, h9, (Array.getElem?_eq_some_iff.mp h5).1⟩
theorem sm_Sl.to {C n d : String} {h0 : Nat} {U : State} {B : Heap} {args : Array Value} (h : sm_Sl C n d h0 U B) (hB : ∀ a, a < h0 → U.heap[a]? = B[a]?) : (Cond.laysStatic C n d).before args U = true := by
  obtain ⟨c, k, i, f, a, cell, h1, h2, h3, h4, h5, h6, h7, h8, h9, h10⟩ := h
  exact Cond.laysStatic_of h1 h2 h3 h4 (by rw [hB a h10]; exact h5) h6 h7 h8 h9
def sm_Kn (w : sm_W) (sx : List (String × Nat × String × Nat)) (xs : List String) (s : State) : Prop :=
  (∀ (ci : Nat) (q : vw_C), (sm_cs w)[ci]? = some q → u_Kn s q.1 q.2.1 q.2.2 (sm_dC w ci) (sm_dI w ci)) ∧ (∀ k, k < 16 → ∃ ty, ArrOfT s (sm_aC w k) ty) ∧
  (ArrOfT s (sm_aC w 0) .int ∧ s.vm.findClass ("[" ++ FieldType.int.toString) = some (sm_aC w 0)) ∧ (ArrOfT s (sm_aC w 1) .byte ∧ s.vm.findClass ("[" ++ FieldType.byte.toString) = some (sm_aC w 1)) ∧
  (ArrOfT s (sm_aC w 2) .long ∧ s.vm.findClass ("[" ++ FieldType.long.toString) = some (sm_aC w 2)) ∧ (ArrOfT s (sm_aC w 3) .boolean ∧ s.vm.findClass ("[" ++ FieldType.boolean.toString) = some (sm_aC w 3)) ∧
  (∀ q ∈ sx, vk_R q.1 q.2.1 q.2.2.1 (sm_ad w q.2.2.2) s) ∧ va_Z "java/lang/String" "COMPACT_STRINGS" "Z" (.int 1) (fun q => sm_h0 w ≤ q) s (sm_B w) ∧
  (∀ (i : Nat) (nm : String), xs[i]? = some nm → s.vm.findClass nm = some (sm_dC w (32 + i))) ∧ (∀ (i j : Nat) (n1 n2 : String), xs[i]? = some n1 → xs[j]? = some n2 → i ≠ j → va_Nc n1 n2 s) ∧
  va_Zq "java/lang/Throwable" "UNASSIGNED_STACK" "[Ljava/lang/StackTraceElement;" (fun q => sm_h0 w ≤ q) s (sm_B w) ∧ va_Zq "java/lang/Throwable" "SUPPRESSED_SENTINEL" "Ljava/util/List;" (fun q => sm_h0 w ≤ q) s (sm_B w) ∧ va_Zq "jdk/internal/util/Preconditions" "SIOOBE_FORMATTER" "Ljava/util/function/BiFunction;" (fun q => sm_h0 w ≤ q) s (sm_B w) ∧ ArrOfT s (sm_dC w 44) .int ∧ (∀ k, 45 ≤ k → k < 49 → ArrOfT s (sm_dC w k) .byte) ∧ sm_Sl "java/lang/Throwable" "UNASSIGNED_STACK" "[Ljava/lang/StackTraceElement;" (sm_h0 w) s (sm_B w) ∧ sm_Sl "java/lang/Throwable" "SUPPRESSED_SENTINEL" "Ljava/util/List;" (sm_h0 w) s (sm_B w)
theorem sm_Kn.warm {w : sm_W} {sx : List (String × Nat × String × Nat)} {xs : List String} {s U : State} (hW : s.WarmedH U.vm) (h : sm_Kn w sx xs s) : sm_Kn w sx xs U := by
  obtain ⟨h1, h2, ⟨h3, h3'⟩, ⟨h4, h4'⟩, ⟨h5, h5'⟩, ⟨h6, h6'⟩, h7, h8, h9, h10, h11, h12, h13, h14, h15, h16, h17⟩ := h
  have hv := hW.alike
  refine ⟨fun ci q hq => u_Kn_moved hv (h1 ci q hq), fun k hk => ?_, ⟨arrOfT_moved hv h3, by rw [hv.findClass]; exact h3'⟩, ⟨arrOfT_moved hv h4, by rw [hv.findClass]; exact h4'⟩, ⟨arrOfT_moved hv h5, by rw [hv.findClass]; exact h5'⟩, ⟨arrOfT_moved hv h6, by rw [hv.findClass]; exact h6'⟩, fun q hq => (h7 q hq).warm hW, h8.moved hv, fun i nm hi => by rw [hv.findClass]; exact h9 i nm hi, fun i j n1 n2 q1 q2 q3 => (h10 i j n1 n2 q1 q2 q3).moved hv, h11.moved hv, h12.moved hv, h13.moved hv, arrOfT_moved hv h14, fun k k1 k2 => arrOfT_moved hv (h15 k k1 k2), h16.moved hv, h17.moved hv⟩
  obtain ⟨ty, hty⟩ := h2 k hk
  exact ⟨ty, arrOfT_moved hv hty⟩
theorem sm_fvE {ad : Nat → Nat} {ft : Nat → Nat → Nat} {M : sm_M} {q ci k d : Nat} (h : ft ci k = d) : sm_t ad (sm_gv M q k d) = sm_fv ad ft M q ci k := by
  unfold sm_fv
  rw [h]
  match d with
  | 0 => rfl
  | 1 => rfl
  | 2 => rfl
  | n + 3 => rw [if_neg (by omega), if_neg (by omega)]; rfl
theorem sm_fvI {ad : Nat → Nat} {ft : Nat → Nat → Nat} {M : sm_M} {q ci k : Nat} {x : Int32} (h1 : ft ci k ≠ 1) (h2 : ft ci k ≠ 2) (j : Nat) : sm_fv ad ft (sm_wI M q k x) q ci j = if j = k then .int x else sm_fv ad ft M q ci j := by
  have e : sm_iv (sm_wI M q k x) q = va_up (sm_iv M q) k x := va_up_self _ _ _
  by_cases hj : j = k
  · subst hj
    rw [if_pos rfl]
    unfold sm_fv
    rw [if_neg h1, if_neg h2, e, va_up_self]
  · rw [if_neg hj]
    unfold sm_fv
    rw [e, va_up_ne _ _ hj]
    rfl
theorem sm_fvJ {ad : Nat → Nat} {ft : Nat → Nat → Nat} {M : sm_M} {q ci k : Nat} {x : Int64} (h1 : ft ci k = 1) (j : Nat) : sm_fv ad ft (sm_wJ M q k x) q ci j = if j = k then .long x else sm_fv ad ft M q ci j := by
  have e : sm_jv (sm_wJ M q k x) q = va_up (sm_jv M q) k x := va_up_self _ _ _
  by_cases hj : j = k
  · subst hj
    rw [if_pos rfl]
    unfold sm_fv
    rw [if_pos h1, e, va_up_self]
  · rw [if_neg hj]
    unfold sm_fv
    rw [e, va_up_ne _ _ hj]
    rfl
theorem sm_fvR {ad : Nat → Nat} {ft : Nat → Nat → Nat} {M : sm_M} {q ci k : Nat} {x : Option Nat} (h1 : ft ci k = 2) (j : Nat) : sm_fv ad ft (sm_wR M q k x) q ci j = if j = k then sm_t ad (va_rf x) else sm_fv ad ft M q ci j := by
  have e : sm_rv (sm_wR M q k x) q = va_up (sm_rv M q) k x := va_up_self _ _ _
  by_cases hj : j = k
  · subst hj
    rw [if_pos rfl]
    unfold sm_fv
    rw [if_neg (by omega), if_pos h1, e, va_up_self]
  · rw [if_neg hj]
    unfold sm_fv
    rw [e, va_up_ne _ _ hj]
    rfl
/-- what the tables know of kind ci, so that its objects can be made and written -/
def sm_Cl (Ts : List Cond) (w : sm_W) (ci : Nat) (C : String) (T : u_T) (N : Nat) : Prop := (sm_cs w)[ci]? = some (C, T, N) ∧ ci < 32 ∧ (∀ x ∈ u_ws C T N, x ∈ Ts) ∧ ∃ ty0 : Nat → FieldType, (∀ k, k < N → parseFieldDescriptor (T k).2.2.1 = some (ty0 k)) ∧ (∀ k, k < N → sm_fo (sm_ft w ci k) (ty0 k) = true) ∧ ∀ a, a < N → ∀ b, b < N → a ≠ b → (T a).2.1 ≠ (T b).2.1
section SM2
variable {p : Program} {l : Launch} {e : Env} {R : Room} {s : State} {m : MethodId} {args : Array Value} {below : List Frame} {meth : Method} {c : Code} {H : Heap} {locs : List Loc} {cells slots : Nat} {Q : State → Prop}
variable {cc : ByteArray} {pc : Nat} {ls : Array Slot} {w : sm_W} {M : sm_M} {nL : Nat} {lo : List (Option Value)} {st : List Value} {hs : List sm_X} {n a b d : Nat} {P : Prop} {M2 : sm_M} {pc2 : Nat} {lo2 : List (Option Value)} {st2 : List Value} {sx : List (String × Nat × String × Nat)} {xs : List String} {own : String} {Ts : List Cond}
theorem sm_o_ldc {i : Nat} (hx : p.tables.exec = Jvm.exec) (hb : c.code = cc) (hA : sm_Ad w) (hK : sm_Kn w sx xs s) (hown : s.vm.findClass own = some m.cls) (h : sm_ex hs (sm_E w) M pc lo st (.ldc i) n a b d = some (P, .inl (M2, pc2, lo2, st2))) (hP : P) (hdec : decode cc pc = .ok (.ldc i, 2)) (hl : (a = 0 → (Cond.constant own i (Int32.ofNat b)).before args s = true) ∧ (a ≠ 0 → ∃ tx, vk_R own i tx (sm_ad w b) s)) (hH : sm_H w M H) (hL : sm_lo w locs) (hls : sm_L (sm_ad w) ls nL lo) (kk : sm_KK p l e R s m args below meth c w nL cells slots Q M M2 pc2 lo2 st2) : W p l e R s m args below meth c H locs cells slots Q (F0 m pc ls (st.map (sm_t (sm_ad w)))) := by
  change (match a with | 0 => sm_go M (pc + 2) lo (.int (Int32.ofNat b) :: st) | _ => sm_go M (pc + 2) lo (.ref b :: st)) = some _ at h
  split at h
  · cases h
    exact lv_ldc hx hb hown (hl.1 rfl) hdec (kk.pure hH hL hls)
  · rename_i ha
    cases h
    obtain ⟨tx, hz⟩ := hl.2 (fun z => ha z)
    exact va_ldcS hx hb hown hz hdec (kk.pure hH hL hls)
theorem sm_o_ldc_w {i : Nat} (hx : p.tables.exec = Jvm.exec) (hb : c.code = cc) (hA : sm_Ad w) (hK : sm_Kn w sx xs s) (hown : s.vm.findClass own = some m.cls) (h : sm_ex hs (sm_E w) M pc lo st (.ldc_w i) n a b d = some (P, .inl (M2, pc2, lo2, st2))) (hP : P) (hdec : decode cc pc = .ok (.ldc_w i, 3)) (hl : (Cond.constant own i (Int32.ofNat b)).before args s = true) (hH : sm_H w M H) (hL : sm_lo w locs) (hls : sm_L (sm_ad w) ls nL lo) (kk : sm_KK p l e R s m args below meth c w nL cells slots Q M M2 pc2 lo2 st2) : W p l e R s m args below meth c H locs cells slots Q (F0 m pc ls (st.map (sm_t (sm_ad w)))) := by
  change (match a with | 0 => sm_go M (pc + 3) lo (.int (Int32.ofNat b) :: st) | _ => none) = some _ at h
  split at h
  · cases h
    exact lv_ldcw hx hb hown hl hdec (kk.pure hH hL hls)
  · cases h
theorem sm_o_ldc2_w {i : Nat} (hx : p.tables.exec = Jvm.exec) (hb : c.code = cc) (hA : sm_Ad w) (hK : sm_Kn w sx xs s) (hown : s.vm.findClass own = some m.cls) (h : sm_ex hs (sm_E w) M pc lo st (.ldc2_w i) n a b d = some (P, .inl (M2, pc2, lo2, st2))) (hP : P) (hdec : decode cc pc = .ok (.ldc2_w i, 3)) (hl : (Cond.constantLong own i (Int64.ofNat b)).before args s = true) (hH : sm_H w M H) (hL : sm_lo w locs) (hls : sm_L (sm_ad w) ls nL lo) (kk : sm_KK p l e R s m args below meth c w nL cells slots Q M M2 pc2 lo2 st2) : W p l e R s m args below meth c H locs cells slots Q (F0 m pc ls (st.map (sm_t (sm_ad w)))) := by
  change sm_go M (pc + 3) lo (.long (Int64.ofNat b) :: st) = some _ at h
  cases h
  exact lv_ldc2 hx hb hown hl hdec (kk.pure hH hL hls)
theorem sm_o_getstatic {i : Nat} (hx : p.tables.exec = Jvm.exec) (hb : c.code = cc) (hA : sm_Ad w) (hK : sm_Kn w sx xs s) (hown : s.vm.findClass own = some m.cls) (h : sm_ex hs (sm_E w) M pc lo st (.getstatic i) n a b d = some (P, .inl (M2, pc2, lo2, st2))) (hP : P) (hdec : decode cc pc = .ok (.getstatic i, 3)) (ha : a = 0) (hb1 : b = 1) (hl : (Cond.fieldLink own i "java/lang/String" "COMPACT_STRINGS" "Z").before args s = true) (hH : sm_H w M H) (hL : sm_lo w locs) (hls : sm_L (sm_ad w) ls nL lo) (kk : sm_KK p l e R s m args below meth c w nL cells slots Q M M2 pc2 lo2 st2) : W p l e R s m args below meth c H locs cells slots Q (F0 m pc ls (st.map (sm_t (sm_ad w)))) := by
  subst ha
  change sm_go M (pc + 3) lo (.int (Int32.ofNat b) :: st) = some _ at h
  cases h
  subst hb1
  obtain ⟨cf, kf, fi, f, ad0, cell, h1, h2, h3, h4, h5, h6, h7, h8⟩ := hK.2.2.2.2.2.2.2.1
  exact W.gets hx hb hown hl h1 h2 h3 h4 (by rw [hH.2.2.2 ad0 (Nat.not_le.mp h8)]; exact h5) (fun e => by rw [e] at h6; cases h6) h7 rfl hdec (kk.pure hH hL hls)
theorem sm_o_arraylength (hx : p.tables.exec = Jvm.exec) (hb : c.code = cc) (hA : sm_Ad w) (hK : sm_Kn w sx xs s) (hown : s.vm.findClass own = some m.cls) (h : sm_ex hs (sm_E w) M pc lo st (.arraylength) n a b d = some (P, .inl (M2, pc2, lo2, st2))) (hP : P) (hdec : decode cc pc = .ok (.arraylength, 1)) (hH : sm_H w M H) (hL : sm_lo w locs) (hls : sm_L (sm_ad w) ls nL lo) (kk : sm_KK p l e R s m args below meth c w nL cells slots Q M M2 pc2 lo2 st2) : W p l e R s m args below meth c H locs cells slots Q (F0 m pc ls (st.map (sm_t (sm_ad w)))) := by
  change (match st with | .ref q :: r => sm_by (q < M.1 ∧ (sm_kd M q < 16 ∨ (60 ≤ sm_kd M q ∧ sm_kd M q < 65))) M (pc + 1) lo (.int (Int32.ofNat (sm_ln M q)) :: r) | _ => none) = some _ at h
  split at h
  · cases h
    obtain ⟨p1, p2⟩ := hP
    rcases p2 with p2 | p2
    · exact sm_Walen hx hb hK.2.1 hH ⟨p1, p2⟩ hdec (kk.pure hH hL hls)
    · exact sm_Wxlen hx hb ⟨hK.2.2.2.2.2.2.2.2.2.2.2.2.2.1, hK.2.2.2.2.2.2.2.2.2.2.2.2.2.2.1⟩ hH p1 p2 hdec (kk.pure hH hL hls)
  · cases h
theorem sm_o_iaload (hx : p.tables.exec = Jvm.exec) (hb : c.code = cc) (hA : sm_Ad w) (hK : sm_Kn w sx xs s) (hown : s.vm.findClass own = some m.cls) (h : sm_ex hs (sm_E w) M pc lo st (.iaload) n a b d = some (P, .inl (M2, pc2, lo2, st2))) (hP : P) (hdec : decode cc pc = .ok (.iaload, 1)) (ha : a = 0 ∨ a = 1) (hH : sm_H w M H) (hL : sm_lo w locs) (hls : sm_L (sm_ad w) ls nL lo) (kk : sm_KK p l e R s m args below meth c w nL cells slots Q M M2 pc2 lo2 st2) : W p l e R s m args below meth c H locs cells slots Q (F0 m pc ls (st.map (sm_t (sm_ad w)))) := by
  change (match st with | .int i :: .ref q :: r => sm_by (sm_ai M 0 (sm_ik a) q i) M (pc + 1) lo (.int (sm_iv M q i.toNatClampNeg) :: r) | _ => none) = some _ at h
  split at h
  · cases h
    rcases ha with rfl | rfl
    · exact sm_Wiald hx hb hK.2.2.1.1 hH hP hdec (kk.pure hH hL hls)
    · exact sm_Wixld hx hb hK.2.2.2.2.2.2.2.2.2.2.2.2.2.1 hH hP hdec (kk.pure hH hL hls)
  · cases h
theorem sm_o_laload (hx : p.tables.exec = Jvm.exec) (hb : c.code = cc) (hA : sm_Ad w) (hK : sm_Kn w sx xs s) (hown : s.vm.findClass own = some m.cls) (h : sm_ex hs (sm_E w) M pc lo st (.laload) n a b d = some (P, .inl (M2, pc2, lo2, st2))) (hP : P) (hdec : decode cc pc = .ok (.laload, 1)) (hH : sm_H w M H) (hL : sm_lo w locs) (hls : sm_L (sm_ad w) ls nL lo) (kk : sm_KK p l e R s m args below meth c w nL cells slots Q M M2 pc2 lo2 st2) : W p l e R s m args below meth c H locs cells slots Q (F0 m pc ls (st.map (sm_t (sm_ad w)))) := by
  change (match st with | .int i :: .ref q :: r => sm_by (sm_ai M 0 2 q i) M (pc + 1) lo (.long (sm_jv M q i.toNatClampNeg) :: r) | _ => none) = some _ at h
  split at h
  · cases h
    exact sm_Wlald hx hb hK.2.2.2.2.1.1 hH hP hdec (kk.pure hH hL hls)
  · cases h
theorem sm_o_baload (hx : p.tables.exec = Jvm.exec) (hb : c.code = cc) (hA : sm_Ad w) (hK : sm_Kn w sx xs s) (hown : s.vm.findClass own = some m.cls) (h : sm_ex hs (sm_E w) M pc lo st (.baload) n a b d = some (P, .inl (M2, pc2, lo2, st2))) (hP : P) (hdec : decode cc pc = .ok (.baload, 1)) (ha : a = 1 ∨ a = 3 ∨ a = 5) (hH : sm_H w M H) (hL : sm_lo w locs) (hls : sm_L (sm_ad w) ls nL lo) (kk : sm_KK p l e R s m args below meth c w nL cells slots Q M M2 pc2 lo2 st2) : W p l e R s m args below meth c H locs cells slots Q (F0 m pc ls (st.map (sm_t (sm_ad w)))) := by
  change (match st with | .int i :: .ref q :: r => sm_by (sm_bk M a q i) M (pc + 1) lo (.int (sm_iv M q i.toNatClampNeg) :: r) | _ => none) = some _ at h
  split at h
  · cases h
    rcases ha with rfl | rfl | rfl
    · exact sm_Wbald hx hb hK.2.2.2.1.1 hH hP hdec (kk.pure hH hL hls)
    · exact sm_Wzald hx hb hK.2.2.2.2.2.1.1 hH hP hdec (kk.pure hH hL hls)
    · exact sm_Wbxld hx hb hK.2.2.2.2.2.2.2.2.2.2.2.2.2.2.1 hH hP hdec (kk.pure hH hL hls)
  · cases h
theorem sm_o_iastore (hx : p.tables.exec = Jvm.exec) (hb : c.code = cc) (hA : sm_Ad w) (hK : sm_Kn w sx xs s) (hown : s.vm.findClass own = some m.cls) (h : sm_ex hs (sm_E w) M pc lo st (.iastore) n a b d = some (P, .inl (M2, pc2, lo2, st2))) (hP : P) (hdec : decode cc pc = .ok (.iastore, 1)) (hH : sm_H w M H) (hL : sm_lo w locs) (hls : sm_L (sm_ad w) ls nL lo) (kk : sm_KK p l e R s m args below meth c w nL cells slots Q M M2 pc2 lo2 st2) : W p l e R s m args below meth c H locs cells slots Q (F0 m pc ls (st.map (sm_t (sm_ad w)))) := by
  change (match st with | .int x :: .int i :: .ref q :: r => sm_by (sm_ai M (sm_E w) 0 q i) (sm_wI M q i.toNatClampNeg x) (pc + 1) lo r | _ => none) = some _ at h
  split at h
  · cases h
    exact sm_Wiast hx hb hA hK.2.2.1.1 hH hL hP hdec (fun H1 locs1 k1 k2 => kk H1 locs1 ls cells slots k1 k2 hls (by show cells = cells + (M.1 - M.1); omega) (by show slots = slots + (M.2.1 - M.2.1); omega))
  · cases h
theorem sm_o_lastore (hx : p.tables.exec = Jvm.exec) (hb : c.code = cc) (hA : sm_Ad w) (hK : sm_Kn w sx xs s) (hown : s.vm.findClass own = some m.cls) (h : sm_ex hs (sm_E w) M pc lo st (.lastore) n a b d = some (P, .inl (M2, pc2, lo2, st2))) (hP : P) (hdec : decode cc pc = .ok (.lastore, 1)) (hH : sm_H w M H) (hL : sm_lo w locs) (hls : sm_L (sm_ad w) ls nL lo) (kk : sm_KK p l e R s m args below meth c w nL cells slots Q M M2 pc2 lo2 st2) : W p l e R s m args below meth c H locs cells slots Q (F0 m pc ls (st.map (sm_t (sm_ad w)))) := by
  change (match st with | .long x :: .int i :: .ref q :: r => sm_by (sm_ai M (sm_E w) 2 q i) (sm_wJ M q i.toNatClampNeg x) (pc + 1) lo r | _ => none) = some _ at h
  split at h
  · cases h
    exact sm_Wlast hx hb hA hK.2.2.2.2.1.1 hH hL hP hdec (fun H1 locs1 k1 k2 => kk H1 locs1 ls cells slots k1 k2 hls (by show cells = cells + (M.1 - M.1); omega) (by show slots = slots + (M.2.1 - M.2.1); omega))
  · cases h
theorem sm_o_bastore (hx : p.tables.exec = Jvm.exec) (hb : c.code = cc) (hA : sm_Ad w) (hK : sm_Kn w sx xs s) (hown : s.vm.findClass own = some m.cls) (h : sm_ex hs (sm_E w) M pc lo st (.bastore) n a b d = some (P, .inl (M2, pc2, lo2, st2))) (hP : P) (hdec : decode cc pc = .ok (.bastore, 1)) (ha : a = 1 ∨ a = 3) (hH : sm_H w M H) (hL : sm_lo w locs) (hls : sm_L (sm_ad w) ls nL lo) (kk : sm_KK p l e R s m args below meth c w nL cells slots Q M M2 pc2 lo2 st2) : W p l e R s m args below meth c H locs cells slots Q (F0 m pc ls (st.map (sm_t (sm_ad w)))) := by
  change (match st with | .int x :: .int i :: .ref q :: r => sm_by (sm_ai M (sm_E w) a q i) (sm_wI M q i.toNatClampNeg (sm_bs a x)) (pc + 1) lo r | _ => none) = some _ at h
  split at h
  · cases h
    rcases ha with rfl | rfl
    · exact sm_Wbast hx hb hA hK.2.2.2.1.1 hH hL hP hdec (fun H1 locs1 k1 k2 => kk H1 locs1 ls cells slots k1 k2 hls (by show cells = cells + (M.1 - M.1); omega) (by show slots = slots + (M.2.1 - M.2.1); omega))
    · exact sm_Wzast hx hb hA hK.2.2.2.2.2.1.1 hH hL hP hdec (fun H1 locs1 k1 k2 => kk H1 locs1 ls cells slots k1 k2 hls (by show cells = cells + (M.1 - M.1); omega) (by show slots = slots + (M.2.1 - M.2.1); omega))
  · cases h
theorem sm_o_newarray {t : ArrayType} (hx : p.tables.exec = Jvm.exec) (hb : c.code = cc) (hA : sm_Ad w) (hK : sm_Kn w sx xs s) (hown : s.vm.findClass own = some m.cls) (h : sm_ex hs (sm_E w) M pc lo st (.newarray t) n a b d = some (P, .inl (M2, pc2, lo2, st2))) (hP : P) (hdec : decode cc pc = .ok (.newarray t, 2)) (ht : (t = .int ∧ (Cond.arrayClass .int).before args s = true) ∨ (t = .byte ∧ (Cond.arrayClass .byte).before args s = true) ∨ (t = .long ∧ (Cond.arrayClass .long).before args s = true) ∨ (t = .boolean ∧ (Cond.arrayClass .boolean).before args s = true)) (hroom : cells + (M2.1 - M.1) ≤ R.cells ∧ slots + (M2.2.1 - M.2.1) ≤ R.slots) (hH : sm_H w M H) (hL : sm_lo w locs) (hls : sm_L (sm_ad w) ls nL lo) (kk : sm_KK p l e R s m args below meth c w nL cells slots Q M M2 pc2 lo2 st2) : W p l e R s m args below meth c H locs cells slots Q (F0 m pc ls (st.map (sm_t (sm_ad w)))) := by
  change (match st with | .int x :: r => sm_by (¬ x < 0 ∧ x.toNatClampNeg * 8 ≤ 536870912) (sm_new M (sm_nk t) x.toNatClampNeg) (pc + 2) lo (.ref M.1 :: r) | _ => none) = some _ at h
  split at h
  · rename_i x r
    cases h
    have r1 : cells + 1 ≤ R.cells := by have z : cells + (M.1 + 1 - M.1) ≤ R.cells := hroom.1; omega
    have r2 : slots + x.toNatClampNeg ≤ R.slots := by have z : slots + (M.2.1 + x.toNatClampNeg - M.2.1) ≤ R.slots := hroom.2; omega
    have z1 : ∀ k j, sm_iv (sm_new M k j) M.1 = fun _ => 0 := fun k j => va_up_self _ _ _
    have z2 : ∀ k j, sm_jv (sm_new M k j) M.1 = fun _ => 0 := fun k j => va_up_self _ _ _
    rcases ht with ⟨rfl, ha⟩ | ⟨rfl, ha⟩ | ⟨rfl, ha⟩ | ⟨rfl, ha⟩
    · exact sm_Wnewa hx hb hA hH (ty := .int) rfl ha (k := 0) (by decide) hK.2.2.1.2 (fun j => by funext i; simp only [sm_av, z1, z2]; rfl) hP.1 (Nat.le_trans (Nat.mul_le_mul_left _ (by decide)) hP.2) r1 r2 hdec (fun H1 k1 => kk H1 locs ls _ _ k1 hL hls (by show cells + 1 = cells + (M.1 + 1 - M.1); omega) (by show slots + x.toNatClampNeg = slots + (M.2.1 + x.toNatClampNeg - M.2.1); omega))
    · exact sm_Wnewa hx hb hA hH (ty := .byte) rfl ha (k := 1) (by decide) hK.2.2.2.1.2 (fun j => by funext i; simp only [sm_av, z1, z2]; rfl) hP.1 (Nat.le_trans (Nat.mul_le_mul_left _ (by decide)) hP.2) r1 r2 hdec (fun H1 k1 => kk H1 locs ls _ _ k1 hL hls (by show cells + 1 = cells + (M.1 + 1 - M.1); omega) (by show slots + x.toNatClampNeg = slots + (M.2.1 + x.toNatClampNeg - M.2.1); omega))
    · exact sm_Wnewa hx hb hA hH (ty := .long) rfl ha (k := 2) (by decide) hK.2.2.2.2.1.2 (fun j => by funext i; simp only [sm_av, z1, z2]; rfl) hP.1 (Nat.le_trans (Nat.mul_le_mul_left _ (by decide)) hP.2) r1 r2 hdec (fun H1 k1 => kk H1 locs ls _ _ k1 hL hls (by show cells + 1 = cells + (M.1 + 1 - M.1); omega) (by show slots + x.toNatClampNeg = slots + (M.2.1 + x.toNatClampNeg - M.2.1); omega))
    · exact sm_Wnewa hx hb hA hH (ty := .boolean) rfl ha (k := 3) (by decide) hK.2.2.2.2.2.1.2 (fun j => by funext i; simp only [sm_av, z1, z2]; rfl) hP.1 (Nat.le_trans (Nat.mul_le_mul_left _ (by decide)) hP.2) r1 r2 hdec (fun H1 k1 => kk H1 locs ls _ _ k1 hL hls (by show cells + 1 = cells + (M.1 + 1 - M.1); omega) (by show slots + x.toNatClampNeg = slots + (M.2.1 + x.toNatClampNeg - M.2.1); omega))
  · cases h
theorem sm_o_new {i : Nat} {C : String} {T : u_T} {N : Nat} (hx : p.tables.exec = Jvm.exec) (hb : c.code = cc) (hA : sm_Ad w) (hK : sm_Kn w sx xs s) (hown : s.vm.findClass own = some m.cls) (h : sm_ex hs (sm_E w) M pc lo st (.new i) n a b d = some (P, .inl (M2, pc2, lo2, st2))) (hP : P) (hdec : decode cc pc = .ok (.new i, 3)) (hts : ∀ x ∈ Ts, x.before args s = true) (hC : sm_Cl Ts w a C T N) (hl : (Cond.classLink own i C).before args s = true ∧ (Cond.instantiable C b).before args s = true ∧ (Cond.initialized C).before args s = true) (hroom : cells + (M2.1 - M.1) ≤ R.cells ∧ slots + (M2.2.1 - M.2.1) ≤ R.slots) (hH : sm_H w M H) (hL : sm_lo w locs) (hls : sm_L (sm_ad w) ls nL lo) (kk : sm_KK p l e R s m args below meth c w nL cells slots Q M M2 pc2 lo2 st2) : W p l e R s m args below meth c H locs cells slots Q (F0 m pc ls (st.map (sm_t (sm_ad w)))) := by
  change (if 32 ≤ a then _ else sm_go (sm_new M (16 + a) b) (pc + 3) lo (.ref M.1 :: st)) = some _ at h
  rw [if_neg (Nat.not_le.mpr hC.2.1)] at h
  cases h
  have r1 : cells + 1 ≤ R.cells := by have z : cells + (M.1 + 1 - M.1) ≤ R.cells := hroom.1; omega
  have r2 : slots + b ≤ R.slots := by have z : slots + (M.2.1 + b - M.2.1) ≤ R.slots := hroom.2; omega
  obtain ⟨q1, q2, q3, ty0, q4, q5, q6⟩ := hC
  exact sm_Wnew hx hb hA hts q3 ty0 q4 q5 hown hl.1 hl.2.1 hl.2.2 (hK.1 a _ q1) q1 q2 hH r1 r2 hdec (fun H1 k1 => kk H1 locs ls _ _ k1 hL hls (by show cells + 1 = cells + (M.1 + 1 - M.1); omega) (by show slots + b = slots + (M.2.1 + b - M.2.1); omega))
theorem sm_o_getfieldX {i : Nat} {C : String} {T : u_T} {N : Nat} (hx : p.tables.exec = Jvm.exec) (hb : c.code = cc) (hA : sm_Ad w) (hK : sm_Kn w sx xs s) (hown : s.vm.findClass own = some m.cls) (h : sm_ex hs (sm_E w) M pc lo st (.getfield i) n a b d = some (P, .inl (M2, pc2, lo2, st2))) (hP : P) (hdec : decode cc pc = .ok (.getfield i, 3)) (hts : ∀ x ∈ Ts, x.before args s = true) (ha : a = 54) (hf : (sm_cs w)[13]? = some (C, T, N) ∧ (∀ x ∈ u_ws C T N, x ∈ Ts) ∧ b < N ∧ ((b = 0 ∧ d = 2) ∨ (b = 1 ∧ d = 0))) (hl : (Cond.fieldLink own i (T b).1 (T b).2.1 (T b).2.2.1).before args s = true) (hH : sm_H w M H) (hL : sm_lo w locs) (hls : sm_L (sm_ad w) ls nL lo) (kk : sm_KK p l e R s m args below meth c w nL cells slots Q M M2 pc2 lo2 st2) : W p l e R s m args below meth c H locs cells slots Q (F0 m pc ls (st.map (sm_t (sm_ad w)))) := by
  subst ha
  change (match st with | .ref q :: r => sm_by (q < M.1 ∧ sm_kd M q = 16 + 54) M (pc + 3) lo (sm_gv M q b d :: r) | _ => none) = some _ at h
  split at h
  · rename_i q r
    cases h
    exact sm_WgetX hx hb hts hf.2.1 hown (hK.1 13 _ hf.1) hH hP.1 hP.2 hf.2.2.1 hf.2.2.2 hl hdec (kk.pure hH hL hls)
  · cases h
theorem sm_o_getfield {i : Nat} {C : String} {T : u_T} {N : Nat} (hx : p.tables.exec = Jvm.exec) (hb : c.code = cc) (hA : sm_Ad w) (hK : sm_Kn w sx xs s) (hown : s.vm.findClass own = some m.cls) (h : sm_ex hs (sm_E w) M pc lo st (.getfield i) n a b d = some (P, .inl (M2, pc2, lo2, st2))) (hP : P) (hdec : decode cc pc = .ok (.getfield i, 3)) (hts : ∀ x ∈ Ts, x.before args s = true) (hf : (sm_cs w)[a]? = some (C, T, N) ∧ a < 32 ∧ (∀ x ∈ u_ws C T N, x ∈ Ts) ∧ b < N ∧ sm_ft w a b = d) (hl : (Cond.fieldLink own i (T b).1 (T b).2.1 (T b).2.2.1).before args s = true) (hH : sm_H w M H) (hL : sm_lo w locs) (hls : sm_L (sm_ad w) ls nL lo) (kk : sm_KK p l e R s m args below meth c w nL cells slots Q M M2 pc2 lo2 st2) : W p l e R s m args below meth c H locs cells slots Q (F0 m pc ls (st.map (sm_t (sm_ad w)))) := by
  change (match st with | .ref q :: r => sm_by (q < M.1 ∧ sm_kd M q = 16 + a) M (pc + 3) lo (sm_gv M q b d :: r) | _ => none) = some _ at h
  split at h
  · rename_i q r
    cases h
    have k1 := (kk.pure hH hL hls)
    rw [List.map_cons, sm_fvE hf.2.2.2.2] at k1
    exact sm_Wget hx hb hts hf.2.2.1 hown (hK.1 a _ hf.1) hf.1 hf.2.1 hH hP.1 hP.2 hf.2.2.2.1 (Or.inl hl) hdec k1
  · cases h
theorem sm_o_putfield {i : Nat} {C : String} {T : u_T} {N : Nat} (hx : p.tables.exec = Jvm.exec) (hb : c.code = cc) (hA : sm_Ad w) (hK : sm_Kn w sx xs s) (hown : s.vm.findClass own = some m.cls) (h : sm_ex hs (sm_E w) M pc lo st (.putfield i) n a b d = some (P, .inl (M2, pc2, lo2, st2))) (hP : P) (hdec : decode cc pc = .ok (.putfield i, 3)) (hts : ∀ x ∈ Ts, x.before args s = true) (hC : sm_Cl Ts w a C T N) (hbN : b < N) (hft : sm_ft w a b = d) (hl : (Cond.fieldLink own i (T b).1 (T b).2.1 (T b).2.2.1).before args s = true) (hfin : (T b).2.2.2 = false ∨ (meth.name = "<init>" ∧ (T b).1 = own)) (hH : sm_H w M H) (hL : sm_lo w locs) (hls : sm_L (sm_ad w) ls nL lo) (kk : sm_KK p l e R s m args below meth c w nL cells slots Q M M2 pc2 lo2 st2) : W p l e R s m args below meth c H locs cells slots Q (F0 m pc ls (st.map (sm_t (sm_ad w)))) := by
  change (match st with | .int x :: .ref q :: r => sm_by (sm_E w ≤ q ∧ q < M.1 ∧ sm_kd M q = 16 + a ∧ (d = 0 ∨ (d = 3 ∧ (x = 0 ∨ x = 1)))) (sm_wI M q b x) (pc + 3) lo r | .long x :: .ref q :: r => sm_by (sm_E w ≤ q ∧ q < M.1 ∧ sm_kd M q = 16 + a ∧ d = 1) (sm_wJ M q b x) (pc + 3) lo r | .ref x :: .ref q :: r => sm_by (sm_E w ≤ q ∧ q < M.1 ∧ sm_kd M q = 16 + a ∧ d = 2) (sm_wR M q b (some x)) (pc + 3) lo r | .null :: .ref q :: r => sm_by (sm_E w ≤ q ∧ q < M.1 ∧ sm_kd M q = 16 + a ∧ d = 2) (sm_wR M q b none) (pc + 3) lo r | _ => none) = some _ at h
  obtain ⟨q1, q2, q3, ty0, q4, q5, q6⟩ := hC
  have q7 := q5 b hbN
  rw [hft] at q7
  split at h
  · rename_i x q r
    cases h
    have ne1 : sm_ft w a b ≠ 1 := by rcases hP.2.2.2 with z | z <;> omega
    have ne2 : sm_ft w a b ≠ 2 := by rcases hP.2.2.2 with z | z <;> omega
    have hnf : narrow (ty0 b) (.int x) = .int x ∧ fits (ty0 b) (.int x) = true := by
      rcases hP.2.2.2 with z | ⟨z, z2⟩
      · subst z; generalize ty0 b = t at q7 ⊢; cases t <;> first | (cases q7; done) | exact ⟨rfl, rfl⟩
      · subst z; generalize ty0 b = t at q7 ⊢; cases t <;> first | (cases q7; done) | (rcases z2 with rfl | rfl <;> exact ⟨rfl, rfl⟩)
    exact sm_Wput (M2 := sm_wI M q b x) (v := .int x) hx hb hA hts q3 ty0 q4 q6 hown (hK.1 a _ q1) q1 q2 hH hL hP.1 hP.2.1 hP.2.2.1 hbN (Or.inl hl) hfin hnf.1 hnf.2 rfl rfl (fun r hr => ⟨rfl, va_up_ne _ _ hr, rfl, rfl⟩) (fun j _ => sm_fvI ne1 ne2 j) hdec (fun H1 locs1 k1 k2 => kk H1 locs1 ls cells slots k1 k2 hls (by show cells = cells + (M.1 - M.1); omega) (by show slots = slots + (M.2.1 - M.2.1); omega))
  · rename_i x q r
    cases h
    have z := hP.2.2.2
    subst z
    have hnf : narrow (ty0 b) (.long x) = .long x ∧ fits (ty0 b) (.long x) = true := by
      generalize ty0 b = t at q7 ⊢; cases t <;> first | (cases q7; done) | exact ⟨rfl, rfl⟩
    exact sm_Wput (M2 := sm_wJ M q b x) (v := .long x) hx hb hA hts q3 ty0 q4 q6 hown (hK.1 a _ q1) q1 q2 hH hL hP.1 hP.2.1 hP.2.2.1 hbN (Or.inl hl) hfin hnf.1 hnf.2 rfl rfl (fun r hr => ⟨rfl, rfl, va_up_ne _ _ hr, rfl⟩) (fun j _ => sm_fvJ hft j) hdec (fun H1 locs1 k1 k2 => kk H1 locs1 ls cells slots k1 k2 hls (by show cells = cells + (M.1 - M.1); omega) (by show slots = slots + (M.2.1 - M.2.1); omega))
  · rename_i x q r
    cases h
    have z := hP.2.2.2
    subst z
    have hnf : narrow (ty0 b) (.ref (sm_ad w x)) = .ref (sm_ad w x) ∧ fits (ty0 b) (.ref (sm_ad w x)) = true := by
      generalize ty0 b = t at q7 ⊢; cases t <;> first | (cases q7; done) | exact ⟨rfl, rfl⟩
    exact sm_Wput (M2 := sm_wR M q b (some x)) (v := .ref (sm_ad w x)) hx hb hA hts q3 ty0 q4 q6 hown (hK.1 a _ q1) q1 q2 hH hL hP.1 hP.2.1 hP.2.2.1 hbN (Or.inl hl) hfin hnf.1 hnf.2 rfl rfl (fun r hr => ⟨rfl, rfl, rfl, va_up_ne _ _ hr⟩) (fun j _ => sm_fvR (x := some x) hft j) hdec (fun H1 locs1 k1 k2 => kk H1 locs1 ls cells slots k1 k2 hls (by show cells = cells + (M.1 - M.1); omega) (by show slots = slots + (M.2.1 - M.2.1); omega))
  · rename_i q r
    cases h
    have z := hP.2.2.2
    subst z
    have hnf : narrow (ty0 b) .null = .null ∧ fits (ty0 b) .null = true := by
      generalize ty0 b = t at q7 ⊢; cases t <;> first | (cases q7; done) | exact ⟨rfl, rfl⟩
    exact sm_Wput (M2 := sm_wR M q b none) (v := .null) hx hb hA hts q3 ty0 q4 q6 hown (hK.1 a _ q1) q1 q2 hH hL hP.1 hP.2.1 hP.2.2.1 hbN (Or.inl hl) hfin hnf.1 hnf.2 rfl rfl (fun r hr => ⟨rfl, rfl, rfl, va_up_ne _ _ hr⟩) (fun j _ => sm_fvR (x := none) hft j) hdec (fun H1 locs1 k1 k2 => kk H1 locs1 ls cells slots k1 k2 hls (by show cells = cells + (M.1 - M.1); omega) (by show slots = slots + (M.2.1 - M.2.1); omega))
  · cases h
end SM2
