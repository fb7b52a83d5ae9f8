/-! ONE INSTRUCTION of the small machine is one of the machine. -/
def sm_KK (p : Program) (l : Launch) (e : Env) (R : Room) (s : State) (m : MethodId) (args : Array Value) (below : List Frame) (meth : Method) (c : Code) (w : sm_W) (nL cells slots : Nat) (Q : State → Prop) (M M2 : sm_M) (pc2 : Nat) (lo2 : List (Option Value)) (st2 : List Value) : Prop :=
  ∀ (H1 : Heap) (locs1 : List Loc) (ls1 : Array Slot) (cells1 slots1 : Nat), sm_H w M2 H1 → sm_lo w locs1 → sm_L (sm_ad w) ls1 nL lo2 → cells1 = cells + (M2.1 - M.1) → slots1 = slots + (M2.2.1 - M.2.1) → W p l e R s m args below meth c H1 locs1 cells1 slots1 Q (F0 m pc2 ls1 (st2.map (sm_t (sm_ad w))))
theorem sm_ldE {k : List (Option Value)} {i : Nat} {v : Value} (hv : sm_ld k i = some v) : k[i]? = some (some v) := by
  unfold sm_ld at hv
  rw [List.getD_eq_getElem?_getD] at hv
  cases hk : k[i]? with
  | none => rw [hk] at hv; cases hv
  | some o => rw [hk] at hv; exact congrArg some hv
section SM1
variable {p : Program} {l : Launch} {e : Env} {R : Room} {s : State} {m : MethodId} {args : Array Value} {below : List Frame} {meth : Method} {c : Code} {H : Heap} {locs : List Loc} {cells slots : Nat} {Q : State → Prop}
variable {cc : ByteArray} {pc : Nat} {ls : Array Slot} {w : sm_W} {M : sm_M} {nL : Nat} {lo : List (Option Value)} {st : List Value} {hs : List sm_X} {E n a b d : Nat} {P : Prop} {M2 : sm_M} {pc2 : Nat} {lo2 : List (Option Value)} {st2 : List Value}
theorem sm_KK.pure {pc2 : Nat} {lo2 : List (Option Value)} {st2 : List Value} (k : sm_KK p l e R s m args below meth c w nL cells slots Q M M pc2 lo2 st2) (hH : sm_H w M H) (hL : sm_lo w locs) {ls : Array Slot} (hls : sm_L (sm_ad w) ls nL lo2) : W p l e R s m args below meth c H locs cells slots Q (F0 m pc2 ls (st2.map (sm_t (sm_ad w)))) := k H locs ls cells slots hH hL hls (by omega) (by omega)
theorem sm_o_aconst_null (hx : p.tables.exec = Jvm.exec) (hb : c.code = cc) (h : sm_ex hs E M pc lo st (.aconst_null) n a b d = some (P, .inl (M2, pc2, lo2, st2))) (hP : P) (hdec : decode cc pc = .ok (.aconst_null, 1)) (hH : sm_H w M H) (hL : sm_lo w locs) (hls : sm_L (sm_ad w) ls nL lo) (kk : sm_KK p l e R s m args below meth c w nL cells slots Q M M2 pc2 lo2 st2) : W p l e R s m args below meth c H locs cells slots Q (F0 m pc ls (st.map (sm_t (sm_ad w)))) := by
  change sm_go M (pc + 1) lo (.null :: st) = some _ at h
  cases h
  exact lv_null hx hb hdec (kk.pure hH hL hls)
theorem sm_o_iconst {i : Int} (hx : p.tables.exec = Jvm.exec) (hb : c.code = cc) (h : sm_ex hs E M pc lo st (.iconst i) n a b d = some (P, .inl (M2, pc2, lo2, st2))) (hP : P) (hdec : decode cc pc = .ok (.iconst i, 1)) (hH : sm_H w M H) (hL : sm_lo w locs) (hls : sm_L (sm_ad w) ls nL lo) (kk : sm_KK p l e R s m args below meth c w nL cells slots Q M M2 pc2 lo2 st2) : W p l e R s m args below meth c H locs cells slots Q (F0 m pc ls (st.map (sm_t (sm_ad w)))) := by
  change sm_go M (pc + 1) lo (.int (Int32.ofInt i) :: st) = some _ at h
  cases h
  exact lv_iconst hx hb hdec rfl (kk.pure hH hL hls)
theorem sm_o_bipush {i : Int} (hx : p.tables.exec = Jvm.exec) (hb : c.code = cc) (h : sm_ex hs E M pc lo st (.bipush i) n a b d = some (P, .inl (M2, pc2, lo2, st2))) (hP : P) (hdec : decode cc pc = .ok (.bipush i, 2)) (hH : sm_H w M H) (hL : sm_lo w locs) (hls : sm_L (sm_ad w) ls nL lo) (kk : sm_KK p l e R s m args below meth c w nL cells slots Q M M2 pc2 lo2 st2) : W p l e R s m args below meth c H locs cells slots Q (F0 m pc ls (st.map (sm_t (sm_ad w)))) := by
  change sm_go M (pc + 2) lo (.int (Int8.ofInt i).toInt32 :: st) = some _ at h
  cases h
  exact lv_bipush hx hb hdec rfl (kk.pure hH hL hls)
theorem sm_o_sipush {i : Int} (hx : p.tables.exec = Jvm.exec) (hb : c.code = cc) (h : sm_ex hs E M pc lo st (.sipush i) n a b d = some (P, .inl (M2, pc2, lo2, st2))) (hP : P) (hdec : decode cc pc = .ok (.sipush i, 3)) (hH : sm_H w M H) (hL : sm_lo w locs) (hls : sm_L (sm_ad w) ls nL lo) (kk : sm_KK p l e R s m args below meth c w nL cells slots Q M M2 pc2 lo2 st2) : W p l e R s m args below meth c H locs cells slots Q (F0 m pc ls (st.map (sm_t (sm_ad w)))) := by
  change sm_go M (pc + 3) lo (.int (Int16.ofInt i).toInt32 :: st) = some _ at h
  cases h
  exact lv_sipush hx hb hdec rfl (kk.pure hH hL hls)
theorem sm_o_lconst {i : Fin 2} (hx : p.tables.exec = Jvm.exec) (hb : c.code = cc) (h : sm_ex hs E M pc lo st (.lconst i) n a b d = some (P, .inl (M2, pc2, lo2, st2))) (hP : P) (hdec : decode cc pc = .ok (.lconst i, 1)) (hH : sm_H w M H) (hL : sm_lo w locs) (hls : sm_L (sm_ad w) ls nL lo) (kk : sm_KK p l e R s m args below meth c w nL cells slots Q M M2 pc2 lo2 st2) : W p l e R s m args below meth c H locs cells slots Q (F0 m pc ls (st.map (sm_t (sm_ad w)))) := by
  change sm_go M (pc + 1) lo (.long (Int64.ofNat (i : Nat)) :: st) = some _ at h
  cases h
  exact lv_lconst hx hb hdec rfl (kk.pure hH hL hls)
theorem sm_o_iload {i : Nat} (hx : p.tables.exec = Jvm.exec) (hb : c.code = cc) (h : sm_ex hs E M pc lo st (.iload i) n a b d = some (P, .inl (M2, pc2, lo2, st2))) (hP : P) (hdec : decode cc pc = .ok (.iload i, 2)) (hH : sm_H w M H) (hL : sm_lo w locs) (hls : sm_L (sm_ad w) ls nL lo) (kk : sm_KK p l e R s m args below meth c w nL cells slots Q M M2 pc2 lo2 st2) : W p l e R s m args below meth c H locs cells slots Q (F0 m pc ls (st.map (sm_t (sm_ad w)))) := by
  change sm_lI M pc lo st i 2 = some _ at h
  unfold sm_lI at h
  split at h
  · rename_i x h1
    cases h
    exact lv_iload hx hb hdec (hls.at h1) (kk.pure hH hL hls)
  · cases h
theorem sm_o_iload_n {i : Fin 4} (hx : p.tables.exec = Jvm.exec) (hb : c.code = cc) (h : sm_ex hs E M pc lo st (.iload_n i) n a b d = some (P, .inl (M2, pc2, lo2, st2))) (hP : P) (hdec : decode cc pc = .ok (.iload_n i, 1)) (hH : sm_H w M H) (hL : sm_lo w locs) (hls : sm_L (sm_ad w) ls nL lo) (kk : sm_KK p l e R s m args below meth c w nL cells slots Q M M2 pc2 lo2 st2) : W p l e R s m args below meth c H locs cells slots Q (F0 m pc ls (st.map (sm_t (sm_ad w)))) := by
  change sm_lI M pc lo st (i : Nat) 1 = some _ at h
  unfold sm_lI at h
  split at h
  · rename_i x h1
    cases h
    exact lv_iload_n hx hb hdec rfl (hls.at h1) (kk.pure hH hL hls)
  · cases h
theorem sm_o_lload {i : Nat} (hx : p.tables.exec = Jvm.exec) (hb : c.code = cc) (h : sm_ex hs E M pc lo st (.lload i) n a b d = some (P, .inl (M2, pc2, lo2, st2))) (hP : P) (hdec : decode cc pc = .ok (.lload i, 2)) (hH : sm_H w M H) (hL : sm_lo w locs) (hls : sm_L (sm_ad w) ls nL lo) (kk : sm_KK p l e R s m args below meth c w nL cells slots Q M M2 pc2 lo2 st2) : W p l e R s m args below meth c H locs cells slots Q (F0 m pc ls (st.map (sm_t (sm_ad w)))) := by
  change sm_lJ M pc lo st i 2 = some _ at h
  unfold sm_lJ at h
  split at h
  · rename_i x h1
    cases h
    exact lv_lload hx hb hdec (hls.at h1) (kk.pure hH hL hls)
  · cases h
theorem sm_o_lload_n {i : Fin 4} (hx : p.tables.exec = Jvm.exec) (hb : c.code = cc) (h : sm_ex hs E M pc lo st (.lload_n i) n a b d = some (P, .inl (M2, pc2, lo2, st2))) (hP : P) (hdec : decode cc pc = .ok (.lload_n i, 1)) (hH : sm_H w M H) (hL : sm_lo w locs) (hls : sm_L (sm_ad w) ls nL lo) (kk : sm_KK p l e R s m args below meth c w nL cells slots Q M M2 pc2 lo2 st2) : W p l e R s m args below meth c H locs cells slots Q (F0 m pc ls (st.map (sm_t (sm_ad w)))) := by
  change sm_lJ M pc lo st (i : Nat) 1 = some _ at h
  unfold sm_lJ at h
  split at h
  · rename_i x h1
    cases h
    exact lv_lload_n hx hb hdec rfl (hls.at h1) (kk.pure hH hL hls)
  · cases h
theorem sm_o_aload {i : Nat} (hx : p.tables.exec = Jvm.exec) (hb : c.code = cc) (h : sm_ex hs E M pc lo st (.aload i) n a b d = some (P, .inl (M2, pc2, lo2, st2))) (hP : P) (hdec : decode cc pc = .ok (.aload i, 2)) (hH : sm_H w M H) (hL : sm_lo w locs) (hls : sm_L (sm_ad w) ls nL lo) (kk : sm_KK p l e R s m args below meth c w nL cells slots Q M M2 pc2 lo2 st2) : W p l e R s m args below meth c H locs cells slots Q (F0 m pc ls (st.map (sm_t (sm_ad w)))) := by
  change sm_lA M pc lo st i 2 = some _ at h
  unfold sm_lA at h
  split at h
  · rename_i x h1
    cases h
    exact lv_aload hx hb hdec (hls.at h1) (kk.pure hH hL hls)
  · rename_i h1
    cases h
    exact lv_aloadN hx hb hdec (hls.at h1) (kk.pure hH hL hls)
  · cases h
theorem sm_o_aload_n {i : Fin 4} (hx : p.tables.exec = Jvm.exec) (hb : c.code = cc) (h : sm_ex hs E M pc lo st (.aload_n i) n a b d = some (P, .inl (M2, pc2, lo2, st2))) (hP : P) (hdec : decode cc pc = .ok (.aload_n i, 1)) (hH : sm_H w M H) (hL : sm_lo w locs) (hls : sm_L (sm_ad w) ls nL lo) (kk : sm_KK p l e R s m args below meth c w nL cells slots Q M M2 pc2 lo2 st2) : W p l e R s m args below meth c H locs cells slots Q (F0 m pc ls (st.map (sm_t (sm_ad w)))) := by
  change sm_lA M pc lo st (i : Nat) 1 = some _ at h
  unfold sm_lA at h
  split at h
  · rename_i x h1
    cases h
    exact lv_aload_n hx hb hdec rfl (hls.at h1) (kk.pure hH hL hls)
  · rename_i h1
    cases h
    exact lv_aload_nN hx hb hdec rfl (hls.at h1) (kk.pure hH hL hls)
  · cases h
theorem sm_o_istore {i : Nat} (hx : p.tables.exec = Jvm.exec) (hb : c.code = cc) (h : sm_ex hs E M pc lo st (.istore i) n a b d = some (P, .inl (M2, pc2, lo2, st2))) (hP : P) (hdec : decode cc pc = .ok (.istore i, 2)) (hH : sm_H w M H) (hL : sm_lo w locs) (hls : sm_L (sm_ad w) ls nL lo) (kk : sm_KK p l e R s m args below meth c w nL cells slots Q M M2 pc2 lo2 st2) : W p l e R s m args below meth c H locs cells slots Q (F0 m pc ls (st.map (sm_t (sm_ad w)))) := by
  change sm_tI M pc lo st i 2 = some _ at h
  unfold sm_tI at h
  split at h
  · rename_i x r
    cases h
    exact lv_istore hx hb hdec hls.has (by rw [← hls.2.2.1]; exact hP) rfl (fun ls1 h1 => kk.pure hH hL (hls.st1 hP h1))
  · cases h
theorem sm_o_istore_n {i : Fin 4} (hx : p.tables.exec = Jvm.exec) (hb : c.code = cc) (h : sm_ex hs E M pc lo st (.istore_n i) n a b d = some (P, .inl (M2, pc2, lo2, st2))) (hP : P) (hdec : decode cc pc = .ok (.istore_n i, 1)) (hH : sm_H w M H) (hL : sm_lo w locs) (hls : sm_L (sm_ad w) ls nL lo) (kk : sm_KK p l e R s m args below meth c w nL cells slots Q M M2 pc2 lo2 st2) : W p l e R s m args below meth c H locs cells slots Q (F0 m pc ls (st.map (sm_t (sm_ad w)))) := by
  change sm_tI M pc lo st (i : Nat) 1 = some _ at h
  unfold sm_tI at h
  split at h
  · rename_i x r
    cases h
    exact lv_istore_n hx hb hdec rfl hls.has (by rw [← hls.2.2.1]; exact hP) rfl (fun ls1 h1 => kk.pure hH hL (hls.st1 hP h1))
  · cases h
theorem sm_o_lstore {i : Nat} (hx : p.tables.exec = Jvm.exec) (hb : c.code = cc) (h : sm_ex hs E M pc lo st (.lstore i) n a b d = some (P, .inl (M2, pc2, lo2, st2))) (hP : P) (hdec : decode cc pc = .ok (.lstore i, 2)) (hH : sm_H w M H) (hL : sm_lo w locs) (hls : sm_L (sm_ad w) ls nL lo) (kk : sm_KK p l e R s m args below meth c w nL cells slots Q M M2 pc2 lo2 st2) : W p l e R s m args below meth c H locs cells slots Q (F0 m pc ls (st.map (sm_t (sm_ad w)))) := by
  change sm_tJ M pc lo st i 2 = some _ at h
  unfold sm_tJ at h
  split at h
  · rename_i x r
    cases h
    exact lv_lstore hx hb hdec hls.has (by rw [← hls.2.2.1]; exact hP) rfl (fun ls1 h1 => kk.pure hH hL (hls.st2 hP h1))
  · cases h
theorem sm_o_lstore_n {i : Fin 4} (hx : p.tables.exec = Jvm.exec) (hb : c.code = cc) (h : sm_ex hs E M pc lo st (.lstore_n i) n a b d = some (P, .inl (M2, pc2, lo2, st2))) (hP : P) (hdec : decode cc pc = .ok (.lstore_n i, 1)) (hH : sm_H w M H) (hL : sm_lo w locs) (hls : sm_L (sm_ad w) ls nL lo) (kk : sm_KK p l e R s m args below meth c w nL cells slots Q M M2 pc2 lo2 st2) : W p l e R s m args below meth c H locs cells slots Q (F0 m pc ls (st.map (sm_t (sm_ad w)))) := by
  change sm_tJ M pc lo st (i : Nat) 1 = some _ at h
  unfold sm_tJ at h
  split at h
  · rename_i x r
    cases h
    exact lv_lstore_n hx hb hdec rfl hls.has (by rw [← hls.2.2.1]; exact hP) rfl (fun ls1 h1 => kk.pure hH hL (hls.st2 hP h1))
  · cases h
theorem sm_o_astore {i : Nat} (hx : p.tables.exec = Jvm.exec) (hb : c.code = cc) (h : sm_ex hs E M pc lo st (.astore i) n a b d = some (P, .inl (M2, pc2, lo2, st2))) (hP : P) (hdec : decode cc pc = .ok (.astore i, 2)) (hH : sm_H w M H) (hL : sm_lo w locs) (hls : sm_L (sm_ad w) ls nL lo) (kk : sm_KK p l e R s m args below meth c w nL cells slots Q M M2 pc2 lo2 st2) : W p l e R s m args below meth c H locs cells slots Q (F0 m pc ls (st.map (sm_t (sm_ad w)))) := by
  change sm_tA M pc lo st i 2 = some _ at h
  unfold sm_tA at h
  split at h
  · rename_i x r
    cases h
    exact lv_astore hx hb hdec hls.has (by rw [← hls.2.2.1]; exact hP) rfl (fun ls1 h1 => kk.pure hH hL (hls.st1 (v := .ref x) hP h1))
  · rename_i r
    cases h
    exact lv_astoreN hx hb hdec hls.has (by rw [← hls.2.2.1]; exact hP) rfl (fun ls1 h1 => kk.pure hH hL (hls.st1 (v := .null) hP h1))
  · cases h
theorem sm_o_astore_n {i : Fin 4} (hx : p.tables.exec = Jvm.exec) (hb : c.code = cc) (h : sm_ex hs E M pc lo st (.astore_n i) n a b d = some (P, .inl (M2, pc2, lo2, st2))) (hP : P) (hdec : decode cc pc = .ok (.astore_n i, 1)) (hH : sm_H w M H) (hL : sm_lo w locs) (hls : sm_L (sm_ad w) ls nL lo) (kk : sm_KK p l e R s m args below meth c w nL cells slots Q M M2 pc2 lo2 st2) : W p l e R s m args below meth c H locs cells slots Q (F0 m pc ls (st.map (sm_t (sm_ad w)))) := by
  change sm_tA M pc lo st (i : Nat) 1 = some _ at h
  unfold sm_tA at h
  split at h
  · rename_i x r
    cases h
    exact lv_astore_n hx hb hdec rfl hls.has (by rw [← hls.2.2.1]; exact hP) rfl (fun ls1 h1 => kk.pure hH hL (hls.st1 (v := .ref x) hP h1))
  · rename_i r
    cases h
    exact lv_astore_nN hx hb hdec rfl hls.has (by rw [← hls.2.2.1]; exact hP) rfl (fun ls1 h1 => kk.pure hH hL (hls.st1 (v := .null) hP h1))
  · cases h
theorem sm_o_iinc {i : Nat} {k : Int} (hx : p.tables.exec = Jvm.exec) (hb : c.code = cc) (h : sm_ex hs E M pc lo st (.iinc i k) n a b d = some (P, .inl (M2, pc2, lo2, st2))) (hP : P) (hdec : decode cc pc = .ok (.iinc i k, 3)) (hn : 3 = n) (hH : sm_H w M H) (hL : sm_lo w locs) (hls : sm_L (sm_ad w) ls nL lo) (kk : sm_KK p l e R s m args below meth c w nL cells slots Q M M2 pc2 lo2 st2) : W p l e R s m args below meth c H locs cells slots Q (F0 m pc ls (st.map (sm_t (sm_ad w)))) := by
  change (match sm_ld lo i with | some (.int x) => sm_by (i < lo.length) M (pc + n) (sm_s1 lo i (.int (x + Int32.ofInt k))) st | _ => none) = some _ at h
  subst hn
  split at h
  · rename_i x h1
    cases h
    have hm : ((i, Value.int x) : Nat × Value) ∈ sm_pr (sm_ad w) lo := sm_pr_mem.mpr ⟨.int x, sm_ldE h1, rfl⟩
    obtain ⟨j, hj⟩ := List.getElem?_of_mem hm
    exact lv_iinc hx hb hdec hls.has hj rfl (by rw [← hls.2.2.1]; exact hP) rfl (fun ls1 h1 => kk.pure hH hL (hls.st1 (v := .int (x + Int32.ofInt k)) hP h1))
  · cases h
theorem sm_o_iincW {i : Nat} {k : Int} (hx : p.tables.exec = Jvm.exec) (hb : c.code = cc) (h : sm_ex hs E M pc lo st (.iinc i k) n a b d = some (P, .inl (M2, pc2, lo2, st2))) (hP : P) (hdec : decode cc pc = .ok (.iinc i k, 6)) (hn : 6 = n) (hH : sm_H w M H) (hL : sm_lo w locs) (hls : sm_L (sm_ad w) ls nL lo) (kk : sm_KK p l e R s m args below meth c w nL cells slots Q M M2 pc2 lo2 st2) : W p l e R s m args below meth c H locs cells slots Q (F0 m pc ls (st.map (sm_t (sm_ad w)))) := by
  change (match sm_ld lo i with | some (.int x) => sm_by (i < lo.length) M (pc + n) (sm_s1 lo i (.int (x + Int32.ofInt k))) st | _ => none) = some _ at h
  subst hn
  split at h
  · rename_i x h1
    cases h
    have hm : ((i, Value.int x) : Nat × Value) ∈ sm_pr (sm_ad w) lo := sm_pr_mem.mpr ⟨.int x, sm_ldE h1, rfl⟩
    obtain ⟨j, hj⟩ := List.getElem?_of_mem hm
    exact lv_iincW hx hb hdec hls.has hj rfl (by rw [← hls.2.2.1]; exact hP) rfl (fun ls1 h1 => kk.pure hH hL (hls.st1 (v := .int (x + Int32.ofInt k)) hP h1))
  · cases h
theorem sm_o_iadd (hx : p.tables.exec = Jvm.exec) (hb : c.code = cc) (h : sm_ex hs E M pc lo st (.iadd) n a b d = some (P, .inl (M2, pc2, lo2, st2))) (hP : P) (hdec : decode cc pc = .ok (.iadd, 1)) (hH : sm_H w M H) (hL : sm_lo w locs) (hls : sm_L (sm_ad w) ls nL lo) (kk : sm_KK p l e R s m args below meth c w nL cells slots Q M M2 pc2 lo2 st2) : W p l e R s m args below meth c H locs cells slots Q (F0 m pc ls (st.map (sm_t (sm_ad w)))) := by
  change sm_2I M pc lo st (fun x y => x + y) = some _ at h
  unfold sm_2I at h
  split at h
  · cases h
    exact lv_iadd hx hb hdec (kk.pure hH hL hls)
  · cases h
theorem sm_o_isub (hx : p.tables.exec = Jvm.exec) (hb : c.code = cc) (h : sm_ex hs E M pc lo st (.isub) n a b d = some (P, .inl (M2, pc2, lo2, st2))) (hP : P) (hdec : decode cc pc = .ok (.isub, 1)) (hH : sm_H w M H) (hL : sm_lo w locs) (hls : sm_L (sm_ad w) ls nL lo) (kk : sm_KK p l e R s m args below meth c w nL cells slots Q M M2 pc2 lo2 st2) : W p l e R s m args below meth c H locs cells slots Q (F0 m pc ls (st.map (sm_t (sm_ad w)))) := by
  change sm_2I M pc lo st (fun x y => x - y) = some _ at h
  unfold sm_2I at h
  split at h
  · cases h
    exact lv_isub hx hb hdec (kk.pure hH hL hls)
  · cases h
theorem sm_o_imul (hx : p.tables.exec = Jvm.exec) (hb : c.code = cc) (h : sm_ex hs E M pc lo st (.imul) n a b d = some (P, .inl (M2, pc2, lo2, st2))) (hP : P) (hdec : decode cc pc = .ok (.imul, 1)) (hH : sm_H w M H) (hL : sm_lo w locs) (hls : sm_L (sm_ad w) ls nL lo) (kk : sm_KK p l e R s m args below meth c w nL cells slots Q M M2 pc2 lo2 st2) : W p l e R s m args below meth c H locs cells slots Q (F0 m pc ls (st.map (sm_t (sm_ad w)))) := by
  change sm_2I M pc lo st (fun x y => x * y) = some _ at h
  unfold sm_2I at h
  split at h
  · cases h
    exact lv_imul hx hb hdec (kk.pure hH hL hls)
  · cases h
theorem sm_o_iand (hx : p.tables.exec = Jvm.exec) (hb : c.code = cc) (h : sm_ex hs E M pc lo st (.iand) n a b d = some (P, .inl (M2, pc2, lo2, st2))) (hP : P) (hdec : decode cc pc = .ok (.iand, 1)) (hH : sm_H w M H) (hL : sm_lo w locs) (hls : sm_L (sm_ad w) ls nL lo) (kk : sm_KK p l e R s m args below meth c w nL cells slots Q M M2 pc2 lo2 st2) : W p l e R s m args below meth c H locs cells slots Q (F0 m pc ls (st.map (sm_t (sm_ad w)))) := by
  change sm_2I M pc lo st (fun x y => x &&& y) = some _ at h
  unfold sm_2I at h
  split at h
  · cases h
    exact lv_iand hx hb hdec (kk.pure hH hL hls)
  · cases h
theorem sm_o_ior (hx : p.tables.exec = Jvm.exec) (hb : c.code = cc) (h : sm_ex hs E M pc lo st (.ior) n a b d = some (P, .inl (M2, pc2, lo2, st2))) (hP : P) (hdec : decode cc pc = .ok (.ior, 1)) (hH : sm_H w M H) (hL : sm_lo w locs) (hls : sm_L (sm_ad w) ls nL lo) (kk : sm_KK p l e R s m args below meth c w nL cells slots Q M M2 pc2 lo2 st2) : W p l e R s m args below meth c H locs cells slots Q (F0 m pc ls (st.map (sm_t (sm_ad w)))) := by
  change sm_2I M pc lo st (fun x y => x ||| y) = some _ at h
  unfold sm_2I at h
  split at h
  · cases h
    exact lv_ior hx hb hdec (kk.pure hH hL hls)
  · cases h
theorem sm_o_ixor (hx : p.tables.exec = Jvm.exec) (hb : c.code = cc) (h : sm_ex hs E M pc lo st (.ixor) n a b d = some (P, .inl (M2, pc2, lo2, st2))) (hP : P) (hdec : decode cc pc = .ok (.ixor, 1)) (hH : sm_H w M H) (hL : sm_lo w locs) (hls : sm_L (sm_ad w) ls nL lo) (kk : sm_KK p l e R s m args below meth c w nL cells slots Q M M2 pc2 lo2 st2) : W p l e R s m args below meth c H locs cells slots Q (F0 m pc ls (st.map (sm_t (sm_ad w)))) := by
  change sm_2I M pc lo st (fun x y => x ^^^ y) = some _ at h
  unfold sm_2I at h
  split at h
  · cases h
    exact lv_ixor hx hb hdec (kk.pure hH hL hls)
  · cases h
theorem sm_o_ishl (hx : p.tables.exec = Jvm.exec) (hb : c.code = cc) (h : sm_ex hs E M pc lo st (.ishl) n a b d = some (P, .inl (M2, pc2, lo2, st2))) (hP : P) (hdec : decode cc pc = .ok (.ishl, 1)) (hH : sm_H w M H) (hL : sm_lo w locs) (hls : sm_L (sm_ad w) ls nL lo) (kk : sm_KK p l e R s m args below meth c w nL cells slots Q M M2 pc2 lo2 st2) : W p l e R s m args below meth c H locs cells slots Q (F0 m pc ls (st.map (sm_t (sm_ad w)))) := by
  change sm_2I M pc lo st (fun x y => x <<< (y &&& 31)) = some _ at h
  unfold sm_2I at h
  split at h
  · cases h
    exact lv_ishl hx hb hdec (kk.pure hH hL hls)
  · cases h
theorem sm_o_ishr (hx : p.tables.exec = Jvm.exec) (hb : c.code = cc) (h : sm_ex hs E M pc lo st (.ishr) n a b d = some (P, .inl (M2, pc2, lo2, st2))) (hP : P) (hdec : decode cc pc = .ok (.ishr, 1)) (hH : sm_H w M H) (hL : sm_lo w locs) (hls : sm_L (sm_ad w) ls nL lo) (kk : sm_KK p l e R s m args below meth c w nL cells slots Q M M2 pc2 lo2 st2) : W p l e R s m args below meth c H locs cells slots Q (F0 m pc ls (st.map (sm_t (sm_ad w)))) := by
  change sm_2I M pc lo st (fun x y => x >>> (y &&& 31)) = some _ at h
  unfold sm_2I at h
  split at h
  · cases h
    exact lv_ishr hx hb hdec (kk.pure hH hL hls)
  · cases h
theorem sm_o_iushr (hx : p.tables.exec = Jvm.exec) (hb : c.code = cc) (h : sm_ex hs E M pc lo st (.iushr) n a b d = some (P, .inl (M2, pc2, lo2, st2))) (hP : P) (hdec : decode cc pc = .ok (.iushr, 1)) (hH : sm_H w M H) (hL : sm_lo w locs) (hls : sm_L (sm_ad w) ls nL lo) (kk : sm_KK p l e R s m args below meth c w nL cells slots Q M M2 pc2 lo2 st2) : W p l e R s m args below meth c H locs cells slots Q (F0 m pc ls (st.map (sm_t (sm_ad w)))) := by
  change sm_2I M pc lo st (fun x y => (x.toUInt32 >>> (y.toUInt32 &&& Int32.toUInt32 31)).toInt32) = some _ at h
  unfold sm_2I at h
  split at h
  · cases h
    exact lv_iushr hx hb hdec rfl (kk.pure hH hL hls)
  · cases h
theorem sm_o_ladd (hx : p.tables.exec = Jvm.exec) (hb : c.code = cc) (h : sm_ex hs E M pc lo st (.ladd) n a b d = some (P, .inl (M2, pc2, lo2, st2))) (hP : P) (hdec : decode cc pc = .ok (.ladd, 1)) (hH : sm_H w M H) (hL : sm_lo w locs) (hls : sm_L (sm_ad w) ls nL lo) (kk : sm_KK p l e R s m args below meth c w nL cells slots Q M M2 pc2 lo2 st2) : W p l e R s m args below meth c H locs cells slots Q (F0 m pc ls (st.map (sm_t (sm_ad w)))) := by
  change sm_2J M pc lo st (fun x y => x + y) = some _ at h
  unfold sm_2J at h
  split at h
  · cases h
    exact lv_ladd hx hb hdec (kk.pure hH hL hls)
  · cases h
theorem sm_o_lsub (hx : p.tables.exec = Jvm.exec) (hb : c.code = cc) (h : sm_ex hs E M pc lo st (.lsub) n a b d = some (P, .inl (M2, pc2, lo2, st2))) (hP : P) (hdec : decode cc pc = .ok (.lsub, 1)) (hH : sm_H w M H) (hL : sm_lo w locs) (hls : sm_L (sm_ad w) ls nL lo) (kk : sm_KK p l e R s m args below meth c w nL cells slots Q M M2 pc2 lo2 st2) : W p l e R s m args below meth c H locs cells slots Q (F0 m pc ls (st.map (sm_t (sm_ad w)))) := by
  change sm_2J M pc lo st (fun x y => x - y) = some _ at h
  unfold sm_2J at h
  split at h
  · cases h
    exact lv_lsub hx hb hdec (kk.pure hH hL hls)
  · cases h
theorem sm_o_lmul (hx : p.tables.exec = Jvm.exec) (hb : c.code = cc) (h : sm_ex hs E M pc lo st (.lmul) n a b d = some (P, .inl (M2, pc2, lo2, st2))) (hP : P) (hdec : decode cc pc = .ok (.lmul, 1)) (hH : sm_H w M H) (hL : sm_lo w locs) (hls : sm_L (sm_ad w) ls nL lo) (kk : sm_KK p l e R s m args below meth c w nL cells slots Q M M2 pc2 lo2 st2) : W p l e R s m args below meth c H locs cells slots Q (F0 m pc ls (st.map (sm_t (sm_ad w)))) := by
  change sm_2J M pc lo st (fun x y => x * y) = some _ at h
  unfold sm_2J at h
  split at h
  · cases h
    exact lv_lmul hx hb hdec (kk.pure hH hL hls)
  · cases h
theorem sm_o_land (hx : p.tables.exec = Jvm.exec) (hb : c.code = cc) (h : sm_ex hs E M pc lo st (.land) n a b d = some (P, .inl (M2, pc2, lo2, st2))) (hP : P) (hdec : decode cc pc = .ok (.land, 1)) (hH : sm_H w M H) (hL : sm_lo w locs) (hls : sm_L (sm_ad w) ls nL lo) (kk : sm_KK p l e R s m args below meth c w nL cells slots Q M M2 pc2 lo2 st2) : W p l e R s m args below meth c H locs cells slots Q (F0 m pc ls (st.map (sm_t (sm_ad w)))) := by
  change sm_2J M pc lo st (fun x y => x &&& y) = some _ at h
  unfold sm_2J at h
  split at h
  · cases h
    exact lv_land hx hb hdec (kk.pure hH hL hls)
  · cases h
theorem sm_o_lor (hx : p.tables.exec = Jvm.exec) (hb : c.code = cc) (h : sm_ex hs E M pc lo st (.lor) n a b d = some (P, .inl (M2, pc2, lo2, st2))) (hP : P) (hdec : decode cc pc = .ok (.lor, 1)) (hH : sm_H w M H) (hL : sm_lo w locs) (hls : sm_L (sm_ad w) ls nL lo) (kk : sm_KK p l e R s m args below meth c w nL cells slots Q M M2 pc2 lo2 st2) : W p l e R s m args below meth c H locs cells slots Q (F0 m pc ls (st.map (sm_t (sm_ad w)))) := by
  change sm_2J M pc lo st (fun x y => x ||| y) = some _ at h
  unfold sm_2J at h
  split at h
  · cases h
    exact lv_lor hx hb hdec (kk.pure hH hL hls)
  · cases h
theorem sm_o_lxor (hx : p.tables.exec = Jvm.exec) (hb : c.code = cc) (h : sm_ex hs E M pc lo st (.lxor) n a b d = some (P, .inl (M2, pc2, lo2, st2))) (hP : P) (hdec : decode cc pc = .ok (.lxor, 1)) (hH : sm_H w M H) (hL : sm_lo w locs) (hls : sm_L (sm_ad w) ls nL lo) (kk : sm_KK p l e R s m args below meth c w nL cells slots Q M M2 pc2 lo2 st2) : W p l e R s m args below meth c H locs cells slots Q (F0 m pc ls (st.map (sm_t (sm_ad w)))) := by
  change sm_2J M pc lo st (fun x y => x ^^^ y) = some _ at h
  unfold sm_2J at h
  split at h
  · cases h
    exact lv_lxor hx hb hdec (kk.pure hH hL hls)
  · cases h
theorem sm_o_lshl (hx : p.tables.exec = Jvm.exec) (hb : c.code = cc) (h : sm_ex hs E M pc lo st (.lshl) n a b d = some (P, .inl (M2, pc2, lo2, st2))) (hP : P) (hdec : decode cc pc = .ok (.lshl, 1)) (hH : sm_H w M H) (hL : sm_lo w locs) (hls : sm_L (sm_ad w) ls nL lo) (kk : sm_KK p l e R s m args below meth c w nL cells slots Q M M2 pc2 lo2 st2) : W p l e R s m args below meth c H locs cells slots Q (F0 m pc ls (st.map (sm_t (sm_ad w)))) := by
  change sm_sJ M pc lo st (fun x y => x <<< (y.toInt64 &&& 63)) = some _ at h
  unfold sm_sJ at h
  split at h
  · cases h
    exact lv_lshl hx hb hdec rfl (kk.pure hH hL hls)
  · cases h
theorem sm_o_lshr (hx : p.tables.exec = Jvm.exec) (hb : c.code = cc) (h : sm_ex hs E M pc lo st (.lshr) n a b d = some (P, .inl (M2, pc2, lo2, st2))) (hP : P) (hdec : decode cc pc = .ok (.lshr, 1)) (hH : sm_H w M H) (hL : sm_lo w locs) (hls : sm_L (sm_ad w) ls nL lo) (kk : sm_KK p l e R s m args below meth c w nL cells slots Q M M2 pc2 lo2 st2) : W p l e R s m args below meth c H locs cells slots Q (F0 m pc ls (st.map (sm_t (sm_ad w)))) := by
  change sm_sJ M pc lo st (fun x y => x >>> (y.toInt64 &&& 63)) = some _ at h
  unfold sm_sJ at h
  split at h
  · cases h
    exact lv_lshr hx hb hdec rfl (kk.pure hH hL hls)
  · cases h
theorem sm_o_lushr (hx : p.tables.exec = Jvm.exec) (hb : c.code = cc) (h : sm_ex hs E M pc lo st (.lushr) n a b d = some (P, .inl (M2, pc2, lo2, st2))) (hP : P) (hdec : decode cc pc = .ok (.lushr, 1)) (hH : sm_H w M H) (hL : sm_lo w locs) (hls : sm_L (sm_ad w) ls nL lo) (kk : sm_KK p l e R s m args below meth c w nL cells slots Q M M2 pc2 lo2 st2) : W p l e R s m args below meth c H locs cells slots Q (F0 m pc ls (st.map (sm_t (sm_ad w)))) := by
  change sm_sJ M pc lo st (fun x y => (x.toUInt64 >>> (y.toInt64.toUInt64 &&& Int64.toUInt64 63)).toInt64) = some _ at h
  unfold sm_sJ at h
  split at h
  · cases h
    exact lv_lushr hx hb hdec rfl (kk.pure hH hL hls)
  · cases h
theorem sm_o_ineg (hx : p.tables.exec = Jvm.exec) (hb : c.code = cc) (h : sm_ex hs E M pc lo st (.ineg) n a b d = some (P, .inl (M2, pc2, lo2, st2))) (hP : P) (hdec : decode cc pc = .ok (.ineg, 1)) (hH : sm_H w M H) (hL : sm_lo w locs) (hls : sm_L (sm_ad w) ls nL lo) (kk : sm_KK p l e R s m args below meth c w nL cells slots Q M M2 pc2 lo2 st2) : W p l e R s m args below meth c H locs cells slots Q (F0 m pc ls (st.map (sm_t (sm_ad w)))) := by
  change sm_1I M pc lo st (fun x => -x) = some _ at h
  unfold sm_1I at h
  split at h
  · cases h
    exact lv_ineg hx hb hdec (kk.pure hH hL hls)
  · cases h
theorem sm_o_i2b (hx : p.tables.exec = Jvm.exec) (hb : c.code = cc) (h : sm_ex hs E M pc lo st (.i2b) n a b d = some (P, .inl (M2, pc2, lo2, st2))) (hP : P) (hdec : decode cc pc = .ok (.i2b, 1)) (hH : sm_H w M H) (hL : sm_lo w locs) (hls : sm_L (sm_ad w) ls nL lo) (kk : sm_KK p l e R s m args below meth c w nL cells slots Q M M2 pc2 lo2 st2) : W p l e R s m args below meth c H locs cells slots Q (F0 m pc ls (st.map (sm_t (sm_ad w)))) := by
  change sm_1I M pc lo st (fun x => x.toInt8.toInt32) = some _ at h
  unfold sm_1I at h
  split at h
  · cases h
    exact lv_i2b hx hb hdec rfl (kk.pure hH hL hls)
  · cases h
theorem sm_o_i2c (hx : p.tables.exec = Jvm.exec) (hb : c.code = cc) (h : sm_ex hs E M pc lo st (.i2c) n a b d = some (P, .inl (M2, pc2, lo2, st2))) (hP : P) (hdec : decode cc pc = .ok (.i2c, 1)) (hH : sm_H w M H) (hL : sm_lo w locs) (hls : sm_L (sm_ad w) ls nL lo) (kk : sm_KK p l e R s m args below meth c w nL cells slots Q M M2 pc2 lo2 st2) : W p l e R s m args below meth c H locs cells slots Q (F0 m pc ls (st.map (sm_t (sm_ad w)))) := by
  change sm_1I M pc lo st (fun x => (x.toUInt32 % 65536).toInt32) = some _ at h
  unfold sm_1I at h
  split at h
  · cases h
    exact lv_i2c hx hb hdec rfl (kk.pure hH hL hls)
  · cases h
theorem sm_o_idiv (hx : p.tables.exec = Jvm.exec) (hb : c.code = cc) (h : sm_ex hs E M pc lo st (.idiv) n a b d = some (P, .inl (M2, pc2, lo2, st2))) (hP : P) (hdec : decode cc pc = .ok (.idiv, 1)) (hH : sm_H w M H) (hL : sm_lo w locs) (hls : sm_L (sm_ad w) ls nL lo) (kk : sm_KK p l e R s m args below meth c w nL cells slots Q M M2 pc2 lo2 st2) : W p l e R s m args below meth c H locs cells slots Q (F0 m pc ls (st.map (sm_t (sm_ad w)))) := by
  change (match st with | .int y :: .int x :: r => sm_by (¬ y = 0) M (pc + 1) lo (.int (x / y) :: r) | _ => none) = some _ at h
  split at h
  · cases h
    exact lv_idiv hx hb hdec hP (kk.pure hH hL hls)
  · cases h
theorem sm_o_irem (hx : p.tables.exec = Jvm.exec) (hb : c.code = cc) (h : sm_ex hs E M pc lo st (.irem) n a b d = some (P, .inl (M2, pc2, lo2, st2))) (hP : P) (hdec : decode cc pc = .ok (.irem, 1)) (hH : sm_H w M H) (hL : sm_lo w locs) (hls : sm_L (sm_ad w) ls nL lo) (kk : sm_KK p l e R s m args below meth c w nL cells slots Q M M2 pc2 lo2 st2) : W p l e R s m args below meth c H locs cells slots Q (F0 m pc ls (st.map (sm_t (sm_ad w)))) := by
  change (match st with | .int y :: .int x :: r => sm_by (¬ y = 0) M (pc + 1) lo (.int (x - x / y * y) :: r) | _ => none) = some _ at h
  split at h
  · cases h
    exact lv_irem hx hb hdec hP (kk.pure hH hL hls)
  · cases h
theorem sm_o_ldiv (hx : p.tables.exec = Jvm.exec) (hb : c.code = cc) (h : sm_ex hs E M pc lo st (.ldiv) n a b d = some (P, .inl (M2, pc2, lo2, st2))) (hP : P) (hdec : decode cc pc = .ok (.ldiv, 1)) (hH : sm_H w M H) (hL : sm_lo w locs) (hls : sm_L (sm_ad w) ls nL lo) (kk : sm_KK p l e R s m args below meth c w nL cells slots Q M M2 pc2 lo2 st2) : W p l e R s m args below meth c H locs cells slots Q (F0 m pc ls (st.map (sm_t (sm_ad w)))) := by
  change (match st with | .long y :: .long x :: r => sm_by (¬ y = 0) M (pc + 1) lo (.long (x / y) :: r) | _ => none) = some _ at h
  split at h
  · cases h
    exact lv_ldiv hx hb hdec hP (kk.pure hH hL hls)
  · cases h
theorem sm_o_lrem (hx : p.tables.exec = Jvm.exec) (hb : c.code = cc) (h : sm_ex hs E M pc lo st (.lrem) n a b d = some (P, .inl (M2, pc2, lo2, st2))) (hP : P) (hdec : decode cc pc = .ok (.lrem, 1)) (hH : sm_H w M H) (hL : sm_lo w locs) (hls : sm_L (sm_ad w) ls nL lo) (kk : sm_KK p l e R s m args below meth c w nL cells slots Q M M2 pc2 lo2 st2) : W p l e R s m args below meth c H locs cells slots Q (F0 m pc ls (st.map (sm_t (sm_ad w)))) := by
  change (match st with | .long y :: .long x :: r => sm_by (¬ y = 0) M (pc + 1) lo (.long (x - x / y * y) :: r) | _ => none) = some _ at h
  split at h
  · cases h
    exact lv_lrem hx hb hdec hP (kk.pure hH hL hls)
  · cases h
theorem sm_o_lneg (hx : p.tables.exec = Jvm.exec) (hb : c.code = cc) (h : sm_ex hs E M pc lo st (.lneg) n a b d = some (P, .inl (M2, pc2, lo2, st2))) (hP : P) (hdec : decode cc pc = .ok (.lneg, 1)) (hH : sm_H w M H) (hL : sm_lo w locs) (hls : sm_L (sm_ad w) ls nL lo) (kk : sm_KK p l e R s m args below meth c w nL cells slots Q M M2 pc2 lo2 st2) : W p l e R s m args below meth c H locs cells slots Q (F0 m pc ls (st.map (sm_t (sm_ad w)))) := by
  change (match st with | .long x :: r => sm_go M (pc + 1) lo (.long (-x) :: r) | _ => none) = some _ at h
  split at h
  · cases h
    exact lv_lneg hx hb hdec (kk.pure hH hL hls)
  · cases h
theorem sm_o_lcmp (hx : p.tables.exec = Jvm.exec) (hb : c.code = cc) (h : sm_ex hs E M pc lo st (.lcmp) n a b d = some (P, .inl (M2, pc2, lo2, st2))) (hP : P) (hdec : decode cc pc = .ok (.lcmp, 1)) (hH : sm_H w M H) (hL : sm_lo w locs) (hls : sm_L (sm_ad w) ls nL lo) (kk : sm_KK p l e R s m args below meth c w nL cells slots Q M M2 pc2 lo2 st2) : W p l e R s m args below meth c H locs cells slots Q (F0 m pc ls (st.map (sm_t (sm_ad w)))) := by
  change (match st with | .long y :: .long x :: r => sm_go M (pc + 1) lo (.int (lg_cmp x y) :: r) | _ => none) = some _ at h
  split at h
  · cases h
    exact W.lcmp hx hb hdec (kk.pure hH hL hls)
  · cases h
theorem sm_o_i2l (hx : p.tables.exec = Jvm.exec) (hb : c.code = cc) (h : sm_ex hs E M pc lo st (.i2l) n a b d = some (P, .inl (M2, pc2, lo2, st2))) (hP : P) (hdec : decode cc pc = .ok (.i2l, 1)) (hH : sm_H w M H) (hL : sm_lo w locs) (hls : sm_L (sm_ad w) ls nL lo) (kk : sm_KK p l e R s m args below meth c w nL cells slots Q M M2 pc2 lo2 st2) : W p l e R s m args below meth c H locs cells slots Q (F0 m pc ls (st.map (sm_t (sm_ad w)))) := by
  change (match st with | .int x :: r => sm_go M (pc + 1) lo (.long x.toInt64 :: r) | _ => none) = some _ at h
  split at h
  · cases h
    exact lv_i2l hx hb hdec rfl (kk.pure hH hL hls)
  · cases h
theorem sm_o_l2i (hx : p.tables.exec = Jvm.exec) (hb : c.code = cc) (h : sm_ex hs E M pc lo st (.l2i) n a b d = some (P, .inl (M2, pc2, lo2, st2))) (hP : P) (hdec : decode cc pc = .ok (.l2i, 1)) (hH : sm_H w M H) (hL : sm_lo w locs) (hls : sm_L (sm_ad w) ls nL lo) (kk : sm_KK p l e R s m args below meth c w nL cells slots Q M M2 pc2 lo2 st2) : W p l e R s m args below meth c H locs cells slots Q (F0 m pc ls (st.map (sm_t (sm_ad w)))) := by
  change (match st with | .long x :: r => sm_go M (pc + 1) lo (.int x.toInt32 :: r) | _ => none) = some _ at h
  split at h
  · cases h
    exact lv_l2i hx hb hdec rfl (kk.pure hH hL hls)
  · cases h
theorem sm_o_dup (hx : p.tables.exec = Jvm.exec) (hb : c.code = cc) (h : sm_ex hs E M pc lo st (.dup) n a b d = some (P, .inl (M2, pc2, lo2, st2))) (hP : P) (hdec : decode cc pc = .ok (.dup, 1)) (hH : sm_H w M H) (hL : sm_lo w locs) (hls : sm_L (sm_ad w) ls nL lo) (kk : sm_KK p l e R s m args below meth c w nL cells slots Q M M2 pc2 lo2 st2) : W p l e R s m args below meth c H locs cells slots Q (F0 m pc ls (st.map (sm_t (sm_ad w)))) := by
  change (match st with | v :: r => sm_by (v.category = 1) M (pc + 1) lo (v :: v :: r) | _ => none) = some _ at h
  split at h
  · cases h
    exact lv_dup hx hb hdec (by rw [sm_tc]; exact hP) (kk.pure hH hL hls)
  · cases h
theorem sm_o_pop (hx : p.tables.exec = Jvm.exec) (hb : c.code = cc) (h : sm_ex hs E M pc lo st (.pop) n a b d = some (P, .inl (M2, pc2, lo2, st2))) (hP : P) (hdec : decode cc pc = .ok (.pop, 1)) (hH : sm_H w M H) (hL : sm_lo w locs) (hls : sm_L (sm_ad w) ls nL lo) (kk : sm_KK p l e R s m args below meth c w nL cells slots Q M M2 pc2 lo2 st2) : W p l e R s m args below meth c H locs cells slots Q (F0 m pc ls (st.map (sm_t (sm_ad w)))) := by
  change (match st with | v :: r => sm_by (v.category = 1) M (pc + 1) lo r | _ => none) = some _ at h
  split at h
  · cases h
    exact lv_pop hx hb hdec (by rw [sm_tc]; exact hP) (kk.pure hH hL hls)
  · cases h
theorem sm_o_dup_x1 (hx : p.tables.exec = Jvm.exec) (hb : c.code = cc) (h : sm_ex hs E M pc lo st (.dup_x1) n a b d = some (P, .inl (M2, pc2, lo2, st2))) (hP : P) (hdec : decode cc pc = .ok (.dup_x1, 1)) (hH : sm_H w M H) (hL : sm_lo w locs) (hls : sm_L (sm_ad w) ls nL lo) (kk : sm_KK p l e R s m args below meth c w nL cells slots Q M M2 pc2 lo2 st2) : W p l e R s m args below meth c H locs cells slots Q (F0 m pc ls (st.map (sm_t (sm_ad w)))) := by
  change (match st with | v :: u :: r => sm_by (v.category = 1 ∧ u.category = 1) M (pc + 1) lo (v :: u :: v :: r) | _ => none) = some _ at h
  split at h
  · cases h
    exact lv_dup_x1 hx hb hdec (by rw [sm_tc]; exact hP.1) (by rw [sm_tc]; exact hP.2) (kk.pure hH hL hls)
  · cases h
theorem sm_o_dup2 (hx : p.tables.exec = Jvm.exec) (hb : c.code = cc) (h : sm_ex hs E M pc lo st (.dup2) n a b d = some (P, .inl (M2, pc2, lo2, st2))) (hP : P) (hdec : decode cc pc = .ok (.dup2, 1)) (hH : sm_H w M H) (hL : sm_lo w locs) (hls : sm_L (sm_ad w) ls nL lo) (kk : sm_KK p l e R s m args below meth c w nL cells slots Q M M2 pc2 lo2 st2) : W p l e R s m args below meth c H locs cells slots Q (F0 m pc ls (st.map (sm_t (sm_ad w)))) := by
  change (match st with | .long x :: r => sm_go M (pc + 1) lo (.long x :: .long x :: r) | v :: u :: r => sm_by (v.category = 1 ∧ u.category = 1) M (pc + 1) lo (v :: u :: v :: u :: r) | _ => none) = some _ at h
  split at h
  · cases h
    exact lv_dup2_2 hx hb hdec rfl (kk.pure hH hL hls)
  · cases h
    exact lv_dup2_11 hx hb hdec (by rw [sm_tc]; exact hP.1) (by rw [sm_tc]; exact hP.2) (kk.pure hH hL hls)
  · cases h
theorem sm_o_goto {off : Int} (hx : p.tables.exec = Jvm.exec) (hb : c.code = cc) (h : sm_ex hs E M pc lo st (.goto off) n a b d = some (P, .inl (M2, pc2, lo2, st2))) (hP : P) (hdec : decode cc pc = .ok (.goto off, 3)) (ht : (pc : Int) + off = (a : Int)) (hH : sm_H w M H) (hL : sm_lo w locs) (hls : sm_L (sm_ad w) ls nL lo) (kk : sm_KK p l e R s m args below meth c w nL cells slots Q M M2 pc2 lo2 st2) : W p l e R s m args below meth c H locs cells slots Q (F0 m pc ls (st.map (sm_t (sm_ad w)))) := by
  change sm_go M a lo st = some _ at h
  cases h
  exact lv_goto hx hb hdec ht (kk.pure hH hL hls)
theorem sm_o_ifCond {k : Jvm.ClassFile.Cond} {off : Int} (hx : p.tables.exec = Jvm.exec) (hb : c.code = cc) (h : sm_ex hs E M pc lo st (.ifCond k off) n a b d = some (P, .inl (M2, pc2, lo2, st2))) (hP : P) (hdec : decode cc pc = .ok (.ifCond k off, 3)) (ht : (pc : Int) + off = (a : Int)) (hH : sm_H w M H) (hL : sm_lo w locs) (hls : sm_L (sm_ad w) ls nL lo) (kk : sm_KK p l e R s m args below meth c w nL cells slots Q M M2 pc2 lo2 st2) : W p l e R s m args below meth c H locs cells slots Q (F0 m pc ls (st.map (sm_t (sm_ad w)))) := by
  change (match st with | .int x :: r => sm_go M (sm_cz k x a (pc + 3)) lo r | _ => none) = some _ at h
  split at h
  · rename_i x r
    cases h
    cases k with
    | eq => exact lv_if_eq hx hb hdec ht (fun c1 => by have k1 := (kk.pure hH hL hls); rw [show sm_cz .eq x a (pc + 3) = a from if_pos c1] at k1; exact k1) (fun c1 => by have k1 := (kk.pure hH hL hls); rw [show sm_cz .eq x a (pc + 3) = pc + 3 from if_neg c1] at k1; exact k1)
    | ne => exact lv_if_ne hx hb hdec ht (fun c1 => by have k1 := (kk.pure hH hL hls); rw [show sm_cz .ne x a (pc + 3) = a from if_neg c1] at k1; exact k1) (fun c1 => by have k1 := (kk.pure hH hL hls); rw [show sm_cz .ne x a (pc + 3) = pc + 3 from if_pos c1] at k1; exact k1)
    | lt => exact lv_if_lt hx hb hdec ht (fun c1 => by have k1 := (kk.pure hH hL hls); rw [show sm_cz .lt x a (pc + 3) = a from if_pos c1] at k1; exact k1) (fun c1 => by have k1 := (kk.pure hH hL hls); rw [show sm_cz .lt x a (pc + 3) = pc + 3 from if_neg c1] at k1; exact k1)
    | ge => exact lv_if_ge hx hb hdec ht (fun c1 => by have k1 := (kk.pure hH hL hls); rw [show sm_cz .ge x a (pc + 3) = a from if_pos c1] at k1; exact k1) (fun c1 => by have k1 := (kk.pure hH hL hls); rw [show sm_cz .ge x a (pc + 3) = pc + 3 from if_neg c1] at k1; exact k1)
    | gt => exact lv_if_gt hx hb hdec ht (fun c1 => by have k1 := (kk.pure hH hL hls); rw [show sm_cz .gt x a (pc + 3) = a from if_pos c1] at k1; exact k1) (fun c1 => by have k1 := (kk.pure hH hL hls); rw [show sm_cz .gt x a (pc + 3) = pc + 3 from if_neg c1] at k1; exact k1)
    | le => exact lv_if_le hx hb hdec ht (fun c1 => by have k1 := (kk.pure hH hL hls); rw [show sm_cz .le x a (pc + 3) = a from if_pos c1] at k1; exact k1) (fun c1 => by have k1 := (kk.pure hH hL hls); rw [show sm_cz .le x a (pc + 3) = pc + 3 from if_neg c1] at k1; exact k1)
  · cases h
theorem sm_o_if_icmp {k : Jvm.ClassFile.Cond} {off : Int} (hx : p.tables.exec = Jvm.exec) (hb : c.code = cc) (h : sm_ex hs E M pc lo st (.if_icmp k off) n a b d = some (P, .inl (M2, pc2, lo2, st2))) (hP : P) (hdec : decode cc pc = .ok (.if_icmp k off, 3)) (ht : (pc : Int) + off = (a : Int)) (hH : sm_H w M H) (hL : sm_lo w locs) (hls : sm_L (sm_ad w) ls nL lo) (kk : sm_KK p l e R s m args below meth c w nL cells slots Q M M2 pc2 lo2 st2) : W p l e R s m args below meth c H locs cells slots Q (F0 m pc ls (st.map (sm_t (sm_ad w)))) := by
  change (match st with | .int y :: .int x :: r => sm_go M (sm_cc k x y a (pc + 3)) lo r | _ => none) = some _ at h
  split at h
  · rename_i y x r
    cases h
    cases k with
    | eq => exact lv_icmp_eq hx hb hdec ht (fun c1 => by have k1 := (kk.pure hH hL hls); rw [show sm_cc .eq x y a (pc + 3) = a from if_pos c1] at k1; exact k1) (fun c1 => by have k1 := (kk.pure hH hL hls); rw [show sm_cc .eq x y a (pc + 3) = pc + 3 from if_neg c1] at k1; exact k1)
    | ne => exact lv_icmp_ne hx hb hdec ht (fun c1 => by have k1 := (kk.pure hH hL hls); rw [show sm_cc .ne x y a (pc + 3) = a from if_neg c1] at k1; exact k1) (fun c1 => by have k1 := (kk.pure hH hL hls); rw [show sm_cc .ne x y a (pc + 3) = pc + 3 from if_pos c1] at k1; exact k1)
    | lt => exact lv_icmp_lt hx hb hdec ht (fun c1 => by have k1 := (kk.pure hH hL hls); rw [show sm_cc .lt x y a (pc + 3) = a from if_pos c1] at k1; exact k1) (fun c1 => by have k1 := (kk.pure hH hL hls); rw [show sm_cc .lt x y a (pc + 3) = pc + 3 from if_neg c1] at k1; exact k1)
    | ge => exact lv_icmp_ge hx hb hdec ht (fun c1 => by have k1 := (kk.pure hH hL hls); rw [show sm_cc .ge x y a (pc + 3) = a from if_pos c1] at k1; exact k1) (fun c1 => by have k1 := (kk.pure hH hL hls); rw [show sm_cc .ge x y a (pc + 3) = pc + 3 from if_neg c1] at k1; exact k1)
    | gt => exact lv_icmp_gt hx hb hdec ht (fun c1 => by have k1 := (kk.pure hH hL hls); rw [show sm_cc .gt x y a (pc + 3) = a from if_pos c1] at k1; exact k1) (fun c1 => by have k1 := (kk.pure hH hL hls); rw [show sm_cc .gt x y a (pc + 3) = pc + 3 from if_neg c1] at k1; exact k1)
    | le => exact lv_icmp_le hx hb hdec ht (fun c1 => by have k1 := (kk.pure hH hL hls); rw [show sm_cc .le x y a (pc + 3) = a from if_pos c1] at k1; exact k1) (fun c1 => by have k1 := (kk.pure hH hL hls); rw [show sm_cc .le x y a (pc + 3) = pc + 3 from if_neg c1] at k1; exact k1)
  · cases h
theorem sm_o_ifnull {off : Int} (hx : p.tables.exec = Jvm.exec) (hb : c.code = cc) (h : sm_ex hs E M pc lo st (.ifnull off) n a b d = some (P, .inl (M2, pc2, lo2, st2))) (hP : P) (hdec : decode cc pc = .ok (.ifnull off, 3)) (ht : (pc : Int) + off = (a : Int)) (hH : sm_H w M H) (hL : sm_lo w locs) (hls : sm_L (sm_ad w) ls nL lo) (kk : sm_KK p l e R s m args below meth c w nL cells slots Q M M2 pc2 lo2 st2) : W p l e R s m args below meth c H locs cells slots Q (F0 m pc ls (st.map (sm_t (sm_ad w)))) := by
  change (match st with | .ref _ :: r => sm_go M (pc + 3) lo r | .null :: r => sm_go M a lo r | _ => none) = some _ at h
  split at h
  · cases h
    exact lv_ifnull hx hb hdec (kk.pure hH hL hls)
  · cases h
    exact lv_ifnullN hx hb hdec ht (kk.pure hH hL hls)
  · cases h
theorem sm_o_ifnonnull {off : Int} (hx : p.tables.exec = Jvm.exec) (hb : c.code = cc) (h : sm_ex hs E M pc lo st (.ifnonnull off) n a b d = some (P, .inl (M2, pc2, lo2, st2))) (hP : P) (hdec : decode cc pc = .ok (.ifnonnull off, 3)) (ht : (pc : Int) + off = (a : Int)) (hH : sm_H w M H) (hL : sm_lo w locs) (hls : sm_L (sm_ad w) ls nL lo) (kk : sm_KK p l e R s m args below meth c w nL cells slots Q M M2 pc2 lo2 st2) : W p l e R s m args below meth c H locs cells slots Q (F0 m pc ls (st.map (sm_t (sm_ad w)))) := by
  change (match st with | .ref _ :: r => sm_go M a lo r | .null :: r => sm_go M (pc + 3) lo r | _ => none) = some _ at h
  split at h
  · cases h
    exact lv_ifnonnull hx hb hdec ht (kk.pure hH hL hls)
  · cases h
    exact lv_ifnonnullN hx hb hdec (kk.pure hH hL hls)
  · cases h
theorem sm_tgE {pc : Nat} {off : Int} (h : 0 ≤ (pc : Int) + off) : (pc : Int) + off = (sm_tg pc off : Int) := (Int.toNat_of_nonneg h).symm
theorem sm_o_tableswitch {df k1 k2 : Int} {offs : Array Int} {len : Nat} (hx : p.tables.exec = Jvm.exec) (hb : c.code = cc) (h : sm_ex hs E M pc lo st (.tableswitch df k1 k2 offs) n a b d = some (P, .inl (M2, pc2, lo2, st2))) (hP : P) (hdec : decode cc pc = .ok (.tableswitch df k1 k2 offs, len)) (ht : 0 ≤ (pc : Int) + df ∧ ∀ o ∈ offs, 0 ≤ (pc : Int) + o) (hH : sm_H w M H) (hL : sm_lo w locs) (hls : sm_L (sm_ad w) ls nL lo) (kk : sm_KK p l e R s m args below meth c w nL cells slots Q M M2 pc2 lo2 st2) : W p l e R s m args below meth c H locs cells slots Q (F0 m pc ls (st.map (sm_t (sm_ad w)))) := by
  change (match st with | .int x :: r => sm_by (x.toInt < k1 ∨ k2 < x.toInt ∨ (offs[(x.toInt - k1).toNat]?).isSome) M (if x.toInt < k1 ∨ k2 < x.toInt then sm_tg pc df else sm_tg pc (offs.getD (x.toInt - k1).toNat 0)) lo r | _ => none) = some _ at h
  split at h
  · rename_i x r
    cases h
    by_cases hz : x.toInt < k1 ∨ k2 < x.toInt
    · have k3 := (kk.pure hH hL hls)
      rw [if_pos hz] at k3
      exact lv_tableOut hx hb hdec hz (sm_tgE ht.1) k3
    · have k3 := (kk.pure hH hL hls)
      rw [if_neg hz] at k3
      have hz1 : ¬ x.toInt < k1 := fun z => hz (Or.inl z)
      have hz2 : ¬ k2 < x.toInt := fun z => hz (Or.inr z)
      have hsome := (hP.resolve_left hz1).resolve_left hz2
      obtain ⟨o, ho⟩ := Option.isSome_iff_exists.mp hsome
      have hgd : offs.getD (x.toInt - k1).toNat 0 = o := by rw [Array.getD_eq_getD_getElem?, ho]; rfl
      rw [hgd] at k3
      exact lv_tableIn hx hb hdec hz1 hz2 ho (sm_tgE (ht.2 _ (Array.mem_of_getElem? ho))) k3
  · cases h
theorem sm_o_lookupswitch {df : Int} {ps : Array (Int × Int)} {len : Nat} (hx : p.tables.exec = Jvm.exec) (hb : c.code = cc) (h : sm_ex hs E M pc lo st (.lookupswitch df ps) n a b d = some (P, .inl (M2, pc2, lo2, st2))) (hP : P) (hdec : decode cc pc = .ok (.lookupswitch df ps, len)) (ht : (ps.toList.zip (ps.toList.drop 1)).all (fun (a, next) => a.1 < next.1) = true ∧ ∀ z, 0 ≤ (pc : Int) + Op.lookupswitch.offset ps.toList df z) (hH : sm_H w M H) (hL : sm_lo w locs) (hls : sm_L (sm_ad w) ls nL lo) (kk : sm_KK p l e R s m args below meth c w nL cells slots Q M M2 pc2 lo2 st2) : W p l e R s m args below meth c H locs cells slots Q (F0 m pc ls (st.map (sm_t (sm_ad w)))) := by
  change (match st with | .int x :: r => sm_go M (sm_tg pc (Op.lookupswitch.offset ps.toList df x.toInt)) lo r | _ => none) = some _ at h
  split at h
  · rename_i x r
    cases h
    exact lv_lookup hx hb hdec ht.1 rfl (sm_tgE (ht.2 x.toInt)) (kk.pure hH hL hls)
  · cases h
end SM1
