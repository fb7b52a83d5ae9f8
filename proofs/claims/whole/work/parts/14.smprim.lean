/-! Members of the JDK that are one step: Object's constructor, Math, arraycopy. -/
theorem sm_arE {H : Heap} {a : Nat} {cA : ClassId} {n : Nat} {f : Nat → Value} {z : Prop} (h : sm_ar H a cA n f z) (hz : z) : H[a]? = some (arrV cA n f) := by
  obtain ⟨cell, e1, e2, e3, e4, e5, e6⟩ := h
  obtain ⟨e7, e8⟩ := e6 hz
  rw [e1]
  congr 1
  cases cell with
  | mk cls slots mon hash vm =>
    dsimp only at e2 e3 e4 e5 e7 e8
    subst e2 e3 e7 e8
    unfold arrV
    congr 1
    apply Array.ext_getElem?
    intro j
    by_cases hj : j < n
    · rw [e5 j hj]
      simp [hj]
    · rw [Array.getElem?_eq_none (by omega), Array.getElem?_eq_none (by simp; omega)]
section SM3
variable {p : Program} {l : Launch} {e : Env} {R : Room} {s : State} {m : MethodId} {args : Array Value} {below : List Frame} {meth : Method} {c : Code} {H : Heap} {locs : List Loc} {cells slots : Nat} {Q : State → Prop}
variable {cc : ByteArray} {pc : Nat} {ls : Array Slot} {w : sm_W} {M : sm_M} {nL : Nat} {lo : List (Option Value)} {st : List Value} {b d : Nat} {P : Prop} {M2 : sm_M} {pc2 : Nat} {lo2 : List (Option Value)} {st2 : List Value} {sx : List (String × Nat × String × Nat)} {xs : List String} {own : String} {Ts : List Cond}
theorem sm_sumT (ad : Nat → Nat) (r : List Value) : ((r.map (sm_t ad)).map fun v => v.category).sum = (r.map Value.category).sum := by
  rw [List.map_map]
  congr 1
  apply List.map_congr_left
  intro v _
  exact sm_tc ad v
theorem sm_nn {z : Int32} (hz : ¬ z < 0) : z.toInt = (z.toNatClampNeg : Int) := by
  have hz0 : (0 : Int) ≤ z.toInt := by
    have := Int32.not_lt.mp hz
    simpa using Int32.le_iff_toInt_le.mp this
  show z.toInt = ((z.toInt.toNat : Nat) : Int)
  omega
theorem sm_p_objInit {i : Nat} (hx : p.tables.exec = Jvm.exec) (hb : c.code = cc) (hml : c.maxLocals = nL) (hR : 8 ≤ R.frames ∧ 200 ≤ R.locals) (hcR : cells ≤ R.cells ∧ slots ≤ R.slots) (hA : sm_Ad w) (hK : sm_Kn w sx xs s) (hown : s.vm.findClass own = some m.cls) (h : sm_call (sm_E w) M pc lo st 1 b d = some (P, .inl (M2, pc2, lo2, st2))) (hP : P) (hdec : decode cc pc = .ok (.invokespecial i, 3)) (hl : (Cond.methodLink own i Lib.objectInit).before args s = true ∧ (Cond.instanceMethod Lib.objectInit).before args s = true ∧ (Cond.code Lib.objectInit ⟨#[0xb1]⟩ 1 none).before args s = true) (hH : sm_H w M H) (hL : sm_lo w locs) (hls : sm_L (sm_ad w) ls nL lo) (kk : sm_KK p l e R s m args below meth c w nL cells slots Q M M2 pc2 lo2 st2) : W p l e R s m args below meth c H locs cells slots Q (F0 m pc ls (st.map (sm_t (sm_ad w)))) := by
  change (match st with | .ref q :: r => sm_by (q < M.1 ∧ (r.map Value.category).sum ≤ 16) M (pc + 3) lo r | _ => none) = some _ at h
  split at h
  · rename_i q r
    cases h
    have hz := sm_sumT (sm_ad w) st2
    exact W.objInit hx hb hown hl.1 hl.2.1 hl.2.2 rfl (by rw [hml]; exact hls.1) (rest := st2.map (sm_t (sm_ad w))) rfl hdec (by omega) (by show 2 * 0 + _ + 12 ≤ _; have := hP.2; omega) (kk.pure hH hL hls)
  · cases h
theorem sm_p_maxI {i : Nat} (hx : p.tables.exec = Jvm.exec) (hb : c.code = cc) (hml : c.maxLocals = nL) (hR : 8 ≤ R.frames ∧ 200 ≤ R.locals) (hcR : cells ≤ R.cells ∧ slots ≤ R.slots) (hA : sm_Ad w) (hK : sm_Kn w sx xs s) (hown : s.vm.findClass own = some m.cls) (h : sm_call (sm_E w) M pc lo st 2 b d = some (P, .inl (M2, pc2, lo2, st2))) (hP : P) (hdec : decode cc pc = .ok (.invokestatic i, 3)) (hl : (Cond.methodLink own i Lib.Math.max.name).before args s = true ∧ (Cond.static Lib.Math.max.name).before args s = true ∧ (Cond.initialized "java/lang/Math").before args s = true ∧ (Cond.code Lib.Math.max.name Lib.Math.max.code 2 (some .int)).before args s = true) (hH : sm_H w M H) (hL : sm_lo w locs) (hls : sm_L (sm_ad w) ls nL lo) (kk : sm_KK p l e R s m args below meth c w nL cells slots Q M M2 pc2 lo2 st2) : W p l e R s m args below meth c H locs cells slots Q (F0 m pc ls (st.map (sm_t (sm_ad w)))) := by
  change (match st with | .int y :: .int x :: r => sm_by ((r.map Value.category).sum ≤ 16) M (pc + 3) lo (.int (if x < y then y else x) :: r) | _ => none) = some _ at h
  split at h
  · rename_i r
    cases h
    have hz := sm_sumT (sm_ad w) r
    exact va_mmax hx hb (by rw [hml]; exact hls.1.symm) hown hl.1 hl.2.1 hl.2.2.1 hl.2.2.2 (rest := r.map (sm_t (sm_ad w))) (by omega) (by omega) hcR.1 hcR.2 hdec (kk.pure hH hL hls)
  · cases h
theorem sm_p_minI {i : Nat} (hx : p.tables.exec = Jvm.exec) (hb : c.code = cc) (hml : c.maxLocals = nL) (hR : 8 ≤ R.frames ∧ 200 ≤ R.locals) (hcR : cells ≤ R.cells ∧ slots ≤ R.slots) (hA : sm_Ad w) (hK : sm_Kn w sx xs s) (hown : s.vm.findClass own = some m.cls) (h : sm_call (sm_E w) M pc lo st 3 b d = some (P, .inl (M2, pc2, lo2, st2))) (hP : P) (hdec : decode cc pc = .ok (.invokestatic i, 3)) (hl : (Cond.methodLink own i Lib.Math.min.name).before args s = true ∧ (Cond.static Lib.Math.min.name).before args s = true ∧ (Cond.initialized "java/lang/Math").before args s = true ∧ (Cond.code Lib.Math.min.name Lib.Math.min.code 2 (some .int)).before args s = true) (hH : sm_H w M H) (hL : sm_lo w locs) (hls : sm_L (sm_ad w) ls nL lo) (kk : sm_KK p l e R s m args below meth c w nL cells slots Q M M2 pc2 lo2 st2) : W p l e R s m args below meth c H locs cells slots Q (F0 m pc ls (st.map (sm_t (sm_ad w)))) := by
  change (match st with | .int y :: .int x :: r => sm_by ((r.map Value.category).sum ≤ 16) M (pc + 3) lo (.int (if y < x then y else x) :: r) | _ => none) = some _ at h
  split at h
  · rename_i r
    cases h
    have hz := sm_sumT (sm_ad w) r
    exact va_mmin hx hb (by rw [hml]; exact hls.1.symm) hown hl.1 hl.2.1 hl.2.2.1 hl.2.2.2 (rest := r.map (sm_t (sm_ad w))) (by omega) (by omega) hcR.1 hcR.2 hdec (kk.pure hH hL hls)
  · cases h
theorem sm_p_absI {i : Nat} (hx : p.tables.exec = Jvm.exec) (hb : c.code = cc) (hml : c.maxLocals = nL) (hR : 8 ≤ R.frames ∧ 200 ≤ R.locals) (hcR : cells ≤ R.cells ∧ slots ≤ R.slots) (hA : sm_Ad w) (hK : sm_Kn w sx xs s) (hown : s.vm.findClass own = some m.cls) (h : sm_call (sm_E w) M pc lo st 4 b d = some (P, .inl (M2, pc2, lo2, st2))) (hP : P) (hdec : decode cc pc = .ok (.invokestatic i, 3)) (hl : (Cond.methodLink own i Lib.Math.abs.name).before args s = true ∧ (Cond.static Lib.Math.abs.name).before args s = true ∧ (Cond.initialized "java/lang/Math").before args s = true ∧ (Cond.code Lib.Math.abs.name Lib.Math.abs.code 1 (some .int)).before args s = true) (hH : sm_H w M H) (hL : sm_lo w locs) (hls : sm_L (sm_ad w) ls nL lo) (kk : sm_KK p l e R s m args below meth c w nL cells slots Q M M2 pc2 lo2 st2) : W p l e R s m args below meth c H locs cells slots Q (F0 m pc ls (st.map (sm_t (sm_ad w)))) := by
  change (match st with | .int x :: r => sm_by ((r.map Value.category).sum ≤ 16) M (pc + 3) lo (.int (if 0 ≤ x then x else 0 - x) :: r) | _ => none) = some _ at h
  split at h
  · rename_i r
    cases h
    have hz := sm_sumT (sm_ad w) r
    exact va_mabs hx hb (by rw [hml]; exact hls.1.symm) hown hl.1 hl.2.1 hl.2.2.1 hl.2.2.2 (rest := r.map (sm_t (sm_ad w))) (by omega) (by omega) hcR.1 hcR.2 hdec (kk.pure hH hL hls)
  · cases h
theorem sm_p_maxJ {i : Nat} (hx : p.tables.exec = Jvm.exec) (hb : c.code = cc) (hml : c.maxLocals = nL) (hR : 8 ≤ R.frames ∧ 200 ≤ R.locals) (hcR : cells ≤ R.cells ∧ slots ≤ R.slots) (hA : sm_Ad w) (hK : sm_Kn w sx xs s) (hown : s.vm.findClass own = some m.cls) (h : sm_call (sm_E w) M pc lo st 5 b d = some (P, .inl (M2, pc2, lo2, st2))) (hP : P) (hdec : decode cc pc = .ok (.invokestatic i, 3)) (hl : (Cond.methodLink own i Lib.MathLoose.max_long.x).before args s = true ∧ (Cond.static Lib.MathLoose.max_long.x).before args s = true ∧ (Cond.initialized "java/lang/Math").before args s = true ∧ (Cond.code Lib.MathLoose.max_long.x Lib.MathLoose.max_long.code 4 (some .long)).before args s = true) (hH : sm_H w M H) (hL : sm_lo w locs) (hls : sm_L (sm_ad w) ls nL lo) (kk : sm_KK p l e R s m args below meth c w nL cells slots Q M M2 pc2 lo2 st2) : W p l e R s m args below meth c H locs cells slots Q (F0 m pc ls (st.map (sm_t (sm_ad w)))) := by
  change (match st with | .long y :: .long x :: r => sm_by ((r.map Value.category).sum ≤ 16) M (pc + 3) lo (.long (if y < x then x else y) :: r) | _ => none) = some _ at h
  split at h
  · rename_i r
    cases h
    have hz := sm_sumT (sm_ad w) r
    exact va_mmax_long hx hb (by rw [hml]; exact hls.1.symm) hown hl.1 hl.2.1 hl.2.2.1 hl.2.2.2 (rest := r.map (sm_t (sm_ad w))) (by omega) (by omega) hcR.1 hcR.2 hdec (kk.pure hH hL hls)
  · cases h
theorem sm_p_minJ {i : Nat} (hx : p.tables.exec = Jvm.exec) (hb : c.code = cc) (hml : c.maxLocals = nL) (hR : 8 ≤ R.frames ∧ 200 ≤ R.locals) (hcR : cells ≤ R.cells ∧ slots ≤ R.slots) (hA : sm_Ad w) (hK : sm_Kn w sx xs s) (hown : s.vm.findClass own = some m.cls) (h : sm_call (sm_E w) M pc lo st 6 b d = some (P, .inl (M2, pc2, lo2, st2))) (hP : P) (hdec : decode cc pc = .ok (.invokestatic i, 3)) (hl : (Cond.methodLink own i Lib.MathLoose.min_long.x).before args s = true ∧ (Cond.static Lib.MathLoose.min_long.x).before args s = true ∧ (Cond.initialized "java/lang/Math").before args s = true ∧ (Cond.code Lib.MathLoose.min_long.x Lib.MathLoose.min_long.code 4 (some .long)).before args s = true) (hH : sm_H w M H) (hL : sm_lo w locs) (hls : sm_L (sm_ad w) ls nL lo) (kk : sm_KK p l e R s m args below meth c w nL cells slots Q M M2 pc2 lo2 st2) : W p l e R s m args below meth c H locs cells slots Q (F0 m pc ls (st.map (sm_t (sm_ad w)))) := by
  change (match st with | .long y :: .long x :: r => sm_by ((r.map Value.category).sum ≤ 16) M (pc + 3) lo (.long (if y < x then y else x) :: r) | _ => none) = some _ at h
  split at h
  · rename_i r
    cases h
    have hz := sm_sumT (sm_ad w) r
    exact va_mmin_long hx hb (by rw [hml]; exact hls.1.symm) hown hl.1 hl.2.1 hl.2.2.1 hl.2.2.2 (rest := r.map (sm_t (sm_ad w))) (by omega) (by omega) hcR.1 hcR.2 hdec (kk.pure hH hL hls)
  · cases h
theorem sm_p_copy {i : Nat} (hx : p.tables.exec = Jvm.exec) (hb : c.code = cc) (hml : c.maxLocals = nL) (hR : 8 ≤ R.frames ∧ 200 ≤ R.locals) (hcR : cells ≤ R.cells ∧ slots ≤ R.slots) (hA : sm_Ad w) (hK : sm_Kn w sx xs s) (hown : s.vm.findClass own = some m.cls) (h : sm_call (sm_E w) M pc lo st 7 b d = some (P, .inl (M2, pc2, lo2, st2))) (hP : P) (hdec : decode cc pc = .ok (.invokestatic i, 3)) (hl : (Cond.methodLink own i arraycopyName).before args s = true ∧ (Cond.native arraycopyName).before args s = true ∧ (Cond.static arraycopyName).before args s = true ∧ (Cond.initialized "java/lang/System").before args s = true) (hH : sm_H w M H) (hL : sm_lo w locs) (hls : sm_L (sm_ad w) ls nL lo) (kk : sm_KK p l e R s m args below meth c w nL cells slots Q M M2 pc2 lo2 st2) : W p l e R s m args below meth c H locs cells slots Q (F0 m pc ls (st.map (sm_t (sm_ad w)))) := by
  change (match st with | .int n :: .int dp :: .ref d :: .int sp :: .ref s :: r => sm_by ((sm_E w ≤ d ∧ sm_E w ≤ s ∧ d < M.1 ∧ s < M.1 ∧ s ≠ d ∧ sm_kd M s = 1 ∧ sm_kd M d = 1 ∧ ¬ sp < 0 ∧ ¬ dp < 0 ∧ ¬ n < 0 ∧ sp.toNatClampNeg + n.toNatClampNeg ≤ sm_ln M s ∧ dp.toNatClampNeg + n.toNatClampNeg ≤ sm_ln M d ∧ ∀ i, i < n.toNatClampNeg → fits .byte (.int (sm_iv M s (sp.toNatClampNeg + i))) = true) ∧ (r.map Value.category).sum ≤ 16) (sm_cp M s d sp.toNatClampNeg dp.toNatClampNeg n.toNatClampNeg) (pc + 3) lo r | _ => none) = some _ at h
  split at h
  · rename_i n dp dd sp ss r
    cases h
    obtain ⟨⟨k0, k1, k2, k3, k4, k5, k6, h1, h2, h3, h4, h5, hfit⟩, hsum⟩ := hP
    have hz := sm_sumT (sm_ad w) st2
    have hq : nativeFrameWords "java/lang/System" "arraycopy" 5 + 11 ≤ 180 := by decide +kernel
    have ha0 := (hH.2.2.1 ss k3).1 (by rw [k5]; decide)
    have ha1 := (hH.2.2.1 dd k2).1 (by rw [k6]; decide)
    have hc0 := sm_arE ha0 k1
    have hc1 := sm_arE ha1 k0
    have f0 : sm_av M ss (sm_kd M ss) = fun j => .int (sm_iv M ss j) := by funext j; simp [sm_av, k5]
    have f1 : sm_av M dd (sm_kd M dd) = fun j => .int (sm_iv M dd j) := by funext j; simp [sm_av, k6]
    rw [f0, k5] at hc0
    rw [f1, k6] at hc1
    have hT0 : ArrOfT s (sm_aC w 1) .byte := hK.2.2.2.1.1
    obtain ⟨-, q0, hk0, cm0, hkk0⟩ := hT0 (sm_ln M ss) (fun j => .int (sm_iv M ss j))
    obtain ⟨-, q1, hk1, cm1, hkk1⟩ := hT0 (sm_ln M dd) (fun j => .int (sm_iv M dd j))
    intro T hT X
    obtain ⟨vm1, X1, step⟩ := X.arraycopy hx hown hl.1 hl.2.1 hl.2.2.1 hl.2.2.2 (src := sm_ad w ss) (dst := sm_ad w dd) (cs := arrV (sm_aC w 1) (sm_ln M ss) (fun j => .int (sm_iv M ss j))) (cd := arrV (sm_aC w 1) (sm_ln M dd) (fun j => .int (sm_iv M dd j))) (srcPos := sp) (destPos := dp) (n := n) (by rw [hT]; exact hc0) (by rw [hT]; exact hc1)
      (fun _ h => by cases h) (fun _ h => by cases h) (fun h => by cases h) (fun h => by cases h) hk0 hk1 hkk0 hkk1 (by simp [refKind]) h1 h2 h3
      (by rw [sm_nn h1, sm_nn h3, arrV_size]; omega)
      (by rw [sm_nn h2, sm_nn h3, arrV_size]; omega)
      (fun vm₁ _ i hi => by
        have e : (arrV (sm_aC w 1) (sm_ln M ss) (fun j => .int (sm_iv M ss j))).slots.getD (sp.toNatClampNeg + i) .null = .int (sm_iv M ss (sp.toNatClampNeg + i)) := by
          rw [Array.getD_eq_getD_getElem?, arrV_read _ _ (by omega)]
          rfl
        refine ⟨?_, ?_⟩
        · rw [e]
          exact hfit i hi
        · rw [e]
          exact trivial)
      (g := F0 m pc ls (.int n :: .int dp :: .ref (sm_ad w dd) :: .int sp :: .ref (sm_ad w ss) :: st2.map (sm_t (sm_ad w)))) rfl (by rw [hml]; exact hls.1) (rest := st2.map (sm_t (sm_ad w))) rfl (by rw [hb]; exact hdec) (by omega) (by show 2 * 0 + _ + _ ≤ _; omega)
    have e1 : copied (arrV (sm_aC w 1) (sm_ln M ss) (fun j => .int (sm_iv M ss j))) (arrV (sm_aC w 1) (sm_ln M dd) (fun j => .int (sm_iv M dd j))) sp dp n = arrV (sm_aC w 1) (sm_ln M dd) (fun j => .int (va_cpy (sm_iv M ss) (sm_iv M dd) sp.toNatClampNeg dp.toNatClampNeg n.toNatClampNeg j)) := va_copied (fun z => .int z) _ _ _ _ h4
    rw [e1] at X1 step
    have hlt : sm_ad w dd < H.size := hH.lt hA k2
    have hH2 : sm_H w (sm_cp M ss dd sp.toNatClampNeg dp.toNatClampNeg n.toNatClampNeg) (H.setIfInBounds (sm_ad w dd) (arrV (sm_aC w 1) (sm_ln M dd) (fun j => .int (va_cpy (sm_iv M ss) (sm_iv M dd) sp.toNatClampNeg dp.toNatClampNeg n.toNatClampNeg j)))) := by
      refine hH.put hA k0 rfl (by simp) (fun a ha => by simp [Array.getElem?_setIfInBounds, Ne.symm ha]) (fun r hr => ⟨rfl, rfl, va_up_ne _ _ hr, rfl, rfl⟩) ⟨fun _ => ?_, fun z => ?_, fun z => ?_⟩
      · show sm_ar _ _ (sm_aC w (sm_kd M dd)) (sm_ln M dd) _ _
        rw [k6]
        refine ⟨_, by rw [Array.getElem?_setIfInBounds_self_of_lt hlt], rfl, rfl, arrV_size _ _ _, fun j hj => ?_, fun _ => ⟨rfl, rfl⟩⟩
        rw [arrV_read _ _ hj]
        have i1 : sm_iv (sm_cp M ss dd sp.toNatClampNeg dp.toNatClampNeg n.toNatClampNeg) dd = va_cpy (sm_iv M ss) (sm_iv M dd) sp.toNatClampNeg dp.toNatClampNeg n.toNatClampNeg := va_up_self _ _ _
        have i2 : sm_kd (sm_cp M ss dd sp.toNatClampNeg dp.toNatClampNeg n.toNatClampNeg) dd = 1 := k6
        simp only [sm_av, i1, i2]
        rfl
      · exact absurd (show 16 ≤ sm_kd M dd from z) (by omega)
      · exact absurd (show 48 ≤ sm_kd M dd from z) (by omega)
    obtain ⟨t, a1, b1⟩ := kk _ _ ls cells slots hH2 (fun z hz => by
      rcases List.mem_append.mp hz with h | h
      · exact hL z h
      · obtain ⟨y, -, hy⟩ := List.mem_map.mp h
        rw [← hy]
        exact hA.ge k0) hls (by show cells = cells + (M.1 - M.1); omega) (by show slots = slots + (M.2.1 - M.2.1); omega) _ (by rw [← hT]; rfl) X1
    exact ⟨t, step t a1, b1⟩
  · cases h
end SM3
