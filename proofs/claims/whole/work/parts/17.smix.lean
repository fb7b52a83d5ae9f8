/-! THE JDK's TEST OF AN INDEX, in one step from where it fetches what makes the text of a wrong one. -/
section SMB0
variable {p : Program} {l : Launch} {e : Env} {R : Room} {s : State} {m : MethodId} {args : Array Value} {below : List Frame} {meth : Method} {c : Code} {H : Heap} {locs : List Loc} {cells slots : Nat} {Q Q2 : State → Prop} {g : JFrame}
theorem sm_Wmono (hq : ∀ t, Q t → Q2 t) (h : W p l e R s m args below meth c H locs cells slots Q g) : W p l e R s m args below meth c H locs cells slots Q2 g := fun T hT X => by
  obtain ⟨t, a, b⟩ := h T hT X
  exact ⟨t, a, hq t b⟩
variable {cc : ByteArray} {pc : Nat} {ls : Array Slot} {w : sm_W} {M : sm_M}
theorem sm_MQ {v : Option Value} {o : Outcome} (ho : sm_ot (sm_ad w) o = .returned v) (hL : sm_lo w locs) (hH : sm_H w M H) (t : State) (h : MQ below (fun _ _ o2 t => o2 = .returned v ∧ t.heap = H) args s cells slots (fun q => sm_h0 w ≤ q) t) : sm_Z w s below o M cells slots t := by
  obtain ⟨o2, h1, h2, ⟨h3, h4⟩, L, ⟨-, h5, h6⟩, h7⟩ := h
  subst h3
  exact ⟨h1, by rw [ho]; exact h2, by rw [h4]; exact hH, h5, L, h7, h6⟩
theorem sm_ix0 : decode prog_34_method_11_code 0 = .ok (.iload_n 0, 1) := by decide +kernel
theorem sm_ix1 : decode prog_34_method_11_code 1 = .ok (.ifCond .lt 8, 3) := by decide +kernel
theorem sm_ix4 : decode prog_34_method_11_code 4 = .ok (.iload_n 0, 1) := by decide +kernel
theorem sm_ix5 : decode prog_34_method_11_code 5 = .ok (.iload_n 1, 1) := by decide +kernel
theorem sm_ix6 : decode prog_34_method_11_code 6 = .ok (.if_icmp .lt 10, 3) := by decide +kernel
theorem sm_ix16 : decode prog_34_method_11_code 16 = .ok (.iload_n 0, 1) := by decide +kernel
theorem sm_ix17 : decode prog_34_method_11_code 17 = .ok (.ireturn, 1) := by decide +kernel
variable {Ts : List Cond} {sx : List (String × Nat × String × Nat)} {xs : List String} {dd : Nat}
theorem sm_ixB (hcx : sm_Cx Ts w sx xs sm_ixN prog_34_method_11_code 3 (some .int) [] dd p R s m args meth c) (hH : sm_H w M H) {x y : Int32} {v : Value} (hv : v = .null ∨ ∃ t, v = .ref t) (h1 : ¬ x < 0) (h2 : x < y) : W p l e R s m args below meth c H [] 0 0 (sm_Z w s below (.returned (some (.int x))) M 0 0) (entryFrame m ([.int x, .int y, v] : List Value).toArray 3) := by
  obtain ⟨hx, hb, hr, hml, hown, hlocks, hname, hxt, hts, hK, hR1, hR2, -⟩ := hcx
  rw [lg_entry_eq]
  have hl := lv_entry ([.int x, .int y, v] : List Value) (n := 3) (by rcases hv with rfl | ⟨t, rfl⟩ <;> exact Nat.le_refl 3)
  have hl0 : lv_has _ 3 [(0, Value.int x), (1, Value.int y)] := lv_sub hl [0, 1] (by rcases hv with rfl | ⟨t, rfl⟩ <;> rfl)
  generalize (lg_sl ([.int x, .int y, v] : List Value) ++ List.replicate (3 - (lg_sl ([.int x, .int y, v] : List Value)).length) Slot.unset).toArray = ls at hl0 ⊢
  refine lv_iload_n hx hb sm_ix0 rfl (lv_at hl0 0 rfl) ?_
  refine lv_if_lt (tgt := 9) hx hb sm_ix1 (by decide) (fun z => absurd z h1) (fun _ => ?_)
  refine lv_iload_n hx hb sm_ix4 rfl (lv_at hl0 0 rfl) ?_
  refine lv_iload_n hx hb sm_ix5 rfl (lv_at hl0 1 rfl) ?_
  refine lv_icmp_lt (tgt := 16) hx hb sm_ix6 (by decide) (fun _ => ?_) (fun z => absurd h2 z)
  refine lv_iload_n hx hb sm_ix16 rfl (lv_at hl0 0 rfl) ?_
  exact sm_Wmono (sm_MQ (locs := []) rfl (fun z hz => absurd hz List.not_mem_nil) hH) (W.zret hx hb hr rfl (fun t ht _ => ⟨rfl, ht⟩) (fun z hz => absurd hz List.not_mem_nil) sm_ix17 hlocks)
variable {nL : Nat} {lo : List (Option Value)} {st : List Value} {hs : List sm_X} {n d : Nat} {P : Prop} {M2 : sm_M} {pc2 : Nat} {lo2 : List (Option Value)} {st2 : List Value} {own : String}
theorem sm_o_ckix {i k : Nat} (hx : p.tables.exec = Jvm.exec) (hb : c.code = cc) (hml : c.maxLocals = nL) (hts : ∀ x ∈ Ts, x.before args s = true) (hgood : ∀ x ∈ Ts, sm_gdB x = true) (hK : sm_Kn w sx xs s) (hown : s.vm.findClass own = some m.cls) (hR : dd + 1 + 8 ≤ R.frames ∧ 200 * (dd + 1) + 200 ≤ R.locals) (hcR : cells ≤ R.cells ∧ slots ≤ R.slots) (h : sm_ex hs (sm_E w) M pc lo st (.getstatic i) n 1 k d = some (P, .inl (M2, pc2, lo2, st2))) (hP : P) (hdec : decode cc pc = .ok (.getstatic i, 3)) (hdec2 : decode cc (pc + 3) = .ok (.invokestatic k, 3)) (hdec3 : decode cc (pc + 6) = .ok (.pop, 1)) (hl1 : (Cond.fieldLink own i "jdk/internal/util/Preconditions" "SIOOBE_FORMATTER" "Ljava/util/function/BiFunction;").before args s = true) (hl2 : (Cond.methodLink own k sm_ixN).before args s = true) (hl3 : (Cond.static sm_ixN).before args s = true) (hl4 : (Cond.initialized "jdk/internal/util/Preconditions").before args s = true) (hl5 : (Cond.code sm_ixN prog_34_method_11_code 3 (some .int)).before args s = true) (hH : sm_H w M H) (hL : sm_lo w locs) (hls : sm_L (sm_ad w) ls nL lo) (kk : sm_KK p l e R s m args below meth c w nL cells slots Q M M2 pc2 lo2 st2) : W p l e R s m args below meth c H locs cells slots Q (F0 m pc ls (st.map (sm_t (sm_ad w)))) := by
  change (match st with | .int y :: .int x :: r => sm_by ((¬ x < 0 ∧ x < y) ∧ (r.map Value.category).sum ≤ 16) M (pc + 7) lo r | _ => none) = some _ at h
  split at h
  · rename_i y x r
    cases h
    obtain ⟨⟨p1, p2⟩, p3⟩ := hP
    have hq : ∃ v : Value, (v = .null ∨ ∃ t, v = .ref t) ∧ va_Z "jdk/internal/util/Preconditions" "SIOOBE_FORMATTER" "Ljava/util/function/BiFunction;" v (fun q => sm_h0 w ≤ q) s (sm_B w) := by
      rcases hK.2.2.2.2.2.2.2.2.2.2.2.2.1 with z | ⟨t, z⟩
      · exact ⟨_, Or.inl rfl, z⟩
      · exact ⟨_, Or.inr ⟨t, rfl⟩, z⟩
    obtain ⟨v, hv, cf, kf, fi, f, ad0, cell, h1, h2, h3, h4, h5, h6, h7, h8⟩ := hq
    refine W.gets hx hb hown hl1 h1 h2 h3 h4 (by rw [hH.2.2.2 ad0 (Nat.not_le.mp h8)]; exact h5) (fun e => by rw [e] at h6; cases h6) h7 rfl hdec ?_
    have hinv : sm_Inv p l e R s m args below meth c H locs cells slots (F0 m (pc + 3) ls (v :: .int y :: .int x :: st2.map (sm_t (sm_ad w)))) (st2.map (sm_t (sm_ad w))) sm_ixN ([.int x, .int y, v] : List Value).toArray := sm_invS (hh := []) hx hown (Or.inl hl2) hl3 hl4 hl5 ⟨by decide, by decide⟩ rfl (by show _ = some 3; decide +kernel) rfl (by rw [hb]; exact hdec2)
    intro T hT X
    obtain ⟨T1, mk, t, X1, ⟨t1, t2, t3, t4, L, t5, t6⟩, hsteps⟩ := sm_into (M1 := M) (M2 := M) (o := .returned (some (.int x))) (d := dd) (dc := 0) (ds := 0) (hh := []) hinv hl5 (by decide) hx hts hgood hK hH (by rw [hml]; exact hls.1) (by rw [hb]; exact hdec2) (by rw [sm_sumT]; exact p3) hR (by decide) ⟨by omega, by omega⟩ (fun R2 s2 m2 args2 below2 meth2 cc2 hcx2 hR3 hR4 => sm_ixB hcx2 hH hv p1 p2) T hT X
    obtain ⟨T2, X2, -, -, ht⟩ := X1.outOf (g := F0 m (pc + 3) ls (st2.map (sm_t (sm_ad w)))) rfl (by rw [hb]; exact hdec2) t2 t4 t6
    have hheap : T2.heap = t.heap := by rw [ht]; exact (State.heap_setTop _ _).symm
    have hH2 : sm_H w M T2.heap := by rw [hheap]; exact t3
    have hk : W p l e R s m args below meth c T2.heap (locs ++ L) (cells + 0) (slots + 0) Q (F0 m (pc + 6) ls (.int x :: st2.map (sm_t (sm_ad w)))) := lv_pop hx hb hdec3 rfl (kk T2.heap (locs ++ L) ls (cells + 0) (slots + 0) hH2 (fun z hz => (List.mem_append.mp hz).elim (hL z) (t5 z)) hls (by omega) (by omega))
    obtain ⟨u, u1, u2⟩ := hk T2 rfl X2
    refine ⟨u, hsteps u ?_, u2⟩
    rw [ht]
    exact u1
  · cases h
end SMB0
