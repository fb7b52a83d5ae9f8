/-! SOUNDNESS, by induction on how deep the calls nest. -/
theorem sm_stE {P : sm_P} {E mi : Nat} {M : sm_M} {f : sm_F} {r : sm_R} (h : sm_st P E mi M f = some r) : ∃ q ∈ (P mi).2.1, q.1 = f.1 ∧ sm_ex (P mi).2.2 E M f.1 f.2.1 f.2.2 q.2.1 q.2.2.1 q.2.2.2.1 q.2.2.2.2.1 q.2.2.2.2.2 = some r := by
  unfold sm_st at h
  split at h
  · rename_i k ins n a b c hf
    refine ⟨_, List.mem_of_find?_eq_some hf, ?_, h⟩
    have := List.find?_some hf
    simpa using this
  · cases h
section SMD
variable {l : Launch} {w : sm_W} {sx : List (String × Nat × String × Nat)} {Ts : List Cond} {P : sm_P} {J : Nat → sm_J}
def sm_So (l : Launch) (w : sm_W) (sx : List (String × Nat × String × Nat)) (Ts : List Cond) (P : sm_P) (J : Nat → sm_J) (d mi : Nat) (f : sm_F) (M : sm_M) (o : Outcome) (M2 : sm_M) : Prop := M.1 ≤ M2.1 ∧ M.2.1 ≤ M2.2.1 ∧ (∀ r, o = .threw r → r < M2.1) ∧ ∀ (p : Program) (e : Env) (R : Room) (s : State) (m : MethodId) (args : Array Value) (below : List Frame) (meth : Method) (c : Code) (H : Heap) (locs : List Loc) (cells slots : Nat) (ls : Array Slot), sm_Cx Ts w sx sm_excs (J mi).1 (J mi).2.1 (P mi).1 (J mi).2.2.1 (J mi).2.2.2.1 d p R s m args meth c → sm_H w M H → sm_lo w locs → sm_L (sm_ad w) ls (P mi).1 f.2.1 → cells + (M2.1 - M.1) ≤ R.cells → slots + (M2.2.1 - M.2.1) ≤ R.slots → W p l e R s m args below meth c H locs cells slots (sm_Z w s below o M2 (cells + (M2.1 - M.1)) (slots + (M2.2.1 - M.2.1))) (F0 m f.1 ls (f.2.2.map (sm_t (sm_ad w))))
theorem sm_lo.app {L1 L2 : List Loc} (h1 : sm_lo w L1) (h2 : sm_lo w L2) : sm_lo w (L1 ++ L2) := fun z hz => (List.mem_append.mp hz).elim (h1 z) (h2 z)
theorem sm_sound (hfl : l.flags = pinnedFlags ++ [noTraceFlag]) (hOK : sm_OK P J w sx Ts) : ∀ (d mi : Nat) (f : sm_F) (M : sm_M) (o : Outcome) (M2 : sm_M), sm_Ev P (sm_E w) d mi f M o M2 → sm_So l w sx Ts P J d mi f M o M2 := by
  obtain ⟨hA, hgood, hCl, hCw, hws, hhs, htab⟩ := hOK
  intro d
  induction d with
  | zero => intro mi f M o M2 h; exact h.elim
  | succ d ih =>
    intro mi f M o M2 h
    refine h (fun f M => sm_So l w sx Ts P J (d + 1) mi f M o M2) ?_ ?_ ?_ ?_ ?_
    · -- its end
      intro f M1 pr hst hpr
      obtain ⟨q, hq, hpc, hex⟩ := sm_stE hst
      obtain ⟨hdc, hck⟩ := htab mi q hq
      rw [hpc] at hdc hck
      have hmono : M1.1 ≤ M2.1 ∧ M1.2.1 ≤ M2.2.1 := by
        rcases sm_exE hex with ⟨-, -, -, -, rfl, -⟩ | ⟨-, -, -, -, rfl⟩ | hz | ⟨-, -, -, rfl⟩ | ⟨-, -, -, -, rfl, -⟩
        · exact ⟨Nat.le_refl _, Nat.le_refl _⟩
        · exact ⟨Nat.le_refl _, Nat.le_refl _⟩
        · rw [hz] at hck; exact absurd hck (by change ¬ false = true; decide)
        · exact ⟨Nat.le_refl _, Nat.le_refl _⟩
        · exact ⟨Nat.le_succ _, Nat.le_add_right _ _⟩
      have hthr : ∀ r, o = .threw r → r < M2.1 := by
        rcases sm_exE hex with ⟨-, x, -, rfl, -, -⟩ | ⟨-, x, -, rfl, -⟩ | hz | ⟨-, -, rfl, -⟩ | ⟨-, -, -, rfl, rfl, -⟩
        · intro r hr; cases hr
        · intro r hr; cases hr
        · rw [hz] at hck; exact absurd hck (by change ¬ false = true; decide)
        · intro r hr; cases hr
        · intro r hr; cases hr; exact Nat.lt_succ_self _
      refine ⟨hmono.1, hmono.2, hthr, fun p e R s m args below meth c H locs cells slots ls hcx hH hL hls r1 r2 => ?_⟩
      exact sm_oneE hfl hA hgood (hws mi) (hhs mi) hcx hck (sm_dcE hdc) hex hpr hH hL hls ⟨r1, r2⟩
    · -- a step
      intro f M1 pr M3 f3 hst hpr hrec
      obtain ⟨q, hq, hpc, hex⟩ := sm_stE hst
      obtain ⟨hdc, hck⟩ := htab mi q hq
      rw [hpc] at hdc hck
      have hm := sm_exM hex
      obtain ⟨k1, k2, kt, k3⟩ := hrec
      refine ⟨Nat.le_trans hm.1 k1, Nat.le_trans hm.2 k2, kt, fun p e R s m args below meth c H locs cells slots ls hcx hH hL hls r1 r2 => ?_⟩
      refine sm_one hA hgood hCl hCw (hws mi) hcx hck (sm_dcE hdc) hex hpr hH hL hls ⟨by omega, by omega⟩ ?_
      intro H1 locs1 ls1 cells1 slots1 hH1 hL1 hls1 e1 e2
      subst e1; subst e2
      have hk := k3 p e R s m args below meth c H1 locs1 (cells + (M3.1 - M1.1)) (slots + (M3.2.1 - M1.2.1)) ls1 hcx hH1 hL1 hls1 (by omega) (by omega)
      rw [show cells + (M3.1 - M1.1) + (M2.1 - M3.1) = cells + (M2.1 - M1.1) by omega, show slots + (M3.2.1 - M1.2.1) + (M2.2.1 - M3.2.1) = slots + (M2.2.1 - M1.2.1) by omega] at hk
      exact hk
    · -- a call that returns
      intro f M1 pr i as g v M3 hst hpr hln hcal hrec
      obtain ⟨q, hq, hpc, hex⟩ := sm_stE hst
      obtain ⟨hdc, hck⟩ := htab mi q hq
      rw [hpc] at hdc hck
      obtain ⟨c1, c2, ct, c3⟩ := ih i _ M1 _ M3 hcal
      obtain ⟨k1, k2, kt, k3⟩ := hrec
      refine ⟨Nat.le_trans c1 k1, Nat.le_trans c2 k2, kt, fun p e R s m args below meth c H locs cells slots ls hcx hH hL hls r1 r2 => ?_⟩
      obtain ⟨g1, g2, hn3, hsum, hkh, hcw, hplain, hnL, hinv⟩ := sm_callInv (l := l) (e := e) (below := below) (locs := locs) (cells := cells) (slots := slots) (ls := ls) (hws mi) hcx hck (sm_dcE hdc) hex hpr hH
      have hdec := sm_dcE hdc
      rw [hn3] at hdec
      have hcx2 := hcx
      obtain ⟨hx, hb, hr, hml, hown, hlocks, hname, hxt, hts, hK, hR1, hR2, -⟩ := hcx2
      intro T hT X
      obtain ⟨T1, mk, t, X1, ⟨t1, t2, t3, t4, L, t5, t6⟩, hsteps⟩ := sm_into (M1 := M1) (M2 := M3) (o := .returned v) (d := d) (dc := M3.1 - M1.1) (ds := M3.2.1 - M1.2.1) hinv hcw hplain hx hts hgood hK hH (by rw [hml]; exact hls.1) (by rw [hb]; exact hdec) hsum ⟨by omega, by omega⟩ hnL ⟨by omega, by omega⟩ (fun R2 s2 m2 args2 below2 meth2 cc2 hcx2 hR3 hR4 => by
        rw [lg_entry_eq]
        have hk := c3 p e R2 s2 m2 args2 below2 meth2 cc2 H [] 0 0 _ hcx2 hH (fun z hz => by cases hz) (sm_ent (sm_ad w) P i as hln) (by omega) (by omega)
        rw [Nat.zero_add, Nat.zero_add] at hk
        exact hk) T hT X
      obtain ⟨T2, X2, -, -, ht⟩ := X1.outOf (g := F0 m f.1 ls (g.2.2.map (sm_t (sm_ad w)))) rfl (by rw [hb]; exact hdec) t2 t4 t6
      have hheap : T2.heap = t.heap := by rw [ht]; exact (State.heap_setTop _ _).symm
      have hH2 : sm_H w M3 T2.heap := by rw [hheap]; exact t3
      have hk := k3 p e R s m args below meth c T2.heap (locs ++ L) (cells + (M3.1 - M1.1)) (slots + (M3.2.1 - M1.2.1)) ls hcx hH2 (hL.app t5) (by rw [show (sm_rt g v).2.1 = f.2.1 from g2]; exact hls) (by omega) (by omega)
      rw [show cells + (M3.1 - M1.1) + (M2.1 - M3.1) = cells + (M2.1 - M1.1) by omega, show slots + (M3.2.1 - M1.2.1) + (M2.2.1 - M3.2.1) = slots + (M2.2.1 - M1.2.1) by omega] at hk
      obtain ⟨u, u1, u2⟩ := hk T2 rfl X2
      refine ⟨u, hsteps u ?_, u2⟩
      rw [ht]
      have e3 : (F0 m (sm_rt g v).1 ls (List.map (sm_t (sm_ad w)) (sm_rt g v).2.2)) = { F0 m f.1 ls (g.2.2.map (sm_t (sm_ad w))) with pc := f.1 + 3, stack := (v.map (sm_t (sm_ad w))).toList ++ g.2.2.map (sm_t (sm_ad w)) } := by
        show F0 m (g.1 + 3) ls (List.map (sm_t (sm_ad w)) (v.toList ++ g.2.2)) = _
        rw [g1, List.map_append]
        cases v <;> rfl
      rw [e3] at u1
      exact u1
    · -- a call that throws into a handler
      intro f M1 pr i as g r M3 hd hst hpr hln hcal hct hrec
      obtain ⟨q, hq, hpc, hex⟩ := sm_stE hst
      obtain ⟨hdc, hck⟩ := htab mi q hq
      rw [hpc] at hdc hck
      obtain ⟨c1, c2, ct, c3⟩ := ih i _ M1 _ M3 hcal
      obtain ⟨k1, k2, kt, k3⟩ := hrec
      refine ⟨Nat.le_trans c1 k1, Nat.le_trans c2 k2, kt, fun p e R s m args below meth c H locs cells slots ls hcx hH hL hls r1 r2 => ?_⟩
      obtain ⟨g1, g2, hn3, hsum, hkh, hcw, hplain, hnL, hinv⟩ := sm_callInv (l := l) (e := e) (below := below) (locs := locs) (cells := cells) (slots := slots) (ls := ls) (hws mi) hcx hck (sm_dcE hdc) hex hpr hH
      have hdec := sm_dcE hdc
      rw [hn3] at hdec
      have hcx2 := hcx
      obtain ⟨hx, hb, hr, hml, hown, hlocks, hname, hxt, hts, hK, hR1, hR2, -⟩ := hcx2
      intro T hT X
      obtain ⟨T1, mk, t, X1, ⟨t1, t2, t3, t4, L, t5, t6⟩, hsteps⟩ := sm_into (M1 := M1) (M2 := M3) (o := .threw r) (d := d) (dc := M3.1 - M1.1) (ds := M3.2.1 - M1.2.1) hinv hcw hplain hx hts hgood hK hH (by rw [hml]; exact hls.1) (by rw [hb]; exact hdec) hsum ⟨by omega, by omega⟩ hnL ⟨by omega, by omega⟩ (fun R2 s2 m2 args2 below2 meth2 cc2 hcx2 hR3 hR4 => by
        rw [lg_entry_eq]
        have hk := c3 p e R2 s2 m2 args2 below2 meth2 cc2 H [] 0 0 _ hcx2 hH (fun z hz => by cases hz) (sm_ent (sm_ad w) P i as hln) (by omega) (by omega)
        rw [Nat.zero_add, Nat.zero_add] at hk
        exact hk) T hT X
      obtain ⟨T2, X2, -, -, ht⟩ := X1.outOfThrown (g := F0 m f.1 ls (g.2.2.map (sm_t (sm_ad w)))) rfl t2 t4 t6
      have hheap : T2.heap = t.heap := by rw [ht]; exact (Stand.throwing_heap _ _ _).symm
      have hH2 : sm_H w M3 T2.heap := by rw [hheap]; exact t3
      -- which exception it is, and that it is caught
      have hct2 := hct
      unfold sm_ct at hct2
      have hall := hkh
      unfold sm_kH at hall
      rw [List.all_eq_true] at hall
      have hq2 : ∀ q2 ∈ (P mi).2.2, q2.1 ≤ f.1 ∧ f.1 < q2.2.1 ∧ q2.2.2.2 / 64 ≠ 0 ∧ ∃ n2, sm_excs[q2.2.2.2 % 64]? = some n2 ∧ (Cond.classLink (J mi).1.cls (q2.2.2.2 / 64) n2).before args s = true := by
        intro q2 hq2
        have z := hall q2 hq2
        cases hz : sm_excs[q2.2.2.2 % 64]? with
        | none => rw [hz] at z; simp at z
        | some n2 =>
          rw [hz] at z
          simp only [Bool.and_eq_true, decide_eq_true_eq] at z
          exact ⟨z.1.1.1, z.1.1.2, z.1.2, n2, rfl, hts _ (hws mi _ (of_decide_eq_true z.2))⟩
      have hsame : ∀ (hs2 : List sm_X), (∀ q2 ∈ hs2, q2.1 ≤ f.1 ∧ f.1 < q2.2.1) → ∀ (K : Nat), hs2.find? (fun h => decide (h.1 ≤ f.1) && decide (f.1 < h.2.1) && (48 + h.2.2.2 % 64 == 48 + K)) = hs2.find? (fun h => h.2.2.2 % 64 == K) := by
        intro hs2
        induction hs2 with
        | nil => intro _ K; rfl
        | cons x r ih2 =>
          intro hx2 K
          have hx3 := hx2 x List.mem_cons_self
          have e1 : (decide (x.1 ≤ f.1) && decide (f.1 < x.2.1) && (48 + x.2.2.2 % 64 == 48 + K)) = (x.2.2.2 % 64 == K) := by
            simp only [hx3.1, hx3.2, decide_true, Bool.true_and]
            by_cases hk : x.2.2.2 % 64 = K
            · rw [hk]; simp
            · rw [beq_eq_false_iff_ne.mpr hk, beq_eq_false_iff_ne.mpr (by omega)]
          rw [List.find?_cons, List.find?_cons, e1, ih2 (fun q2 h2 => hx2 q2 (List.mem_cons_of_mem _ h2)) K]
      have hkd : ∃ K nm, sm_kd M3 r = 48 + K ∧ sm_excs[K]? = some nm := by
        cases hf : (P mi).2.2.find? (fun h => decide (h.1 ≤ g.1) && decide (g.1 < h.2.1) && (48 + h.2.2.2 % 64 == sm_kd M3 r)) with
        | none => rw [hf] at hct2; cases hct2
        | some x =>
          have z := List.find?_some hf
          simp only [Bool.and_eq_true, beq_iff_eq] at z
          obtain ⟨-, -, -, n2, z2, -⟩ := hq2 x (List.mem_of_find?_eq_some hf)
          exact ⟨x.2.2.2 % 64, n2, z.2.symm, z2⟩
      obtain ⟨K, nm, hK1, hK2⟩ := hkd
      rw [g1, hK1, hsame _ (fun q2 h2 => ⟨(hq2 q2 h2).1, (hq2 q2 h2).2.1⟩) K] at hct2
      have hr3 : r < M3.1 := ct r rfl
      obtain ⟨cell, h1, h2, h3, -⟩ := ((hH2.2.2.1 r hr3).2.2 (by rw [hK1]; omega)).1 (by have := (List.getElem?_eq_some_iff.mp hK2).1; have e5 : sm_excs.length = 4 := rfl; rw [hK1]; omega)
      rw [hK1, show 48 + K - 16 = 32 + K by omega] at h2
      have hpl : e.platform.magicAccessors = ({} : Platform).magicAccessors := by rw [X.admits.platform]
      obtain ⟨vm1, hw1, hft⟩ := sm_goAll (args := args) (f := F0 m f.1 ls (g.2.2.map (sm_t (sm_ad w)))) (a := sm_ad w r) hpl hK hown hK2 c.exceptionTable.toList (P mi).2.2 (by rw [hxt, hhs mi]) hq2 ((T2.setTop (F0 m f.1 ls (g.2.2.map (sm_t (sm_ad w))))).pushFrame (.throwing (sm_ad w r))) cell hd (by rw [Stand.throwing_vm]; exact X2.warmed) (by rw [Stand.throwing_heap]; exact h1) h3 h2 hct2
      have X3 := X2.noted hw1
      have hk := k3 p e R s m args below meth c (T2.setVm vm1).heap (locs ++ L) (cells + (M3.1 - M1.1)) (slots + (M3.2.1 - M1.2.1)) ls hcx hH2 (hL.app t5) (by rw [g2]; exact hls) (by omega) (by omega)
      rw [show cells + (M3.1 - M1.1) + (M2.1 - M3.1) = cells + (M2.1 - M1.1) by omega, show slots + (M3.2.1 - M1.2.1) + (M2.2.1 - M3.2.1) = slots + (M2.2.1 - M1.2.1) by omega] at hk
      obtain ⟨u, u1, u2⟩ := hk (T2.setVm vm1) rfl X3
      refine ⟨u, hsteps u ?_, u2⟩
      rw [ht]
      exact sm_caught X2 rfl hft u1
    · -- a call that throws out
      intro f M1 pr i as g r M3 hst hpr hln hcal hno ho hM
      subst ho; subst hM
      obtain ⟨q, hq, hpc, hex⟩ := sm_stE hst
      obtain ⟨hdc, hck⟩ := htab mi q hq
      rw [hpc] at hdc hck
      obtain ⟨c1, c2, ct, c3⟩ := ih i _ M1 _ M2 hcal
      refine ⟨c1, c2, ct, fun p e R s m args below meth c H locs cells slots ls hcx hH hL hls r1 r2 => ?_⟩
      obtain ⟨g1, g2, hn3, hsum, hkh, hcw, hplain, hnL, hinv⟩ := sm_callInv (l := l) (e := e) (below := below) (locs := locs) (cells := cells) (slots := slots) (ls := ls) (hws mi) hcx hck (sm_dcE hdc) hex hpr hH
      have hdec := sm_dcE hdc
      rw [hn3] at hdec
      have hcx2 := hcx
      obtain ⟨hx, hb, hr, hml, hown, hlocks, hname, hxt, hts, hK, hR1, hR2, -⟩ := hcx2
      intro T hT X
      obtain ⟨T1, mk, t, X1, ⟨t1, t2, t3, t4, L, t5, t6⟩, hsteps⟩ := sm_into (M1 := M1) (M2 := M2) (o := .threw r) (d := d) (dc := M2.1 - M1.1) (ds := M2.2.1 - M1.2.1) hinv hcw hplain hx hts hgood hK hH (by rw [hml]; exact hls.1) (by rw [hb]; exact hdec) hsum ⟨by omega, by omega⟩ hnL ⟨by omega, by omega⟩ (fun R2 s2 m2 args2 below2 meth2 cc2 hcx2 hR3 hR4 => by
        rw [lg_entry_eq]
        have hk := c3 p e R2 s2 m2 args2 below2 meth2 cc2 H [] 0 0 _ hcx2 hH (fun z hz => by cases hz) (sm_ent (sm_ad w) P i as hln) (by omega) (by omega)
        rw [Nat.zero_add, Nat.zero_add] at hk
        exact hk) T hT X
      obtain ⟨T2, X2, -, -, ht⟩ := X1.outOfThrown (g := F0 m f.1 ls (g.2.2.map (sm_t (sm_ad w)))) rfl t2 t4 t6
      have hheap : T2.heap = t.heap := by rw [ht]; exact (Stand.throwing_heap _ _ _).symm
      have hnt : c.exceptionTable.toList = [] := by
        rw [hhs mi, hno] at hxt
        exact List.map_eq_nil_iff.mp hxt
      obtain ⟨v1, v2, v3, v4, v5⟩ := X2.leaveThrown (sm_ad w r) (g := F0 m f.1 ls (g.2.2.map (sm_t (sm_ad w)))) rfl rfl rfl (fun x hx2 => by rw [hnt] at hx2; cases hx2) hlocks
      refine ⟨_, hsteps _ (by rw [ht]; exact v1), v2, v3, ?_, v4, locs ++ L, hL.app t5, v5⟩
      have e4 : (T2.setFrames (.throwing (sm_ad w r) :: below)).heap = T2.heap := rfl
      rw [e4, hheap]
      exact t3
end SMD
