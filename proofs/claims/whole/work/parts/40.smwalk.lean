/-! WALKING BY BLOCKS: what a method comes to. -/
theorem sm_Ev.mono {P : sm_P} {E : Nat} : ∀ (d d2 mi : Nat) (f : sm_F) (M : sm_M) (o : Outcome) (M2 : sm_M), d ≤ d2 → sm_Ev P E d mi f M o M2 → sm_Ev P E d2 mi f M o M2 := by
  intro d
  induction d with
  | zero => intro d2 mi f M o M2 _ h; exact h.elim
  | succ d ih =>
    intro d2 mi f M o M2 hd h
    obtain ⟨e, rfl⟩ : ∃ e, d2 = e + 1 := ⟨d2 - 1, by omega⟩
    refine h (fun f M => sm_Ev P E (e + 1) mi f M o M2) ?_ ?_ ?_ ?_ ?_
    · intro f M1 p h1 h2
      exact sm_Ev.end h1 h2
    · intro f M1 p M3 f3 h1 h2 h3
      exact sm_Ev.step h1 h2 h3
    · intro f M1 p i as g v M3 h1 h2 h3 h4 h5
      exact sm_Ev.call h1 h2 h3 (ih e i _ M1 _ M3 (by omega) h4) h5
    · intro f M1 p i as g r M3 hh h1 h2 h3 h4 h5 h6
      exact sm_Ev.callC h1 h2 h3 (ih e i _ M1 _ M3 (by omega) h4) h5 h6
    · intro f M1 p i as g r M3 h1 h2 h3 h4 h5 h6 h7
      subst h6; subst h7
      exact sm_Ev.callT h1 h2 h3 (ih e i _ M1 _ _ (by omega) h4) h5
/-- the first knows what the second knows -/
def sm_le (a b : List (Option Value)) : Prop := a.length = b.length ∧ ∀ (i : Nat) (v : Value), b[i]? = some (some v) → a[i]? = some (some v)
theorem sm_ldI {ls : List (Option Value)} {i : Nat} {v : Value} : sm_ld ls i = some v ↔ ls[i]? = some (some v) := by
  unfold sm_ld
  rw [List.getD_eq_getElem?_getD]
  cases h : ls[i]? with
  | none => simp
  | some o => simp
theorem sm_le.ld {a b : List (Option Value)} (h : sm_le a b) {i : Nat} {v : Value} (hv : sm_ld b i = some v) : sm_ld a i = some v := sm_ldI.mpr (h.2 i v (sm_ldI.mp hv))
theorem sm_le.set {a b : List (Option Value)} (h : sm_le a b) (i : Nat) (o : Option Value) : sm_le (a.set i o) (b.set i o) := by
  refine ⟨by rw [List.length_set, List.length_set]; exact h.1, fun k v hk => ?_⟩
  rw [List.getElem?_set] at hk ⊢
  by_cases e : i = k
  · rw [if_pos e] at hk ⊢
    rw [h.1]
    exact hk
  · rw [if_neg e] at hk ⊢
    exact h.2 k v hk
theorem sm_clN {ls : List (Option Value)} {j : Nat} (h : ls.getD j none = none) : sm_cl ls (j + 1) = ls := by
  simp only [sm_cl, h]
theorem sm_clP {ls : List (Option Value)} {j : Nat} {w : Value} (h : ls.getD j none = some w) (hc : w.category = 2) : sm_cl ls (j + 1) = ls.set j none := by
  simp only [sm_cl, h, if_pos hc]
theorem sm_clQ {ls : List (Option Value)} {j : Nat} {w : Value} (h : ls.getD j none = some w) (hc : ¬ w.category = 2) : sm_cl ls (j + 1) = ls := by
  simp only [sm_cl, h, if_neg hc]
theorem sm_clE (ls : List (Option Value)) (j : Nat) : sm_cl ls (j + 1) = ls ∨ sm_cl ls (j + 1) = ls.set j none := by
  cases h : ls.getD j none with
  | none => exact Or.inl (sm_clN h)
  | some w =>
    by_cases hc : w.category = 2
    · exact Or.inr (sm_clP h hc)
    · exact Or.inl (sm_clQ h hc)
theorem sm_le.cl {a b : List (Option Value)} (h : sm_le a b) (i : Nat) : sm_le (sm_cl a i) (sm_cl b i) := by
  match i with
  | 0 => exact h
  | j + 1 =>
    have hla : (sm_cl a (j + 1)).length = a.length := by rcases sm_clE a j with e | e <;> rw [e] <;> simp
    have hlb : (sm_cl b (j + 1)).length = b.length := by rcases sm_clE b j with e | e <;> rw [e] <;> simp
    refine ⟨by rw [hla, hlb]; exact h.1, fun k v hk => ?_⟩
    have hb : b[k]? = some (some v) ∧ (k = j → ¬ v.category = 2) := by
      rcases sm_clE b j with e | e
      · rw [e] at hk
        refine ⟨hk, fun ekj hc => ?_⟩
        subst ekj
        have e2 : sm_cl b (k + 1) = b.set k none := sm_clP (sm_ldI.mpr hk) hc
        rw [e] at e2
        rw [e2, List.getElem?_set, if_pos rfl] at hk
        split at hk <;> cases hk
      · rw [e, List.getElem?_set] at hk
        by_cases ejk : j = k
        · rw [if_pos ejk] at hk
          split at hk <;> cases hk
        · rw [if_neg ejk] at hk
          exact ⟨hk, fun z => absurd z.symm ejk⟩
    have ha := h.2 k v hb.1
    by_cases ekj : k = j
    · subst ekj
      have e2 : sm_cl a (k + 1) = a := sm_clQ (sm_ldI.mpr ha) (hb.2 rfl)
      rw [e2]
      exact ha
    · rcases sm_clE a j with e | e
      · rw [e]; exact ha
      · rw [e, List.getElem?_set, if_neg (fun z => ekj z.symm)]
        exact ha
theorem sm_le.s1 {a b : List (Option Value)} (h : sm_le a b) (i : Nat) (v : Value) : sm_le (sm_s1 a i v) (sm_s1 b i v) := (h.cl i).set i _
theorem sm_le.s2 {a b : List (Option Value)} (h : sm_le a b) (i : Nat) (v : Value) : sm_le (sm_s2 a i v) (sm_s2 b i v) := ((h.cl i).set i _).set (i + 1) _
def sm_rl (x y : (sm_M × sm_F) ⊕ ((Outcome × sm_M) ⊕ (Nat × List Value × sm_F))) : Prop := match x, y with
  | .inl (M, f), .inl (M2, f2) => M = M2 ∧ f.1 = f2.1 ∧ f.2.2 = f2.2.2 ∧ sm_le f.2.1 f2.2.1
  | .inr (.inl x), .inr (.inl y) => x = y
  | .inr (.inr (i, as, g)), .inr (.inr (i2, as2, g2)) => i = i2 ∧ as = as2 ∧ g.1 = g2.1 ∧ g.2.2 = g2.2.2 ∧ sm_le g.2.1 g2.2.1
  | _, _ => False
set_option maxHeartbeats 4000000 in
theorem sm_exW {hs : List sm_X} {E : Nat} {M : sm_M} {pc : Nat} {ls la : List (Option Value)} {st : List Value} {ins : Jvm.ClassFile.Instr} {n a b c : Nat} {P : Prop} {r : (sm_M × sm_F) ⊕ ((Outcome × sm_M) ⊕ (Nat × List Value × sm_F))} (hle : sm_le la ls) (h : sm_ex hs E M pc ls st ins n a b c = some (P, r)) (hP : P) :
    ∃ P2 r2, sm_ex hs E M pc la st ins n a b c = some (P2, r2) ∧ P2 ∧ sm_rl r2 r := by
  have hlen := hle.1
  unfold sm_ex at h ⊢
  split at h <;> (try unfold sm_lI at h ⊢) <;> (try unfold sm_lJ at h ⊢) <;> (try unfold sm_lA at h ⊢) <;> (try unfold sm_tI at h ⊢) <;> (try unfold sm_tJ at h ⊢) <;> (try unfold sm_tA at h ⊢) <;> (try unfold sm_2I at h ⊢) <;> (try unfold sm_2J at h ⊢) <;> (try unfold sm_sJ at h ⊢) <;> (try unfold sm_1I at h ⊢) <;> (try unfold sm_call at h ⊢) <;> (repeat' split at h) <;> first
    | (cases h; done)
    | (rename_i hld; cases h; rw [hle.ld hld]; exact ⟨_, _, rfl, hP, rfl, rfl, rfl, hle⟩)
    | (rename_i hld; cases h; rw [hle.ld hld]; exact ⟨_, _, rfl, by rw [hlen]; exact hP, rfl, rfl, rfl, hle.s1 _ _⟩)
    | (cases h; exact ⟨_, _, rfl, hP, rfl, rfl, rfl, hle⟩)
    | (cases h; exact ⟨_, _, rfl, by rw [hlen]; exact hP, rfl, rfl, rfl, hle.s1 _ _⟩)
    | (cases h; exact ⟨_, _, rfl, by rw [hlen]; exact hP, rfl, rfl, rfl, hle.s2 _ _⟩)
    | (cases h; exact ⟨_, _, rfl, hP, rfl⟩)
    | (cases h; exact ⟨_, _, rfl, hP, rfl, rfl, rfl, rfl, hle⟩)
    | (rename_i hif; cases h; rw [if_pos hif]; exact ⟨_, _, rfl, hP, rfl⟩)
    | (rename_i hif; cases h; rw [if_neg hif]; exact ⟨_, _, rfl, hP, rfl, rfl, rfl, hle⟩)
    | (rename_i hif; cases h; rw [if_pos hif]; exact ⟨_, _, rfl, hP, rfl, rfl, rfl, hle⟩)
    | (rename_i hq; cases h; rw [hq]; exact ⟨_, _, rfl, hP, rfl, rfl, rfl, rfl, hle⟩)
def sHl : List Nat := [4, 1, 1, 1, 1, 2, 1, 3, 2, 1, 2, 1, 2, 1, 1, 2, 1, 4, 3, 2, 1, 2, 1, 9, 8, 7, 3, 2, 3, 2, 1, 1, 6, 5, 2, 1, 4, 3, 1, 2, 1, 1, 1, 5, 4, 1, 4, 1, 4, 1, 5, 2, 1, 2, 1, 9, 8, 7, 3, 2, 6, 5, 2, 1, 5, 2, 1, 4, 3, 2, 1, 3, 2, 1, 1, 1, 5, 4, 2, 1, 2, 2, 3, 2, 1, 8, 7, 6, 5, 2, 4, 3, 2, 1, 1, 1, 1, 4, 2, 1, 3, 2, 1, 1, 1, 6, 5, 2, 3, 2, 1, 4, 3, 1, 1, 2, 1, 1, 1, 1, 3, 2, 1, 1, 1, 2, 3, 1, 3, 2, 1, 3, 2, 6, 5, 4, 1, 1, 6, 5, 2, 1, 1, 6, 5, 1, 6, 5, 2, 1, 4, 6, 5, 3, 5, 4, 3, 2, 3, 2, 1, 1, 2, 1, 1, 2, 1, 1, 5, 1, 2, 1, 1, 1, 1, 1, 3, 1, 3, 3, 4, 4, 4, 2, 3, 2, 1, 1, 2, 1, 2, 1, 1, 3, 2, 1, 1, 1, 4, 3, 2, 1, 1, 2, 1, 3, 3, 2, 1, 1, 2, 1, 1, 2, 3, 2, 4, 3, 1, 4, 2, 3, 3, 2, 2, 10]
def sH (i : Nat) : Nat := sm_nth 0 sHl i
theorem sm_stW {P : sm_P} {E mi : Nat} {M : sm_M} {f f2 : sm_F} {p : Prop} {r : (sm_M × sm_F) ⊕ ((Outcome × sm_M) ⊕ (Nat × List Value × sm_F))} (h : sm_st P E mi M f = some (p, r)) (hp : p) (e1 : f2.1 = f.1) (e2 : f2.2.2 = f.2.2) (hle : sm_le f2.2.1 f.2.1) : ∃ p2 r2, sm_st P E mi M f2 = some (p2, r2) ∧ p2 ∧ sm_rl r2 r := by
  unfold sm_st at h ⊢
  rw [e1, e2]
  split at h
  · exact sm_exW hle h hp
  · cases h
theorem sm_Ev.weak {P : sm_P} {E d mi : Nat} {f f2 : sm_F} {M : sm_M} {o : Outcome} {M2 : sm_M} (e1 : f2.1 = f.1) (e2 : f2.2.2 = f.2.2) (hle : sm_le f2.2.1 f.2.1) (h : sm_Ev P E d mi f M o M2) : sm_Ev P E d mi f2 M o M2 := by
  match d, h with
  | 0, h => exact h.elim
  | d + 1, h =>
    refine h (fun f M => ∀ f2 : sm_F, f2.1 = f.1 → f2.2.2 = f.2.2 → sm_le f2.2.1 f.2.1 → sm_Ev P E (d + 1) mi f2 M o M2) ?_ ?_ ?_ ?_ ?_ f2 e1 e2 hle
    · intro f M1 p h1 h2 f2 e1 e2 hle
      obtain ⟨p2, r2, k1, k2, k3⟩ := sm_stW h1 h2 e1 e2 hle
      match r2, k3 with
      | .inr (.inl x), k3 => cases (show x = _ from k3); exact sm_Ev.end k1 k2
    · intro f M1 p M3 f3 h1 h2 h3 f2 e1 e2 hle
      obtain ⟨p2, r2, k1, k2, k3⟩ := sm_stW h1 h2 e1 e2 hle
      match r2, k3 with
      | .inl (M4, f4), k3 =>
        obtain ⟨j1, j2, j3, j4⟩ := k3
        subst j1
        exact sm_Ev.step k1 k2 (h3 f4 j2 j3 j4)
    · intro f M1 p i as g v M3 h1 h2 h3 h4 h5 f2 e1 e2 hle
      obtain ⟨p2, r2, k1, k2, k3⟩ := sm_stW h1 h2 e1 e2 hle
      match r2, k3 with
      | .inr (.inr (i2, as2, g2)), k3 =>
        obtain ⟨j1, j2, j3, j4, j5⟩ := k3
        subst j1; subst j2
        exact sm_Ev.call k1 k2 h3 h4 (h5 (sm_rt g2 v) (by show g2.1 + 3 = g.1 + 3; rw [j3]) (by show v.toList ++ g2.2.2 = v.toList ++ g.2.2; rw [j4]) j5)
    · intro f M1 p i as g r M3 hh h1 h2 h3 h4 h5 h6 f2 e1 e2 hle
      obtain ⟨p2, r2, k1, k2, k3⟩ := sm_stW h1 h2 e1 e2 hle
      match r2, k3 with
      | .inr (.inr (i2, as2, g2)), k3 =>
        obtain ⟨j1, j2, j3, j4, j5⟩ := k3
        subst j1; subst j2
        exact sm_Ev.callC k1 k2 h3 h4 (by rw [j3]; exact h5) (h6 (hh, g2.2.1, [.ref r]) rfl rfl j5)
    · intro f M1 p i as g r M3 h1 h2 h3 h4 h5 h6 h7 f2 e1 e2 hle
      obtain ⟨p2, r2, k1, k2, k3⟩ := sm_stW h1 h2 e1 e2 hle
      match r2, k3 with
      | .inr (.inr (i2, as2, g2)), k3 =>
        obtain ⟨j1, j2, j3, j4, j5⟩ := k3
        subst j1; subst j2; subst h6; subst h7
        exact sm_Ev.callT k1 k2 h3 h4 h5
/-- rows by rising places -/
def sm_srt : List sm_C → Bool
  | [] => true
  | a :: r => r.all (fun b => decide (a.1 < b.1)) && sm_srt r
theorem sm_findS : ∀ (l : List sm_C) (k : Nat) (q : sm_C) (r : List sm_C), sm_srt l = true → l.drop k = q :: r → l.find? (fun x => x.1 == q.1) = some q
  | [], k, q, r, _, h => by simp at h
  | a :: l, 0, q, r, _, h => by
    cases h
    simp
  | a :: l, k + 1, q, r, hs, h => by
    unfold sm_srt at hs
    rw [Bool.and_eq_true, List.all_eq_true] at hs
    have h2 : l.drop k = q :: r := h
    have hm : q ∈ l := List.mem_of_mem_drop (i := k) (by rw [h2]; exact List.mem_cons_self)
    have hlt := of_decide_eq_true (hs.1 q hm)
    rw [List.find?_cons, beq_eq_false_iff_ne.mpr (Nat.ne_of_lt hlt)]
    exact sm_findS l k q r hs.2 h2
def sm_hd (hs : List sm_X) (rows : List sm_C) (M : sm_M) (f : sm_F) : Option sm_R := match rows with
  | [] => none
  | q :: _ => if q.1 = f.1 then sm_ex hs 23 M f.1 f.2.1 f.2.2 q.2.1 q.2.2.1 q.2.2.2.1 q.2.2.2.2.1 q.2.2.2.2.2 else none
def sm_run (hs : List sm_X) : List sm_C → Nat → sm_M → sm_F → Option (Prop × sm_M × sm_F)
  | _, 0, M, f => some (True, M, f)
  | rows, n + 1, M, f => match sm_hd hs rows M f with
    | some (p, .inl (M2, f2)) => match sm_run hs rows.tail n M2 f2 with
      | some (p2, x) => some (p ∧ p2, x)
      | none => none
    | _ => none
theorem sm_hdS {mi k : Nat} {M : sm_M} {f : sm_F} {x : sm_R} {T : Nat × List sm_C × List sm_X} (hT : sP mi = T) (hs : sm_srt T.2.1 = true) (h : sm_hd T.2.2 (T.2.1.drop k) M f = some x) : sm_st sP 23 mi M f = some x := by
  unfold sm_hd at h
  split at h
  · cases h
  · rename_i q r hd
    split at h
    · rename_i hpc
      have hf := sm_findS T.2.1 k q r hs hd
      unfold sm_st
      rw [hT, ← hpc, hf]
      rw [← hpc] at h
      exact h
    · cases h
/-- what method mi comes to from a frame: it ends so that Q -/
def sm_w (mi : Nat) (f : sm_F) (M : sm_M) (Q : Outcome → sm_M → Prop) : Prop := ∃ o M2, sm_Ev sP 23 (sH mi) mi f M o M2 ∧ Q o M2
theorem sm_w.mono {mi : Nat} {f : sm_F} {M : sm_M} {Q Q2 : Outcome → sm_M → Prop} (h : sm_w mi f M Q) (hq : ∀ o M2, Q o M2 → Q2 o M2) : sm_w mi f M Q2 := by
  obtain ⟨o, M2, h1, h2⟩ := h
  exact ⟨o, M2, h1, hq _ _ h2⟩
theorem sm_w.weak {mi pc : Nat} {ls la : List (Option Value)} {st : List Value} {M : sm_M} {Q : Outcome → sm_M → Prop} (hle : sm_le la ls) (h : sm_w mi (pc, ls, st) M Q) : sm_w mi (pc, la, st) M Q := by
  obtain ⟨o, M2, h1, h2⟩ := h
  exact ⟨o, M2, sm_Ev.weak (f := (pc, ls, st)) (f2 := (pc, la, st)) rfl rfl hle h1, h2⟩
theorem sm_w.run {mi : Nat} {T : Nat × List sm_C × List sm_X} (hT : sP mi = T) (hs : sm_srt T.2.1 = true) (k n : Nat) {f f2 : sm_F} {M M2 : sm_M} {p : Prop} {Q : Outcome → sm_M → Prop} (h : sm_run T.2.2 (T.2.1.drop k) n M f = some (p, M2, f2)) (hp : p) (kk : sm_w mi f2 M2 Q) : sm_w mi f M Q := by
  obtain ⟨o, M3, h1, h2⟩ := kk
  refine ⟨o, M3, ?_, h2⟩
  induction n generalizing k f M p with
  | zero => cases h; exact h1
  | succ n ih =>
    unfold sm_run at h
    split at h
    · rename_i p1 M1 f1 hd
      split at h
      · rename_i p2 x hr
        cases h
        have hst := sm_hdS hT hs hd
        rw [List.tail_drop] at hr
        have hk := ih (k + 1) hr hp.2
        revert hk
        generalize sH mi = dd
        intro hk
        match dd, hk with
        | 0, hk => exact hk.elim
        | dd + 1, hk => exact sm_Ev.step hst hp.1 hk
      · cases h
    · cases h
theorem sm_w.end {mi : Nat} {T : Nat × List sm_C × List sm_X} (hT : sP mi = T) (hs : sm_srt T.2.1 = true) (k : Nat) {f : sm_F} {M M2 : sm_M} {o : Outcome} {p : Prop} {Q : Outcome → sm_M → Prop} (h : sm_hd T.2.2 (T.2.1.drop k) M f = some (p, .inr (.inl (o, M2)))) (hp : p) (hpos : 0 < sH mi) (hq : Q o M2) : sm_w mi f M Q := by
  refine ⟨o, M2, ?_, hq⟩
  obtain ⟨dd, hd⟩ : ∃ dd, sH mi = dd + 1 := ⟨sH mi - 1, by omega⟩
  rw [hd]
  exact sm_Ev.end (sm_hdS hT hs h) hp
theorem sm_w.call {mi : Nat} {T : Nat × List sm_C × List sm_X} (hT : sP mi = T) (hs : sm_srt T.2.1 = true) (k : Nat) {f : sm_F} {M : sm_M} {p : Prop} {i : Nat} {as : List Value} {g : sm_F} {Q : Outcome → sm_M → Prop} (h : sm_hd T.2.2 (T.2.1.drop k) M f = some (p, .inr (.inr (i, as, g)))) (hp : p) (hn : (sm_la as).length ≤ (sP i).1) (hh : sH i < sH mi)
    (hc : sm_w i (sm_in sP i as) M (fun o M2 => (∃ v, o = .returned v ∧ sm_w mi (sm_rt g v) M2 Q) ∨ (∃ r, o = .threw r ∧ T.2.2 = [] ∧ Q (.threw r) M2) ∨ (∃ r hd, o = .threw r ∧ sm_ct T.2.2 g.1 (sm_kd M2 r) = some hd ∧ sm_w mi (hd, g.2.1, [.ref r]) M2 Q))) : sm_w mi f M Q := by
  obtain ⟨o, M2, h1, h2⟩ := hc
  have hst := sm_hdS hT hs h
  obtain ⟨dd, hd⟩ : ∃ dd, sH mi = dd + 1 := ⟨sH mi - 1, by omega⟩
  have h3 := sm_Ev.mono (sH i) dd i _ M o M2 (by omega) h1
  rcases h2 with ⟨v, rfl, o2, M3, h4, h5⟩ | ⟨r, rfl, h4, h5⟩ | ⟨r, hh2, rfl, h4, o2, M3, h5, h6⟩
  · refine ⟨o2, M3, ?_, h5⟩
    rw [hd] at h4 ⊢
    exact sm_Ev.call hst hp hn h3 h4
  · refine ⟨_, _, ?_, h5⟩
    rw [hd]
    exact sm_Ev.callT hst hp hn h3 (by rw [hT]; exact h4)
  · refine ⟨o2, M3, ?_, h6⟩
    rw [hd] at h5 ⊢
    exact sm_Ev.callC hst hp hn h3 (by rw [hT]; exact h4) h5
theorem sm_w.ite {mi pa pb : Nat} {ls : List (Option Value)} {st : List Value} {M : sm_M} {Q : Outcome → sm_M → Prop} {c : Prop} {dc : Decidable c} (h1 : c → sm_w mi (pa, ls, st) M Q) (h2 : ¬ c → sm_w mi (pb, ls, st) M Q) : sm_w mi (@ite Nat c dc pa pb, ls, st) M Q := by
  by_cases hc : c
  · rw [if_pos hc]; exact h1 hc
  · rw [if_neg hc]; exact h2 hc
theorem sm_w.fld {mi pc r k c : Nat} {ls : List (Option Value)} {st : List Value} {M M1 : sm_M} {Q : Outcome → sm_M → Prop} (h : sm_rv M1 r k = some c) (kk : sm_w mi (pc, ls, .ref c :: st) M Q) : sm_w mi (pc, ls, va_rf (sm_rv M1 r k) :: st) M Q := by
  rw [h]; exact kk
/-- calls: of nothing, an int, a long; with what a throw leads to -/
def rV (K : sm_M → Prop) (o : Outcome) (M2 : sm_M) : Prop := o = .returned none ∧ K M2
def rI (K : Int32 → sm_M → Prop) (o : Outcome) (M2 : sm_M) : Prop := ∃ v, o = .returned (some (.int v)) ∧ K v M2
def rJ (K : Int64 → sm_M → Prop) (o : Outcome) (M2 : sm_M) : Prop := ∃ v, o = .returned (some (.long v)) ∧ K v M2
def yV (X : Nat → sm_M → Prop) (K : sm_M → Prop) (o : Outcome) (M2 : sm_M) : Prop := (∃ r, o = .threw r ∧ X r M2) ∨ (o = .returned none ∧ K M2)
def yI (X : Nat → sm_M → Prop) (K : Int32 → sm_M → Prop) (o : Outcome) (M2 : sm_M) : Prop := (∃ r, o = .threw r ∧ X r M2) ∨ (∃ v, o = .returned (some (.int v)) ∧ K v M2)
def yJ (X : Nat → sm_M → Prop) (K : Int64 → sm_M → Prop) (o : Outcome) (M2 : sm_M) : Prop := (∃ r, o = .threw r ∧ X r M2) ∨ (∃ v, o = .returned (some (.long v)) ∧ K v M2)
def sm_cV (i : Nat) (as : List Value) (M : sm_M) (K : sm_M → Prop) : Prop := sm_w i (sm_in sP i as) M (rV K)
def sm_cI (i : Nat) (as : List Value) (M : sm_M) (K : Int32 → sm_M → Prop) : Prop := sm_w i (sm_in sP i as) M (rI K)
def sm_cJ (i : Nat) (as : List Value) (M : sm_M) (K : Int64 → sm_M → Prop) : Prop := sm_w i (sm_in sP i as) M (rJ K)
def sm_xV (i : Nat) (as : List Value) (M : sm_M) (X : Nat → sm_M → Prop) (K : sm_M → Prop) : Prop := sm_w i (sm_in sP i as) M (yV X K)
def sm_xI (i : Nat) (as : List Value) (M : sm_M) (X : Nat → sm_M → Prop) (K : Int32 → sm_M → Prop) : Prop := sm_w i (sm_in sP i as) M (yI X K)
def sm_xJ (i : Nat) (as : List Value) (M : sm_M) (X : Nat → sm_M → Prop) (K : Int64 → sm_M → Prop) : Prop := sm_w i (sm_in sP i as) M (yJ X K)
section SMW
variable {mi : Nat} {T : Nat × List sm_C × List sm_X} {f g : sm_F} {M : sm_M} {p : Prop} {i : Nat} {as : List Value} {Q : Outcome → sm_M → Prop}
theorem sm_w.cV {K : sm_M → Prop} (hT : sP mi = T) (hs : sm_srt T.2.1 = true) (k : Nat) (h : sm_hd T.2.2 (T.2.1.drop k) M f = some (p, .inr (.inr (i, as, g)))) (hp : p) (hn : (sm_la as).length ≤ (sP i).1) (hh : sH i < sH mi) (hc : sm_cV i as M K) (kk : ∀ M2, K M2 → sm_w mi (g.1 + 3, g.2.1, g.2.2) M2 Q) : sm_w mi f M Q := sm_w.call hT hs k h hp hn hh (hc.mono fun o M2 q => Or.inl ⟨none, q.1, kk M2 q.2⟩)
theorem sm_w.cI {K : Int32 → sm_M → Prop} (hT : sP mi = T) (hs : sm_srt T.2.1 = true) (k : Nat) (h : sm_hd T.2.2 (T.2.1.drop k) M f = some (p, .inr (.inr (i, as, g)))) (hp : p) (hn : (sm_la as).length ≤ (sP i).1) (hh : sH i < sH mi) (hc : sm_cI i as M K) (kk : ∀ v M2, K v M2 → sm_w mi (g.1 + 3, g.2.1, .int v :: g.2.2) M2 Q) : sm_w mi f M Q := sm_w.call hT hs k h hp hn hh (hc.mono fun o M2 q => by
  obtain ⟨v, q1, q2⟩ := q
  exact Or.inl ⟨_, q1, kk v M2 q2⟩)
theorem sm_w.cJ {K : Int64 → sm_M → Prop} (hT : sP mi = T) (hs : sm_srt T.2.1 = true) (k : Nat) (h : sm_hd T.2.2 (T.2.1.drop k) M f = some (p, .inr (.inr (i, as, g)))) (hp : p) (hn : (sm_la as).length ≤ (sP i).1) (hh : sH i < sH mi) (hc : sm_cJ i as M K) (kk : ∀ v M2, K v M2 → sm_w mi (g.1 + 3, g.2.1, .long v :: g.2.2) M2 Q) : sm_w mi f M Q := sm_w.call hT hs k h hp hn hh (hc.mono fun o M2 q => by
  obtain ⟨v, q1, q2⟩ := q
  exact Or.inl ⟨_, q1, kk v M2 q2⟩)
theorem sm_w.xV {K : sm_M → Prop} (hT : sP mi = T) (hs : sm_srt T.2.1 = true) (k : Nat) (h : sm_hd T.2.2 (T.2.1.drop k) M f = some (p, .inr (.inr (i, as, g)))) (hp : p) (hn : (sm_la as).length ≤ (sP i).1) (hh : sH i < sH mi) (hno : T.2.2 = []) (hc : sm_xV i as M (fun r M2 => Q (.threw r) M2) K) (kk : ∀ M2, K M2 → sm_w mi (g.1 + 3, g.2.1, g.2.2) M2 Q) : sm_w mi f M Q := sm_w.call hT hs k h hp hn hh (hc.mono fun o M2 q => by
  rcases q with ⟨r, q1, q2⟩ | ⟨q1, q2⟩
  · exact Or.inr (Or.inl ⟨r, q1, hno, q2⟩)
  · exact Or.inl ⟨_, q1, kk M2 q2⟩)
theorem sm_w.xI {K : Int32 → sm_M → Prop} (hT : sP mi = T) (hs : sm_srt T.2.1 = true) (k : Nat) (h : sm_hd T.2.2 (T.2.1.drop k) M f = some (p, .inr (.inr (i, as, g)))) (hp : p) (hn : (sm_la as).length ≤ (sP i).1) (hh : sH i < sH mi) (hno : T.2.2 = []) (hc : sm_xI i as M (fun r M2 => Q (.threw r) M2) K) (kk : ∀ v M2, K v M2 → sm_w mi (g.1 + 3, g.2.1, .int v :: g.2.2) M2 Q) : sm_w mi f M Q := sm_w.call hT hs k h hp hn hh (hc.mono fun o M2 q => by
  rcases q with ⟨r, q1, q2⟩ | ⟨v, q1, q2⟩
  · exact Or.inr (Or.inl ⟨r, q1, hno, q2⟩)
  · exact Or.inl ⟨_, q1, kk v M2 q2⟩)
theorem sm_w.xJ {K : Int64 → sm_M → Prop} (hT : sP mi = T) (hs : sm_srt T.2.1 = true) (k : Nat) (h : sm_hd T.2.2 (T.2.1.drop k) M f = some (p, .inr (.inr (i, as, g)))) (hp : p) (hn : (sm_la as).length ≤ (sP i).1) (hh : sH i < sH mi) (hno : T.2.2 = []) (hc : sm_xJ i as M (fun r M2 => Q (.threw r) M2) K) (kk : ∀ v M2, K v M2 → sm_w mi (g.1 + 3, g.2.1, .long v :: g.2.2) M2 Q) : sm_w mi f M Q := sm_w.call hT hs k h hp hn hh (hc.mono fun o M2 q => by
  rcases q with ⟨r, q1, q2⟩ | ⟨v, q1, q2⟩
  · exact Or.inr (Or.inl ⟨r, q1, hno, q2⟩)
  · exact Or.inl ⟨_, q1, kk v M2 q2⟩)
end SMW
def sQl : List Bool := [false, false, false, false, false, false, true, false, false, true, false, true, false, false, true, true, true, false, true, true, true, false, true, false, false, true, true, true, true, true, true, true, true, true, true, true, true, true, true, true, true, true, true, true, true, true, true, true, true, true, true, true, true, true, true, false, false, true, true, true, true, true, true, true, true, true, true, true, true, true, true, true, true, true, true, true, false, true, true, true, true, true, true, true, true, false, false, true, true, true, true, true, true, true, true, true, true, true, true, true, true, true, true, true, true, true, true, true, true, true, true, true, true, true, true, true, true, true, true, true, true, true, true, true, true, true, true, true, false, true, true, false, true, false, true, true, true, true, false, true, true, true, true, false, true, true, false, true, true, true, true, false, true, true, false, true, false, true, false, true, false, true, true, true, true, true, true, true, true, true, true, true, true, true, true, true, true, true, true, true, true, true, true, true, true, true, true, true, true, true, true, true, true, true, true, true, true, true, true, true, true, true, true, true, true, true, true, true, true, true, true, true, true, true, true, true, true, true, true, true, true, true, true, true, true, false]
/-! QUIET methods: they make no cell and set no reference. -/
def sm_sh (A B : sm_M) : Prop := B.1 = A.1 ∧ B.2.1 = A.2.1 ∧ sm_kd B = sm_kd A ∧ sm_ln B = sm_ln A ∧ sm_rv B = sm_rv A
theorem sm_sh.rf (A : sm_M) : sm_sh A A := ⟨rfl, rfl, rfl, rfl, rfl⟩
theorem sm_sh.tr {A B C : sm_M} (h : sm_sh A B) (k : sm_sh B C) : sm_sh A C := ⟨k.1.trans h.1, k.2.1.trans h.2.1, k.2.2.1.trans h.2.2.1, k.2.2.2.1.trans h.2.2.2.1, k.2.2.2.2.trans h.2.2.2.2⟩
theorem sm_sh.wI {A B : sm_M} (h : sm_sh A B) (r k : Nat) (x : Int32) : sm_sh A (sm_wI B r k x) := h
theorem sm_sh.wJ {A B : sm_M} (h : sm_sh A B) (r k : Nat) (x : Int64) : sm_sh A (sm_wJ B r k x) := h
theorem sm_sh.cp {A B : sm_M} (h : sm_sh A B) (s d sp dp n : Nat) : sm_sh A (sm_cp B s d sp dp n) := h
def sm_qI (ins : Jvm.ClassFile.Instr) (a c : Nat) : Bool := match ins with
  | .newarray _ => false
  | .new _ => decide (32 ≤ a)
  | .putfield _ => c != 2
  | _ => true
theorem sm_exQ {hs : List sm_X} {E : Nat} {M : sm_M} {pc : Nat} {ls : List (Option Value)} {st : List Value} {ins : Jvm.ClassFile.Instr} {n a b c : Nat} {P : Prop} {M2 : sm_M} {f2 : sm_F} (h : sm_ex hs E M pc ls st ins n a b c = some (P, .inl (M2, f2))) (hP : P) (hq : sm_qI ins a c = true) : sm_sh M M2 := by
  have r0 := sm_sh.rf M
  unfold sm_ex at h
  split at h <;> (try unfold sm_lI at h) <;> (try unfold sm_lJ at h) <;> (try unfold sm_lA at h) <;> (try unfold sm_tI at h) <;> (try unfold sm_tJ at h) <;> (try unfold sm_tA at h) <;> (try unfold sm_2I at h) <;> (try unfold sm_2J at h) <;> (try unfold sm_sJ at h) <;> (try unfold sm_1I at h) <;> (try unfold sm_call at h) <;> (repeat' split at h) <;> first
    | (cases h; done)
    | (cases h; exact r0)
    | (cases h; exact ⟨rfl, rfl, rfl, rfl, rfl⟩)
    | (cases h; exact absurd hq (by change ¬ false = true; decide))
    | (rename_i hlt; cases h; exact absurd (of_decide_eq_true (show decide (32 ≤ a) = true from hq)) hlt)
    | (cases h; exfalso; have h2 := hP.2.2.2; subst h2; exact absurd hq (by change ¬ false = true; decide))
theorem sm_exR {hs : List sm_X} {E : Nat} {M : sm_M} {pc : Nat} {ls : List (Option Value)} {st : List Value} {ins : Jvm.ClassFile.Instr} {n a b c : Nat} {P : Prop} {M2 : sm_M} {v : Option Value} (h : sm_ex hs E M pc ls st ins n a b c = some (P, .inr (.inl (.returned v, M2)))) : M2 = M := by
  unfold sm_ex at h
  split at h <;> (try unfold sm_lI at h) <;> (try unfold sm_lJ at h) <;> (try unfold sm_lA at h) <;> (try unfold sm_tI at h) <;> (try unfold sm_tJ at h) <;> (try unfold sm_tA at h) <;> (try unfold sm_2I at h) <;> (try unfold sm_2J at h) <;> (try unfold sm_sJ at h) <;> (try unfold sm_1I at h) <;> (try unfold sm_call at h) <;> (repeat' split at h) <;> first
    | (cases h; done)
    | (cases h; rfl)
def sm_qR (Qs : Nat → Bool) (q : sm_C) : Bool := sm_qI q.2.1 q.2.2.2.1 q.2.2.2.2.2 && (match q.2.1 with
  | .invokestatic _ => Qs q.2.2.2.2.1 || (decide (1 ≤ q.2.2.2.1) && decide (q.2.2.2.1 < 16))
  | .invokevirtual _ => Qs q.2.2.2.2.1 || (decide (1 ≤ q.2.2.2.1) && decide (q.2.2.2.1 < 16))
  | .invokespecial _ => Qs q.2.2.2.2.1 || (decide (1 ≤ q.2.2.2.1) && decide (q.2.2.2.1 < 16))
  | _ => true)
theorem sm_qC {hs : List sm_X} {E : Nat} {M : sm_M} {pc : Nat} {ls : List (Option Value)} {st : List Value} {q : sm_C} {P : Prop} {i : Nat} {as : List Value} {g : sm_F} {Qs : Nat → Bool} (h : sm_ex hs E M pc ls st q.2.1 q.2.2.1 q.2.2.2.1 q.2.2.2.2.1 q.2.2.2.2.2 = some (P, .inr (.inr (i, as, g)))) (hP : P) (hq : sm_qR Qs q = true) : Qs i = true := by
  obtain ⟨hins, hcall⟩ := sm_exC h
  unfold sm_qR at hq
  rw [Bool.and_eq_true] at hq
  have h2 : (Qs q.2.2.2.2.1 || (decide (1 ≤ q.2.2.2.1) && decide (q.2.2.2.1 < 16))) = true := by
    rcases hins with ⟨k, hk⟩ | ⟨k, hk⟩ | ⟨k, hk⟩ <;> (have h3 := hq.2; rw [hk] at h3; exact h3)
  rw [Bool.or_eq_true, Bool.and_eq_true, decide_eq_true_eq, decide_eq_true_eq] at h2
  rcases sm_callE hcall with ⟨e1, e2, -, -, -⟩ | ⟨r, rr, -, e2, -, -, e5⟩
  · rw [e2]
    rcases h2 with h2 | h2
    · exact h2
    · omega
  · rw [e2]
    rcases h2 with h2 | h2
    · exact h2
    · subst e5
      have := hP.1
      omega
def sQ (i : Nat) : Bool := sm_nth false sQl i
theorem sQ_all : (List.range 226).all (fun mi => !sQ mi || ((sP mi).2.2.isEmpty && (sP mi).2.1.all (sm_qR sQ))) = true := by decide +kernel
theorem sQ_ok {mi : Nat} (h : sQ mi = true) : (sP mi).2.2 = [] ∧ ∀ q ∈ (sP mi).2.1, sm_qR sQ q = true := by
  have hlt : mi < 226 := by
    rcases Nat.lt_or_ge mi 226 with z | z
    · exact z
    · have e : sQ mi = false := sm_nthO _ _ _ (by show 226 ≤ mi; exact z)
      rw [e] at h; cases h
  have h1 := List.all_eq_true.mp sQ_all mi (List.mem_range.mpr hlt)
  rw [h] at h1
  simp only [Bool.not_true, Bool.false_or, Bool.and_eq_true, List.isEmpty_iff, List.all_eq_true] at h1
  exact h1
theorem sm_quiet : ∀ (d mi : Nat) (f : sm_F) (M : sm_M) (v : Option Value) (M2 : sm_M), sQ mi = true → sm_Ev sP 23 d mi f M (.returned v) M2 → sm_sh M M2 := by
  intro d
  induction d with
  | zero => intro mi f M v M2 _ h; exact h.elim
  | succ d ih =>
    intro mi f M v M2 hq h
    obtain ⟨q1, q2⟩ := sQ_ok hq
    refine h (fun _ M => sm_sh M M2) ?_ ?_ ?_ ?_ ?_
    · intro f M1 p hst hp
      obtain ⟨q, hq, hpc, hex⟩ := sm_stE hst
      rw [sm_exR hex]
      exact sm_sh.rf _
    · intro f M1 p M3 f3 hst hp hrec
      obtain ⟨q, hq, hpc, hex⟩ := sm_stE hst
      have h1 := q2 q hq
      unfold sm_qR at h1
      rw [Bool.and_eq_true] at h1
      exact (sm_exQ hex hp h1.1).tr hrec
    · intro f M1 p i as g v M3 hst hp hn hc hrec
      obtain ⟨q, hq, hpc, hex⟩ := sm_stE hst
      exact (ih i _ M1 v M3 (sm_qC hex hp (q2 q hq)) hc).tr hrec
    · intro f M1 p i as g r M3 hd hst hp hn hc hct hrec
      rw [q1] at hct
      cases hct
    · intro f M1 p i as g r M3 hst hp hn hc hno ho hM
      cases ho
theorem sm_w.quiet {mi : Nat} {f : sm_F} {M : sm_M} {Q : Outcome → sm_M → Prop} (hq : sQ mi = true) (h : sm_w mi f M Q) : sm_w mi f M (fun o M2 => (∀ v, o = .returned v → sm_sh M M2) ∧ Q o M2) := by
  obtain ⟨o, M2, h1, h2⟩ := h
  exact ⟨o, M2, h1, fun v hv => by subst hv; exact sm_quiet _ _ _ _ _ _ hq h1, h2⟩
theorem sm_cV.q {i : Nat} {as : List Value} {M : sm_M} {K : sm_M → Prop} (hq : sQ i = true) (h : sm_cV i as M K) : sm_cV i as M (fun M2 => sm_sh M M2 ∧ K M2) := (sm_w.quiet hq h).mono fun o M2 z => ⟨z.2.1, z.1 _ z.2.1, z.2.2⟩
theorem sm_cI.q {i : Nat} {as : List Value} {M : sm_M} {K : Int32 → sm_M → Prop} (hq : sQ i = true) (h : sm_cI i as M K) : sm_cI i as M (fun v M2 => sm_sh M M2 ∧ K v M2) := (sm_w.quiet hq h).mono fun o M2 z => by
  obtain ⟨z1, v, z2, z3⟩ := z
  exact ⟨v, z2, z1 _ z2, z3⟩
theorem sm_cJ.q {i : Nat} {as : List Value} {M : sm_M} {K : Int64 → sm_M → Prop} (hq : sQ i = true) (h : sm_cJ i as M K) : sm_cJ i as M (fun v M2 => sm_sh M M2 ∧ K v M2) := (sm_w.quiet hq h).mono fun o M2 z => by
  obtain ⟨z1, v, z2, z3⟩ := z
  exact ⟨v, z2, z1 _ z2, z3⟩
theorem sm_xV.q {i : Nat} {as : List Value} {M : sm_M} {X : Nat → sm_M → Prop} {K : sm_M → Prop} (hq : sQ i = true) (h : sm_xV i as M X K) : sm_xV i as M X (fun M2 => sm_sh M M2 ∧ K M2) := (sm_w.quiet hq h).mono fun o M2 z => by
  obtain ⟨z1, z2 | ⟨z2, z3⟩⟩ := z
  · exact Or.inl z2
  · exact Or.inr ⟨z2, z1 _ z2, z3⟩
theorem sm_xI.q {i : Nat} {as : List Value} {M : sm_M} {X : Nat → sm_M → Prop} {K : Int32 → sm_M → Prop} (hq : sQ i = true) (h : sm_xI i as M X K) : sm_xI i as M X (fun v M2 => sm_sh M M2 ∧ K v M2) := (sm_w.quiet hq h).mono fun o M2 z => by
  obtain ⟨z1, z2 | ⟨v, z2, z3⟩⟩ := z
  · exact Or.inl z2
  · exact Or.inr ⟨v, z2, z1 _ z2, z3⟩
theorem sm_xJ.q {i : Nat} {as : List Value} {M : sm_M} {X : Nat → sm_M → Prop} {K : Int64 → sm_M → Prop} (hq : sQ i = true) (h : sm_xJ i as M X K) : sm_xJ i as M X (fun v M2 => sm_sh M M2 ∧ K v M2) := (sm_w.quiet hq h).mono fun o M2 z => by
  obtain ⟨z1, z2 | ⟨v, z2, z3⟩⟩ := z
  · exact Or.inl z2
  · exact Or.inr ⟨v, z2, z1 _ z2, z3⟩
/-- an own cell of a kind; a place of it; what they give where the shape is the same -/
def sm_K (M : sm_M) (q k : Nat) : Prop := 23 ≤ q ∧ q < M.1 ∧ sm_kd M q = k
theorem sm_K.g {B M : sm_M} {q k : Nat} (h : sm_K B q k) (s : sm_sh B M) : q < M.1 ∧ sm_kd M q = k := ⟨by rw [s.1]; exact h.2.1, by rw [s.2.2.1]; exact h.2.2⟩
theorem sm_K.g1 {B M : sm_M} {q k : Nat} (h : sm_K B q k) (s : sm_sh B M) : q < M.1 := (h.g s).1
theorem sm_K.p {B M : sm_M} {q k : Nat} (h : sm_K B q k) (s : sm_sh B M) : 23 ≤ q ∧ q < M.1 ∧ sm_kd M q = k := ⟨h.1, h.g s⟩
theorem sm_K.l {B M : sm_M} {q k : Nat} (h : sm_K B q k) (s : sm_sh B M) (hk : k < 16) : q < M.1 ∧ (sm_kd M q < 16 ∨ (60 ≤ sm_kd M q ∧ sm_kd M q < 65)) := ⟨(h.g s).1, Or.inl (by rw [(h.g s).2]; exact hk)⟩
theorem sm_K.a {B M : sm_M} {q k : Nat} {i : Int32} (h : sm_K B q k) (s : sm_sh B M) (hi : vp_in i (sm_ln B q)) : sm_ai M 0 k q i := ⟨Nat.zero_le _, (h.g s).1, (h.g s).2, by rw [s.2.2.2.1]; exact hi⟩
theorem sm_K.s {B M : sm_M} {q k : Nat} {i : Int32} (h : sm_K B q k) (s : sm_sh B M) (hi : vp_in i (sm_ln B q)) : sm_ai M 23 k q i := ⟨h.1, (h.g s).1, (h.g s).2, by rw [s.2.2.2.1]; exact hi⟩
theorem sm_sh.ln {B M : sm_M} (s : sm_sh B M) (q : Nat) : sm_ln M q = sm_ln B q := by rw [s.2.2.2.1]
theorem sm_sh.rv {B M : sm_M} (s : sm_sh B M) {r k c : Nat} (h : sm_rv B r k = some c) : sm_rv M r k = some c := by rw [s.2.2.2.2]; exact h
def sm_msk : List Bool → List (Option Value) → List (Option Value)
  | b :: bs, x :: xs => (match b with | true => x | false => none) :: sm_msk bs xs
  | _, xs => xs
theorem sm_mskL : ∀ (bs : List Bool) (xs : List (Option Value)), (sm_msk bs xs).length = xs.length
  | [], _ => rfl
  | _ :: _, [] => rfl
  | b :: bs, x :: xs => by unfold sm_msk; rw [List.length_cons, List.length_cons, sm_mskL bs xs]
theorem sm_mskG : ∀ (bs : List Bool) (xs : List (Option Value)) (i : Nat) (v : Value), (sm_msk bs xs)[i]? = some (some v) → xs[i]? = some (some v)
  | [], _, _, _, h => h
  | _ :: _, [], _, _, h => h
  | b :: bs, x :: xs, 0, v, h => by
    unfold sm_msk at h
    cases b with
    | true => exact h
    | false => cases h
  | b :: bs, x :: xs, i + 1, v, h => by
    unfold sm_msk at h
    exact sm_mskG bs xs i v h
theorem sm_leI {la ls : List (Option Value)} (bs : List Bool) (h : sm_msk bs la = ls) : sm_le la ls := by
  subst h
  exact ⟨(sm_mskL bs la).symm, sm_mskG bs la⟩
theorem sm_cpK {B M : sm_M} {s d : Nat} {sp dp n : Int32} (hd : sm_K B d 1) (hs : sm_K B s 1) (h : sm_sh B M) (c : s ≠ d ∧ ¬ sp < 0 ∧ ¬ dp < 0 ∧ ¬ n < 0 ∧ sp.toNatClampNeg + n.toNatClampNeg ≤ sm_ln B s ∧ dp.toNatClampNeg + n.toNatClampNeg ≤ sm_ln B d ∧ ∀ i, i < n.toNatClampNeg → fits .byte (.int (sm_iv M s (sp.toNatClampNeg + i))) = true) :
    23 ≤ d ∧ 23 ≤ s ∧ d < M.1 ∧ s < M.1 ∧ s ≠ d ∧ sm_kd M s = 1 ∧ sm_kd M d = 1 ∧ ¬ sp < 0 ∧ ¬ dp < 0 ∧ ¬ n < 0 ∧ sp.toNatClampNeg + n.toNatClampNeg ≤ sm_ln M s ∧ dp.toNatClampNeg + n.toNatClampNeg ≤ sm_ln M d ∧ ∀ i, i < n.toNatClampNeg → fits .byte (.int (sm_iv M s (sp.toNatClampNeg + i))) = true := by
  obtain ⟨c1, c2, c3, c4, c5, c6, c7⟩ := c
  exact ⟨hd.1, hs.1, (hd.g h).1, (hs.g h).1, c1, (hs.g h).2, (hd.g h).2, c2, c3, c4, by rw [h.ln]; exact c5, by rw [h.ln]; exact c6, c7⟩
theorem sm_i32 {x : Int32} {i : Nat} (hi : i < 1000) (h : x.toInt = (i : Int)) : x = Int32.ofNat i := by
  apply Int32.toInt_inj.mp
  rw [h, Int32.toInt_ofNat_of_lt (by omega)]
section SMV
variable {mi : Nat} {T : Nat × List sm_C × List sm_X} {M : sm_M} {Q : Outcome → sm_M → Prop}
theorem sm_w.tsw (hT : sP mi = T) (hs : sm_srt T.2.1 = true) (k m : Nat) {x : Int32} {pc n a b c : Nat} {d hi : Int} {offs : Array Int} {ls : List (Option Value)} {st : List Value} {r : List sm_C} (hr : T.2.1.drop k = (pc, .tableswitch d 0 hi offs, n, a, b, c) :: r) (hm : hi = (m : Int) ∧ offs.size = m + 1 ∧ m < 900) (h0 : (x < 0 ∨ Int32.ofNat m < x) → sm_w mi (sm_tg pc d, ls, st) M Q) (h1 : ∀ i, i < m + 1 → x = Int32.ofNat i → sm_w mi (sm_tg pc (offs.getD i 0), ls, st) M Q) : sm_w mi (pc, ls, .int x :: st) M Q := by
  obtain ⟨rfl, hm2, hm3⟩ := hm
  have hz : ∀ (y : Nat), y < 1000 → (Int32.ofNat y).toInt = (y : Int) := fun y hy => Int32.toInt_ofNat_of_lt (by omega)
  have hst : ∀ (f2 : sm_F) (p : Prop), p → sm_ex T.2.2 23 M pc ls (.int x :: st) (.tableswitch d 0 m offs) n a b c = some (p, .inl (M, f2)) → sm_w mi f2 M Q → sm_w mi (pc, ls, .int x :: st) M Q := by
    intro f2 p hp hex hk
    refine sm_w.run hT hs k 1 (p := p ∧ True) (M2 := M) (f2 := f2) ?_ ⟨hp, trivial⟩ hk
    unfold sm_run sm_hd
    rw [hr]
    simp only [if_true]
    rw [hex]
    rfl
  by_cases hc : x.toInt < 0 ∨ (m : Int) < x.toInt
  · refine hst (sm_tg pc d, ls, st) (x.toInt < 0 ∨ (m : Int) < x.toInt ∨ (offs[(x.toInt - 0).toNat]?).isSome = true) (by rcases hc with z | z; exact Or.inl z; exact Or.inr (Or.inl z)) (by
      show sm_by _ M (if x.toInt < 0 ∨ (m : Int) < x.toInt then sm_tg pc d else _) ls st = _
      rw [if_pos hc]; rfl) (h0 ?_)
    rcases hc with z | z
    · exact Or.inl (Int32.lt_iff_toInt_lt.mpr (by simpa using z))
    · exact Or.inr (Int32.lt_iff_toInt_lt.mpr (by rw [hz m (by omega)]; exact z))
  · have hi : (x.toInt - 0).toNat < m + 1 := by omega
    refine hst (sm_tg pc (offs.getD (x.toInt - 0).toNat 0), ls, st) (x.toInt < 0 ∨ (m : Int) < x.toInt ∨ (offs[(x.toInt - 0).toNat]?).isSome = true) (Or.inr (Or.inr (by
      rw [Array.getElem?_eq_getElem (by omega)]; rfl))) (by
      show sm_by _ M (if x.toInt < 0 ∨ (m : Int) < x.toInt then sm_tg pc d else _) ls st = _
      rw [if_neg hc]; rfl) (h1 _ hi (sm_i32 (by omega) (by omega)))
theorem sm_w.lsw2 (hT : sP mi = T) (hs : sm_srt T.2.1 = true) (k : Nat) {x : Int32} {pc n a b c : Nat} {d o0 o1 : Int} {ls : List (Option Value)} {st : List Value} {r : List sm_C} (hr : T.2.1.drop k = (pc, .lookupswitch d #[(0, o0), (1, o1)], n, a, b, c) :: r) (h0 : x = 0 → sm_w mi (sm_tg pc o0, ls, st) M Q) (h1 : x = 1 → sm_w mi (sm_tg pc o1, ls, st) M Q) (h2 : ¬ x = 0 → ¬ x = 1 → sm_w mi (sm_tg pc d, ls, st) M Q) : sm_w mi (pc, ls, .int x :: st) M Q := by
  have hst : ∀ (f2 : sm_F), sm_ex T.2.2 23 M pc ls (.int x :: st) (.lookupswitch d #[(0, o0), (1, o1)]) n a b c = some (True, .inl (M, f2)) → sm_w mi f2 M Q → sm_w mi (pc, ls, .int x :: st) M Q := by
    intro f2 hex hk
    refine sm_w.run hT hs k 1 (p := True ∧ True) (M2 := M) (f2 := f2) ?_ ⟨trivial, trivial⟩ hk
    unfold sm_run sm_hd
    rw [hr]
    simp only [if_true]
    rw [hex]
    rfl
  have e : ∀ z, Op.lookupswitch.offset [(0, o0), (1, o1)] d z = if z = 0 then o0 else if z = 1 then o1 else d := fun z => by
    rw [Op.lookupswitch.offset_cons, Op.lookupswitch.offset_cons]
    show (if 0 = z then o0 else if 1 = z then o1 else d) = _
    by_cases z0 : z = 0
    · rw [if_pos z0.symm, if_pos z0]
    · rw [if_neg (fun w => z0 w.symm), if_neg z0]
      by_cases z1 : z = 1
      · rw [if_pos z1.symm, if_pos z1]
      · rw [if_neg (fun w => z1 w.symm), if_neg z1]
  have hx : ∀ (f2 : sm_F), f2 = (sm_tg pc (if x.toInt = 0 then o0 else if x.toInt = 1 then o1 else d), ls, st) → sm_w mi f2 M Q → sm_w mi (pc, ls, .int x :: st) M Q := fun f2 hf hk => hst f2 (by
    subst hf
    show sm_go M (sm_tg pc (Op.lookupswitch.offset [(0, o0), (1, o1)] d x.toInt)) ls st = _
    rw [e]; rfl) hk
  by_cases c0 : x = 0
  · exact hx _ (by rw [if_pos (by rw [c0]; rfl)]) (h0 c0)
  · have n0 : ¬ x.toInt = 0 := fun z => c0 (Int32.toInt_inj.mp (by rw [z]; rfl))
    by_cases c1 : x = 1
    · exact hx _ (by rw [if_neg n0, if_pos (by rw [c1]; rfl)]) (h1 c1)
    · have n1 : ¬ x.toInt = 1 := fun z => c1 (Int32.toInt_inj.mp (by rw [z]; rfl))
      exact hx _ (by rw [if_neg n0, if_neg n1]) (h2 c0 c1)
variable {f g : sm_F} {p : Prop} {i : Nat} {as : List Value} {X : Nat → sm_M → Prop}
theorem sm_w.yI {K : Int32 → sm_M → Prop} (hT : sP mi = T) (hs : sm_srt T.2.1 = true) (k : Nat) (h : sm_hd T.2.2 (T.2.1.drop k) M f = some (p, .inr (.inr (i, as, g)))) (hp : p) (hn : (sm_la as).length ≤ (sP i).1) (hh : sH i < sH mi) (hc : sm_xI i as M X K) (kx : ∀ r M2, X r M2 → ∃ hd, sm_ct T.2.2 g.1 (sm_kd M2 r) = some hd ∧ sm_w mi (hd, g.2.1, [.ref r]) M2 Q) (kk : ∀ v M2, K v M2 → sm_w mi (g.1 + 3, g.2.1, .int v :: g.2.2) M2 Q) : sm_w mi f M Q := sm_w.call hT hs k h hp hn hh (hc.mono fun o M2 q => by
  rcases q with ⟨r, q1, q2⟩ | ⟨v, q1, q2⟩
  · obtain ⟨hd, z1, z2⟩ := kx r M2 q2
    exact Or.inr (Or.inr ⟨r, hd, q1, z1, z2⟩)
  · exact Or.inl ⟨_, q1, kk v M2 q2⟩)
theorem sm_w.yJ {K : Int64 → sm_M → Prop} (hT : sP mi = T) (hs : sm_srt T.2.1 = true) (k : Nat) (h : sm_hd T.2.2 (T.2.1.drop k) M f = some (p, .inr (.inr (i, as, g)))) (hp : p) (hn : (sm_la as).length ≤ (sP i).1) (hh : sH i < sH mi) (hc : sm_xJ i as M X K) (kx : ∀ r M2, X r M2 → ∃ hd, sm_ct T.2.2 g.1 (sm_kd M2 r) = some hd ∧ sm_w mi (hd, g.2.1, [.ref r]) M2 Q) (kk : ∀ v M2, K v M2 → sm_w mi (g.1 + 3, g.2.1, .long v :: g.2.2) M2 Q) : sm_w mi f M Q := sm_w.call hT hs k h hp hn hh (hc.mono fun o M2 q => by
  rcases q with ⟨r, q1, q2⟩ | ⟨v, q1, q2⟩
  · obtain ⟨hd, z1, z2⟩ := kx r M2 q2
    exact Or.inr (Or.inr ⟨r, hd, q1, z1, z2⟩)
  · exact Or.inl ⟨_, q1, kk v M2 q2⟩)
end SMV
