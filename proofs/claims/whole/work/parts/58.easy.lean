/-! END, PLACE, CLEAR, COUNT. -/
def p24 : Nat → Nat → Prop := fun a k => a = 24 ∧ k = 1
theorem s22 {M : sm_M} {x : Int32} {tb : Nat → Nat} {tn : Nat} (hS : SH M) (hT : cY M 24 tb tn) : sm_xI 22 [.ref 23, .int (x)] M (fun r M2 => ¬ (¬ x < 0 ∧ x ≤ Int32.ofNat tn) ∧ r = M.1 ∧ M2 = sm_new M 48 6) (fun v M2 => (¬ x < 0 ∧ x ≤ Int32.ofNat tn) ∧ v = x ∧ (∃ n, n ≤ tn ∧ x = Int32.ofNat n ∧ cY M2 24 tb n) ∧ Fr p24 M M2) := by
  obtain ⟨t1, t2, t3⟩ := hT
  have t1 : tn ≤ 8192 := t1
  refine g22_0 hS ?_
  rw [t2]
  refine ⟨fun c => ⟨fun z => z.1 c, rfl, rfl⟩, fun c => ⟨fun c2 M1 s1 e1 => ?_, fun c2 => ⟨fun z => c2 z.2, rfl, rfl⟩⟩⟩
  obtain ⟨n, hn, hx⟩ := z_ps c
  subst hx
  have c3 := (o_le hn (by omega)).mp c2
  refine ⟨⟨c, c2⟩, rfl, ⟨n, c3, rfl, ?_⟩, ?_⟩
  · refine ⟨by show n ≤ 8192; omega, by rw [e1, iV_wI, if_pos ⟨rfl, rfl⟩], fun i hi => ?_⟩
    rw [e1, iV_wI, if_neg (by omega)]
    exact t3 i (by omega)
  · rw [e1]; exact (Fr.rf _ M).wI ⟨rfl, rfl⟩
def pm033 : Nat → Nat → Prop := fun a k => a = 116 ∧ (k = 0 ∨ k = 3)
theorem s165 {M : sm_M} {x : Int32} {tb : Nat → Nat} {tn : Nat} (hS : SH M) (hn : tn ≤ 8192) (hT : mT M tb tn) : sm_cI 165 [.ref 116, .int (x)] M (fun v M2 => (((¬ x < 0 ∧ x ≤ Int32.ofNat tn) ∧ iV M2 116 0 = 0 ∧ v = x ∧ iV M2 116 3 = x) ∨ (¬ (¬ x < 0 ∧ x ≤ Int32.ofNat tn) ∧ iV M2 116 0 = 1 ∧ iV M2 116 3 = Int32.ofNat tn)) ∧ Fr pm033 M M2) := by
  refine g165_0 hS ?_
  rw [show (0 : Int64) = (0 : Int32).toInt64 from rfl, p166_i, hT.1]
  refine ⟨fun c M4 s4 e4 => ⟨Or.inr ⟨c, ?_, ?_⟩, ?_⟩, fun c M6 s6 e6 M8 s8 e8 => ⟨Or.inl ⟨Classical.not_not.mp c, ?_, rfl, ?_⟩, ?_⟩⟩
  · grind [iV_wI]
  · have := hT.1
    grind [iV_wI]
  · rw [e4]; exact (Fr.rf _ M).wI ⟨rfl, Or.inl rfl⟩
  · grind [iV_wI]
  · grind [iV_wI]
  · rw [e8, e6]; exact ((Fr.rf _ M).wI ⟨rfl, Or.inl rfl⟩).wI ⟨rfl, Or.inr rfl⟩
def pm0 : Nat → Nat → Prop := fun a k => a = 116 ∧ k = 0
theorem s167 {M : sm_M} (hS : SH M) : sm_cI 167 [.ref 116] M (fun v M2 => v = iV M 116 7 ∧ iV M2 116 0 = 0 ∧ Fr pm0 M M2) := by
  refine g167_0 hS fun M1 s1 e1 => ⟨?_, ?_, ?_⟩
  · grind [iV_wI]
  · grind [iV_wI]
  · rw [e1]; exact (Fr.rf _ M).wI ⟨rfl, rfl⟩
def p30 : Nat → Nat → Prop := fun a k => a = 30 ∧ (k = 2 ∨ k = 3)
theorem s15 {M : sm_M} {pb ps : Nat → Nat} {pn pw : Nat} (hS : SH M) (hP : cP M pb ps pn pw) : sm_cI 15 [.ref 23] M (fun v M2 => v = Int32.ofNat pn ∧ cP M2 pb ps 0 0 ∧ Fr p30 M M2) := by
  refine g15_0 hS fun M4 s4 e4 M6 s6 e6 => ⟨hP.1, ⟨?_, ?_, fun i hi => by omega⟩, ?_⟩
  · rw [e6, iV_wI, if_neg (by omega), e4, iV_wI, if_pos ⟨rfl, rfl⟩]; rfl
  · rw [e6, iV_wI, if_pos ⟨rfl, rfl⟩]; rfl
  · rw [e6, e4]; exact ((Fr.rf _ M).wI ⟨rfl, Or.inl rfl⟩).wI ⟨rfl, Or.inr rfl⟩
def pm0p : Nat → Nat → Prop := fun a k => a = 116 ∧ (k = 0 ∨ k = 56 ∨ k = 57)
theorem s192 {M : sm_M} {pb ps : Nat → Nat} {pn pw : Nat} (hS : SH M) (hP : mP M pb ps pn pw) : sm_cI 192 [.ref 116] M (fun v M2 => v = Int32.ofNat pn ∧ iV M2 116 0 = 0 ∧ mP M2 pb ps 0 0 ∧ Fr pm0p M M2) := by
  refine g192_0 hS fun M1 s1 e1 M3 s3 e3 M5 s5 e5 => ⟨?_, ?_, ⟨?_, ?_, fun i hi => by omega⟩, ?_⟩
  · rw [e1, iV_wI, if_neg (by omega)]; exact hP.1
  · grind [iV_wI]
  · rw [e5, iV_wI, if_neg (by omega), e3, iV_wI, if_pos ⟨rfl, rfl⟩]; rfl
  · rw [e5, iV_wI, if_pos ⟨rfl, rfl⟩]; rfl
  · rw [e5, e3, e1]; exact (((Fr.rf _ M).wI ⟨rfl, Or.inl rfl⟩).wI ⟨rfl, Or.inr (Or.inl rfl)⟩).wI ⟨rfl, Or.inr (Or.inr rfl)⟩
theorem s159 {M : sm_M} {x : Int32} (hS : SH M) : sm_xI 159 [.ref 23, .int (x)] M (fun r M2 => ¬ (¬ x < 0 ∧ x ≤ 2) ∧ r = M.1 ∧ M2 = sm_new M 48 6) (fun v M2 => (¬ x < 0 ∧ x ≤ 2) ∧ v = (if x = 0 then iV M 24 1 else if x = 1 then iV M 26 1 else iV M 30 2) ∧ M2 = M) := by
  refine g159_0 hS ⟨fun c => ⟨fun z => z.1 c, rfl, rfl⟩, fun c => ⟨fun c2 => ⟨fun h => ?_, fun h => ?_, fun h h2 => ?_⟩, fun c2 => ⟨fun z => c2 z.2, rfl, rfl⟩⟩⟩
  · exact ⟨⟨c, c2⟩, by rw [if_pos h], rfl⟩
  · exact ⟨⟨c, c2⟩, by rw [if_neg (by rw [h]; decide), if_pos h], rfl⟩
  · exact ⟨⟨c, c2⟩, by rw [if_neg h, if_neg h2], rfl⟩
theorem s224 {M : sm_M} {x : Int32} (hS : SH M) : sm_cI 224 [.ref 116, .int (x)] M (fun v M2 => (((¬ x < 0 ∧ x ≤ 2) ∧ iV M2 116 0 = 0 ∧ v = (if x = 0 then iV M 116 3 else if x = 1 then iV M 116 6 else iV M 116 56)) ∨ (¬ (¬ x < 0 ∧ x ≤ 2) ∧ iV M2 116 0 = 1)) ∧ Fr pm0 M M2) := by
  refine g224_0 hS ?_
  rw [show (0 : Int64) = (0 : Int32).toInt64 from rfl, show (2 : Int64) = (2 : Int32).toInt64 from rfl, p166_i]
  refine ⟨fun c M4 s4 e4 => ⟨Or.inr ⟨c, by grind [iV_wI]⟩, by rw [e4]; exact (Fr.rf _ M).wI ⟨rfl, rfl⟩⟩, fun c M4 s4 e4 => ?_⟩
  have f4 : Fr pm0 M M4 := by rw [e4]; exact (Fr.rf _ M).wI ⟨rfl, rfl⟩
  have z4 : iV M4 116 0 = 0 := by grind [iV_wI]
  have c := Classical.not_not.mp c
  refine ⟨fun h => ⟨Or.inl ⟨c, z4, ?_⟩, f4⟩, fun h => ⟨fun h2 => ⟨Or.inl ⟨c, z4, ?_⟩, f4⟩, fun h2 => ⟨Or.inl ⟨c, z4, ?_⟩, f4⟩⟩⟩
  · rw [if_pos h]; grind [iV_wI]
  · rw [if_neg h, if_pos h2]; grind [iV_wI]
  · rw [if_neg h, if_neg h2]; grind [iV_wI]
