/-! THE SMALL MACHINE: the bytecode over a memory of plain functions. -/
/-- next cell, slots used, kinds, lengths, ints, longs, references -/
abbrev sm_M : Type := Nat × Nat × (Nat → Nat) × (Nat → Nat) × (Nat → Nat → Int32) × (Nat → Nat → Int64) × (Nat → Nat → Option Nat)
/-- pc, locals by their places, operands -/
abbrev sm_F : Type := Nat × List (Option Value) × List Value
/-- pc, instruction, its length, three numbers that link it -/
abbrev sm_C : Type := Nat × Jvm.ClassFile.Instr × Nat × Nat × Nat × Nat
/-- start, end, handler, 64 times the entry of its kind's pool and which exception that is -/
abbrev sm_X : Type := Nat × Nat × Nat × Nat
/-- what must hold, and: a next state, an end, or a call (method, arguments, the frame that waits) -/
abbrev sm_R : Type := Prop × ((sm_M × sm_F) ⊕ ((Outcome × sm_M) ⊕ (Nat × List Value × sm_F)))
abbrev sm_kd (M : sm_M) : Nat → Nat := M.2.2.1
abbrev sm_ln (M : sm_M) : Nat → Nat := M.2.2.2.1
abbrev sm_iv (M : sm_M) : Nat → Nat → Int32 := M.2.2.2.2.1
abbrev sm_jv (M : sm_M) : Nat → Nat → Int64 := M.2.2.2.2.2.1
abbrev sm_rv (M : sm_M) : Nat → Nat → Option Nat := M.2.2.2.2.2.2
def sm_wI (M : sm_M) (r k : Nat) (x : Int32) : sm_M := (M.1, M.2.1, sm_kd M, sm_ln M, va_up (sm_iv M) r (va_up (sm_iv M r) k x), sm_jv M, sm_rv M)
def sm_wJ (M : sm_M) (r k : Nat) (x : Int64) : sm_M := (M.1, M.2.1, sm_kd M, sm_ln M, sm_iv M, va_up (sm_jv M) r (va_up (sm_jv M r) k x), sm_rv M)
def sm_wR (M : sm_M) (r k : Nat) (x : Option Nat) : sm_M := (M.1, M.2.1, sm_kd M, sm_ln M, sm_iv M, sm_jv M, va_up (sm_rv M) r (va_up (sm_rv M r) k x))
def sm_new (M : sm_M) (k n : Nat) : sm_M := (M.1 + 1, M.2.1 + n, va_up (sm_kd M) M.1 k, va_up (sm_ln M) M.1 n, va_up (sm_iv M) M.1 (fun _ => 0), va_up (sm_jv M) M.1 (fun _ => 0), va_up (sm_rv M) M.1 (fun _ => none))
/-- a place of the locals; what a store of one place, of two, leaves -/
def sm_ld (ls : List (Option Value)) (i : Nat) : Option Value := ls.getD i none
def sm_cl (ls : List (Option Value)) (i : Nat) : List (Option Value) := match i with
  | 0 => ls
  | j + 1 => match ls.getD j none with
    | some w => if w.category = 2 then ls.set j none else ls
    | none => ls
def sm_s1 (ls : List (Option Value)) (i : Nat) (v : Value) : List (Option Value) := (sm_cl ls i).set i (some v)
def sm_s2 (ls : List (Option Value)) (i : Nat) (v : Value) : List (Option Value) := ((sm_cl ls i).set i (some v)).set (i + 1) none
def sm_go (M : sm_M) (pc : Nat) (ls : List (Option Value)) (st : List Value) : Option sm_R := some (True, .inl (M, pc, ls, st))
def sm_by (P : Prop) (M : sm_M) (pc : Nat) (ls : List (Option Value)) (st : List Value) : Option sm_R := some (P, .inl (M, pc, ls, st))
def sm_tg (pc : Nat) (off : Int) : Nat := ((pc : Int) + off).toNat
def sm_rf (v : Value) : Option (Option Nat) := match v with
  | .ref r => some (some r)
  | .null => some none
  | _ => none
/-- which entry of a table of handlers takes a cell of this kind, thrown at pc -/
def sm_ct (hs : List sm_X) (pc k : Nat) : Option Nat := (hs.find? (fun h => decide (h.1 ≤ pc) && decide (pc < h.2.1) && (48 + h.2.2.2 % 64 == k))).map (·.2.2.1)
def sm_lI (M : sm_M) (pc : Nat) (ls : List (Option Value)) (st : List Value) (i n : Nat) : Option sm_R := match sm_ld ls i with
  | some (.int x) => sm_go M (pc + n) ls (.int x :: st)
  | _ => none
def sm_lJ (M : sm_M) (pc : Nat) (ls : List (Option Value)) (st : List Value) (i n : Nat) : Option sm_R := match sm_ld ls i with
  | some (.long x) => sm_go M (pc + n) ls (.long x :: st)
  | _ => none
def sm_lA (M : sm_M) (pc : Nat) (ls : List (Option Value)) (st : List Value) (i n : Nat) : Option sm_R := match sm_ld ls i with
  | some (.ref x) => sm_go M (pc + n) ls (.ref x :: st)
  | some .null => sm_go M (pc + n) ls (.null :: st)
  | _ => none
def sm_tI (M : sm_M) (pc : Nat) (ls : List (Option Value)) (st : List Value) (i n : Nat) : Option sm_R := match st with
  | .int x :: r => sm_by (i < ls.length) M (pc + n) (sm_s1 ls i (.int x)) r
  | _ => none
def sm_tJ (M : sm_M) (pc : Nat) (ls : List (Option Value)) (st : List Value) (i n : Nat) : Option sm_R := match st with
  | .long x :: r => sm_by (i + 1 < ls.length) M (pc + n) (sm_s2 ls i (.long x)) r
  | _ => none
def sm_tA (M : sm_M) (pc : Nat) (ls : List (Option Value)) (st : List Value) (i n : Nat) : Option sm_R := match st with
  | .ref x :: r => sm_by (i < ls.length) M (pc + n) (sm_s1 ls i (.ref x)) r
  | .null :: r => sm_by (i < ls.length) M (pc + n) (sm_s1 ls i .null) r
  | _ => none
def sm_2I (M : sm_M) (pc : Nat) (ls : List (Option Value)) (st : List Value) (g : Int32 → Int32 → Int32) : Option sm_R := match st with
  | .int y :: .int x :: r => sm_go M (pc + 1) ls (.int (g x y) :: r)
  | _ => none
def sm_2J (M : sm_M) (pc : Nat) (ls : List (Option Value)) (st : List Value) (g : Int64 → Int64 → Int64) : Option sm_R := match st with
  | .long y :: .long x :: r => sm_go M (pc + 1) ls (.long (g x y) :: r)
  | _ => none
def sm_sJ (M : sm_M) (pc : Nat) (ls : List (Option Value)) (st : List Value) (g : Int64 → Int32 → Int64) : Option sm_R := match st with
  | .int y :: .long x :: r => sm_go M (pc + 1) ls (.long (g x y) :: r)
  | _ => none
def sm_1I (M : sm_M) (pc : Nat) (ls : List (Option Value)) (st : List Value) (g : Int32 → Int32) : Option sm_R := match st with
  | .int x :: r => sm_go M (pc + 1) ls (.int (g x) :: r)
  | _ => none
def sm_cz (c : Jvm.ClassFile.Cond) (x : Int32) (t n : Nat) : Nat := match c with
  | .eq => if x = 0 then t else n
  | .ne => if x = 0 then n else t
  | .lt => if x < 0 then t else n
  | .ge => if 0 ≤ x then t else n
  | .gt => if 0 < x then t else n
  | .le => if x ≤ 0 then t else n
def sm_cc (c : Jvm.ClassFile.Cond) (x y : Int32) (t n : Nat) : Nat := match c with
  | .eq => if x = y then t else n
  | .ne => if x = y then n else t
  | .lt => if x < y then t else n
  | .ge => if y ≤ x then t else n
  | .gt => if y < x then t else n
  | .le => if x ≤ y then t else n
/-- reading and writing a place of an array of kind k -/
def sm_ai (M : sm_M) (E k r : Nat) (i : Int32) : Prop := E ≤ r ∧ r < M.1 ∧ sm_kd M r = k ∧ vp_in i (sm_ln M r)
/-- kinds from 60 on were there before: 60 the script, 61 .. 64 bytes of texts, 70 a text, 71 what nobody looks into -/
def sm_ik (a : Nat) : Nat := match a with
  | 0 => 0
  | _ => 60
def sm_bk (M : sm_M) (a q : Nat) (i : Int32) : Prop := if a = 5 then q < M.1 ∧ (61 ≤ sm_kd M q ∧ sm_kd M q < 65) ∧ vp_in i (sm_ln M q) else sm_ai M 0 a q i
def sm_cp (M : sm_M) (s d sp dp n : Nat) : sm_M := (M.1, M.2.1, sm_kd M, sm_ln M, va_up (sm_iv M) d (va_cpy (sm_iv M s) (sm_iv M d) sp dp n), sm_jv M, sm_rv M)
/-- a call: a static method (0), a member that is one step (1 .. 15), or a method of a cell of kind a -/
def sm_call (E : Nat) (M : sm_M) (pc : Nat) (ls : List (Option Value)) (st : List Value) (a b c : Nat) : Option sm_R := match a with
  | 0 => some (c ≤ st.length ∧ ((st.drop c).map Value.category).sum ≤ 16, .inr (.inr (b, (st.take c).reverse, (pc, ls, st.drop c))))
  | 1 => match st with
    | .ref q :: r => sm_by (q < M.1 ∧ (r.map Value.category).sum ≤ 16) M (pc + 3) ls r
    | _ => none
  | 2 => match st with
    | .int y :: .int x :: r => sm_by ((r.map Value.category).sum ≤ 16) M (pc + 3) ls (.int (if x < y then y else x) :: r)
    | _ => none
  | 3 => match st with
    | .int y :: .int x :: r => sm_by ((r.map Value.category).sum ≤ 16) M (pc + 3) ls (.int (if y < x then y else x) :: r)
    | _ => none
  | 4 => match st with
    | .int x :: r => sm_by ((r.map Value.category).sum ≤ 16) M (pc + 3) ls (.int (if 0 ≤ x then x else 0 - x) :: r)
    | _ => none
  | 5 => match st with
    | .long y :: .long x :: r => sm_by ((r.map Value.category).sum ≤ 16) M (pc + 3) ls (.long (if y < x then x else y) :: r)
    | _ => none
  | 6 => match st with
    | .long y :: .long x :: r => sm_by ((r.map Value.category).sum ≤ 16) M (pc + 3) ls (.long (if y < x then y else x) :: r)
    | _ => none
  | 7 => match st with
    | .int n :: .int dp :: .ref d :: .int sp :: .ref s :: r => sm_by ((E ≤ d ∧ E ≤ s ∧ d < M.1 ∧ s < M.1 ∧ s ≠ d ∧ sm_kd M s = 1 ∧ sm_kd M d = 1 ∧ ¬ sp < 0 ∧ ¬ dp < 0 ∧ ¬ n < 0 ∧ sp.toNatClampNeg + n.toNatClampNeg ≤ sm_ln M s ∧ dp.toNatClampNeg + n.toNatClampNeg ≤ sm_ln M d ∧ ∀ i, i < n.toNatClampNeg → fits .byte (.int (sm_iv M s (sp.toNatClampNeg + i))) = true) ∧ (r.map Value.category).sum ≤ 16) (sm_cp M s d sp.toNatClampNeg dp.toNatClampNeg n.toNatClampNeg) (pc + 3) ls r
    | _ => none
  | k => match st.drop (c - 1) with
    | .ref q :: r => some (16 ≤ k ∧ 1 ≤ c ∧ c ≤ st.length ∧ q < M.1 ∧ sm_kd M q = k ∧ (r.map Value.category).sum ≤ 16, .inr (.inr (b, (st.take c).reverse, (pc, ls, r))))
    | _ => none
/-- what a store into an array of kind a leaves of x; the kind of an array of a type; a field by its code -/
def sm_bs (a : Nat) (x : Int32) : Int32 := match a with
  | 3 => x &&& 1
  | _ => x.toInt8.toInt32
def sm_nk (t : ArrayType) : Nat := match t with
  | .int => 0
  | .byte => 1
  | .long => 2
  | .boolean => 3
  | _ => 4
def sm_gv (M : sm_M) (q k d : Nat) : Value := match d with
  | 1 => .long (sm_jv M q k)
  | 2 => va_rf (sm_rv M q k)
  | _ => .int (sm_iv M q k)
/-- what a method of this code answers -/
def sm_ry (a : Nat) : FieldType := match a with
  | 1 => .byte
  | 3 => .boolean
  | 4 => .char
  | _ => .int
/-- one instruction, but calls. E: how many cells were there before -/
def sm_ex (hs : List sm_X) (E : Nat) (M : sm_M) (pc : Nat) (ls : List (Option Value)) (st : List Value) (ins : Jvm.ClassFile.Instr) (n a b c : Nat) : Option sm_R := match ins with
  | .aconst_null => sm_go M (pc + 1) ls (.null :: st)
  | .iconst i => sm_go M (pc + 1) ls (.int (Int32.ofInt i) :: st)
  | .bipush i => sm_go M (pc + 2) ls (.int (Int8.ofInt i).toInt32 :: st)
  | .sipush i => sm_go M (pc + 3) ls (.int (Int16.ofInt i).toInt32 :: st)
  | .lconst i => sm_go M (pc + 1) ls (.long (Int64.ofNat (i : Nat)) :: st)
  | .ldc _ => match a with
    | 0 => sm_go M (pc + 2) ls (.int (Int32.ofNat b) :: st)
    | _ => sm_go M (pc + 2) ls (.ref b :: st)
  | .ldc_w _ => match a with
    | 0 => sm_go M (pc + 3) ls (.int (Int32.ofNat b) :: st)
    | _ => none
  | .ldc2_w _ => sm_go M (pc + 3) ls (.long (Int64.ofNat b) :: st)
  | .iload i => sm_lI M pc ls st i 2
  | .iload_n i => sm_lI M pc ls st i 1
  | .lload i => sm_lJ M pc ls st i 2
  | .lload_n i => sm_lJ M pc ls st i 1
  | .aload i => sm_lA M pc ls st i 2
  | .aload_n i => sm_lA M pc ls st i 1
  | .istore i => sm_tI M pc ls st i 2
  | .istore_n i => sm_tI M pc ls st i 1
  | .lstore i => sm_tJ M pc ls st i 2
  | .lstore_n i => sm_tJ M pc ls st i 1
  | .astore i => sm_tA M pc ls st i 2
  | .astore_n i => sm_tA M pc ls st i 1
  | .iinc i k => match sm_ld ls i with
    | some (.int x) => sm_by (i < ls.length) M (pc + n) (sm_s1 ls i (.int (x + Int32.ofInt k))) st
    | _ => none
  | .iadd => sm_2I M pc ls st (fun x y => x + y)
  | .isub => sm_2I M pc ls st (fun x y => x - y)
  | .imul => sm_2I M pc ls st (fun x y => x * y)
  | .iand => sm_2I M pc ls st (fun x y => x &&& y)
  | .ior => sm_2I M pc ls st (fun x y => x ||| y)
  | .ixor => sm_2I M pc ls st (fun x y => x ^^^ y)
  | .ishl => sm_2I M pc ls st (fun x y => x <<< (y &&& 31))
  | .ishr => sm_2I M pc ls st (fun x y => x >>> (y &&& 31))
  | .iushr => sm_2I M pc ls st (fun x y => (x.toUInt32 >>> (y.toUInt32 &&& Int32.toUInt32 31)).toInt32)
  | .idiv => match st with
    | .int y :: .int x :: r => sm_by (¬ y = 0) M (pc + 1) ls (.int (x / y) :: r)
    | _ => none
  | .irem => match st with
    | .int y :: .int x :: r => sm_by (¬ y = 0) M (pc + 1) ls (.int (x - x / y * y) :: r)
    | _ => none
  | .ineg => sm_1I M pc ls st (fun x => -x)
  | .i2c => sm_1I M pc ls st (fun x => (x.toUInt32 % 65536).toInt32)
  | .getstatic _ => match a with
    | 0 => sm_go M (pc + 3) ls (.int (Int32.ofNat b) :: st)
    | _ => match st with
      | .int y :: .int x :: r => sm_by ((¬ x < 0 ∧ x < y) ∧ (r.map Value.category).sum ≤ 16) M (pc + 7) ls r
      | _ => none
  | .i2b => sm_1I M pc ls st (fun x => x.toInt8.toInt32)
  | .ladd => sm_2J M pc ls st (fun x y => x + y)
  | .lsub => sm_2J M pc ls st (fun x y => x - y)
  | .lmul => sm_2J M pc ls st (fun x y => x * y)
  | .land => sm_2J M pc ls st (fun x y => x &&& y)
  | .lor => sm_2J M pc ls st (fun x y => x ||| y)
  | .lxor => sm_2J M pc ls st (fun x y => x ^^^ y)
  | .lshl => sm_sJ M pc ls st (fun x y => x <<< (y.toInt64 &&& 63))
  | .lshr => sm_sJ M pc ls st (fun x y => x >>> (y.toInt64 &&& 63))
  | .lushr => sm_sJ M pc ls st (fun x y => (x.toUInt64 >>> (y.toInt64.toUInt64 &&& Int64.toUInt64 63)).toInt64)
  | .ldiv => match st with
    | .long y :: .long x :: r => sm_by (¬ y = 0) M (pc + 1) ls (.long (x / y) :: r)
    | _ => none
  | .lrem => match st with
    | .long y :: .long x :: r => sm_by (¬ y = 0) M (pc + 1) ls (.long (x - x / y * y) :: r)
    | _ => none
  | .lneg => match st with
    | .long x :: r => sm_go M (pc + 1) ls (.long (-x) :: r)
    | _ => none
  | .lcmp => match st with
    | .long y :: .long x :: r => sm_go M (pc + 1) ls (.int (lg_cmp x y) :: r)
    | _ => none
  | .i2l => match st with
    | .int x :: r => sm_go M (pc + 1) ls (.long x.toInt64 :: r)
    | _ => none
  | .l2i => match st with
    | .long x :: r => sm_go M (pc + 1) ls (.int x.toInt32 :: r)
    | _ => none
  | .dup => match st with
    | v :: r => sm_by (v.category = 1) M (pc + 1) ls (v :: v :: r)
    | _ => none
  | .pop => match st with
    | v :: r => sm_by (v.category = 1) M (pc + 1) ls r
    | _ => none
  | .dup_x1 => match st with
    | v :: w :: r => sm_by (v.category = 1 ∧ w.category = 1) M (pc + 1) ls (v :: w :: v :: r)
    | _ => none
  | .dup2 => match st with
    | .long x :: r => sm_go M (pc + 1) ls (.long x :: .long x :: r)
    | v :: w :: r => sm_by (v.category = 1 ∧ w.category = 1) M (pc + 1) ls (v :: w :: v :: w :: r)
    | _ => none
  | .goto _ => sm_go M a ls st
  | .ifCond k _ => match st with
    | .int x :: r => sm_go M (sm_cz k x a (pc + 3)) ls r
    | _ => none
  | .if_icmp k _ => match st with
    | .int y :: .int x :: r => sm_go M (sm_cc k x y a (pc + 3)) ls r
    | _ => none
  | .ifnull _ => match st with
    | .ref _ :: r => sm_go M (pc + 3) ls r
    | .null :: r => sm_go M a ls r
    | _ => none
  | .ifnonnull _ => match st with
    | .ref _ :: r => sm_go M a ls r
    | .null :: r => sm_go M (pc + 3) ls r
    | _ => none
  | .tableswitch d lo hi offs => match st with
    | .int x :: r => sm_by (x.toInt < lo ∨ hi < x.toInt ∨ (offs[(x.toInt - lo).toNat]?).isSome) M (if x.toInt < lo ∨ hi < x.toInt then sm_tg pc d else sm_tg pc (offs.getD (x.toInt - lo).toNat 0)) ls r
    | _ => none
  | .lookupswitch d ps => match st with
    | .int x :: r => sm_go M (sm_tg pc (Op.lookupswitch.offset ps.toList d x.toInt)) ls r
    | _ => none
  | .arraylength => match st with
    | .ref q :: r => sm_by (q < M.1 ∧ (sm_kd M q < 16 ∨ (60 ≤ sm_kd M q ∧ sm_kd M q < 65))) M (pc + 1) ls (.int (Int32.ofNat (sm_ln M q)) :: r)
    | _ => none
  | .iaload => match st with
    | .int i :: .ref q :: r => sm_by (sm_ai M 0 (sm_ik a) q i) M (pc + 1) ls (.int (sm_iv M q i.toNatClampNeg) :: r)
    | _ => none
  | .baload => match st with
    | .int i :: .ref q :: r => sm_by (sm_bk M a q i) M (pc + 1) ls (.int (sm_iv M q i.toNatClampNeg) :: r)
    | _ => none
  | .laload => match st with
    | .int i :: .ref q :: r => sm_by (sm_ai M 0 2 q i) M (pc + 1) ls (.long (sm_jv M q i.toNatClampNeg) :: r)
    | _ => none
  | .iastore => match st with
    | .int x :: .int i :: .ref q :: r => sm_by (sm_ai M E 0 q i) (sm_wI M q i.toNatClampNeg x) (pc + 1) ls r
    | _ => none
  | .bastore => match st with
    | .int x :: .int i :: .ref q :: r => sm_by (sm_ai M E a q i) (sm_wI M q i.toNatClampNeg (sm_bs a x)) (pc + 1) ls r
    | _ => none
  | .lastore => match st with
    | .long x :: .int i :: .ref q :: r => sm_by (sm_ai M E 2 q i) (sm_wJ M q i.toNatClampNeg x) (pc + 1) ls r
    | _ => none
  | .newarray t => match st with
    | .int x :: r => sm_by (¬ x < 0 ∧ x.toNatClampNeg * 8 ≤ 536870912) (sm_new M (sm_nk t) x.toNatClampNeg) (pc + 2) ls (.ref M.1 :: r)
    | _ => none
  | .new _ => if 32 ≤ a then some ((st.map Value.category).sum ≤ 16, .inr (.inl (.threw M.1, sm_new M (16 + a) b))) else sm_go (sm_new M (16 + a) b) (pc + 3) ls (.ref M.1 :: st)
  | .getfield _ => match st with
    | .ref q :: r => sm_by (q < M.1 ∧ sm_kd M q = 16 + a) M (pc + 3) ls (sm_gv M q b c :: r)
    | _ => none
  | .putfield _ => match st with
    | .int x :: .ref q :: r => sm_by (E ≤ q ∧ q < M.1 ∧ sm_kd M q = 16 + a ∧ (c = 0 ∨ (c = 3 ∧ (x = 0 ∨ x = 1)))) (sm_wI M q b x) (pc + 3) ls r
    | .long x :: .ref q :: r => sm_by (E ≤ q ∧ q < M.1 ∧ sm_kd M q = 16 + a ∧ c = 1) (sm_wJ M q b x) (pc + 3) ls r
    | .ref x :: .ref q :: r => sm_by (E ≤ q ∧ q < M.1 ∧ sm_kd M q = 16 + a ∧ c = 2) (sm_wR M q b (some x)) (pc + 3) ls r
    | .null :: .ref q :: r => sm_by (E ≤ q ∧ q < M.1 ∧ sm_kd M q = 16 + a ∧ c = 2) (sm_wR M q b none) (pc + 3) ls r
    | _ => none
  | .ireturn => match st with
    | [.int x] => some (narrow (sm_ry a) (.int x) = .int x, .inr (.inl (.returned (some (.int x)), M)))
    | _ => none
  | .lreturn => match st with
    | [.long x] => some (True, .inr (.inl (.returned (some (.long x)), M)))
    | _ => none
  | .areturn => match st with
    | [.ref x] => some (True, .inr (.inl (.returned (some (.ref x)), M)))
    | [.null] => some (True, .inr (.inl (.returned (some .null), M)))
    | _ => none
  | .return_ => match st with
    | [] => some (True, .inr (.inl (.returned none, M)))
    | _ => none
  | .invokestatic _ => sm_call E M pc ls st a b c
  | .invokevirtual _ => sm_call E M pc ls st a b c
  | .invokespecial _ => sm_call E M pc ls st a b c
  | _ => none
/-- a program: how many locals, the code, the handlers -/
abbrev sm_P : Type := Nat → Nat × List sm_C × List sm_X
def sm_st (P : sm_P) (E mi : Nat) (M : sm_M) (f : sm_F) : Option sm_R := match (P mi).2.1.find? (fun q => q.1 == f.1) with
  | some (_, ins, n, a, b, c) => sm_ex (P mi).2.2 E M f.1 f.2.1 f.2.2 ins n a b c
  | none => none
def sm_la : List Value → List (Option Value)
  | [] => []
  | v :: vs => if v.category = 2 then some v :: none :: sm_la vs else some v :: sm_la vs
def sm_in (P : sm_P) (mi : Nat) (as : List Value) : sm_F := (0, sm_la as ++ List.replicate ((P mi).1 - (sm_la as).length) none, [])
def sm_rt (f : sm_F) (v : Option Value) : sm_F := (f.1 + 3, f.2.1, v.toList ++ f.2.2)
/-- method mi, from frame f and memory M, ends with o and memory M', nesting no more than d frames -/
def sm_Ev (P : sm_P) (E : Nat) : Nat → Nat → sm_F → sm_M → Outcome → sm_M → Prop
  | 0 => fun _ _ _ _ _ => False
  | d + 1 => fun mi f M o M' => ∀ R : sm_F → sm_M → Prop,
      (∀ f M1 p, sm_st P E mi M1 f = some (p, .inr (.inl (o, M'))) → p → R f M1) →
      (∀ f M1 p M2 f2, sm_st P E mi M1 f = some (p, .inl (M2, f2)) → p → R f2 M2 → R f M1) →
      (∀ f M1 p i as g v M2, sm_st P E mi M1 f = some (p, .inr (.inr (i, as, g))) → p → (sm_la as).length ≤ (P i).1 → sm_Ev P E d i (sm_in P i as) M1 (.returned v) M2 → R (sm_rt g v) M2 → R f M1) →
      (∀ f M1 p i as g r M2 h, sm_st P E mi M1 f = some (p, .inr (.inr (i, as, g))) → p → (sm_la as).length ≤ (P i).1 → sm_Ev P E d i (sm_in P i as) M1 (.threw r) M2 → sm_ct (P mi).2.2 g.1 (sm_kd M2 r) = some h → R (h, g.2.1, [.ref r]) M2 → R f M1) →
      (∀ f M1 p i as g r M2, sm_st P E mi M1 f = some (p, .inr (.inr (i, as, g))) → p → (sm_la as).length ≤ (P i).1 → sm_Ev P E d i (sm_in P i as) M1 (.threw r) M2 → (P mi).2.2 = [] → o = .threw r → M' = M2 → R f M1) →
      R f M
theorem sm_Ev.end {P : sm_P} {E d mi : Nat} {f : sm_F} {M M2 : sm_M} {o : Outcome} {p : Prop} (h : sm_st P E mi M f = some (p, .inr (.inl (o, M2)))) (hp : p) : sm_Ev P E (d + 1) mi f M o M2 := fun _ h1 _ _ _ _ => h1 f M p h hp
theorem sm_Ev.step {P : sm_P} {E d mi : Nat} {f f2 : sm_F} {M M2 M' : sm_M} {o : Outcome} {p : Prop} (h : sm_st P E mi M f = some (p, .inl (M2, f2))) (hp : p) (k : sm_Ev P E (d + 1) mi f2 M2 o M') : sm_Ev P E (d + 1) mi f M o M' := fun R h1 h2 h3 h4 h5 => h2 f M p M2 f2 h hp (k R h1 h2 h3 h4 h5)
theorem sm_Ev.call {P : sm_P} {E d mi i : Nat} {as : List Value} {g f : sm_F} {M M2 M' : sm_M} {o : Outcome} {v : Option Value} {p : Prop} (h : sm_st P E mi M f = some (p, .inr (.inr (i, as, g)))) (hp : p) (hn : (sm_la as).length ≤ (P i).1) (hc : sm_Ev P E d i (sm_in P i as) M (.returned v) M2) (k : sm_Ev P E (d + 1) mi (sm_rt g v) M2 o M') : sm_Ev P E (d + 1) mi f M o M' := fun R h1 h2 h3 h4 h5 => h3 f M p i as g v M2 h hp hn hc (k R h1 h2 h3 h4 h5)
theorem sm_Ev.callC {P : sm_P} {E d mi i r hd : Nat} {as : List Value} {g f : sm_F} {M M2 M' : sm_M} {o : Outcome} {p : Prop} (h : sm_st P E mi M f = some (p, .inr (.inr (i, as, g)))) (hp : p) (hn : (sm_la as).length ≤ (P i).1) (hc : sm_Ev P E d i (sm_in P i as) M (.threw r) M2) (hh : sm_ct (P mi).2.2 g.1 (sm_kd M2 r) = some hd) (k : sm_Ev P E (d + 1) mi (hd, g.2.1, [.ref r]) M2 o M') : sm_Ev P E (d + 1) mi f M o M' := fun R h1 h2 h3 h4 h5 => h4 f M p i as g r M2 hd h hp hn hc hh (k R h1 h2 h3 h4 h5)
theorem sm_Ev.callT {P : sm_P} {E d mi i r : Nat} {as : List Value} {g f : sm_F} {M M2 : sm_M} {p : Prop} (h : sm_st P E mi M f = some (p, .inr (.inr (i, as, g)))) (hp : p) (hn : (sm_la as).length ≤ (P i).1) (hc : sm_Ev P E d i (sm_in P i as) M (.threw r) M2) (hh : (P mi).2.2 = []) : sm_Ev P E (d + 1) mi f M (.threw r) M2 := fun R h1 h2 h3 h4 h5 => h5 f M p i as g r M2 h hp hn hc hh rfl rfl
/-- many steps at once -/
def sm_mn (P : sm_P) (E mi : Nat) : Nat → sm_M → sm_F → Option (Prop × sm_M × sm_F)
  | 0, M, f => some (True, M, f)
  | n + 1, M, f => match sm_st P E mi M f with
    | some (p, .inl (M2, f2)) => match sm_mn P E mi n M2 f2 with
      | some (q, r) => some (p ∧ q, r)
      | none => none
    | _ => none
theorem sm_Ev.many {P : sm_P} {E d mi : Nat} {o : Outcome} {M' : sm_M} : ∀ (n : Nat) {f f2 : sm_F} {M M2 : sm_M} {p : Prop}, sm_mn P E mi n M f = some (p, M2, f2) → p → sm_Ev P E (d + 1) mi f2 M2 o M' → sm_Ev P E (d + 1) mi f M o M' := by
  intro n
  induction n with
  | zero =>
    intro f f2 M M2 p h hp k
    cases h
    exact k
  | succ n ih =>
    intro f f2 M M2 p h hp k
    unfold sm_mn at h
    split at h
    · rename_i p1 M1 f1 h1
      split at h
      · rename_i q r h2
        obtain ⟨M3, f3⟩ := r
        cases h
        exact sm_Ev.step h1 hp.1 (ih h2 hp.2 k)
      · cases h
    · cases h
