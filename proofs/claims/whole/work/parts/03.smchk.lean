/-! WHAT A PROGRAM decides of a method's code: each row of its table against its bytes and its words. -/
/-- a word that stays as the machine goes on -/
def sm_gdB (c : Cond) : Bool := (c.onTables && c.keepsH) || (match c with
  | .arrayClass _ => true
  | .castable _ _ => true
  | .declares _ => true
  | _ => false)
def sm_cw (y : MethodName) (bytes : ByteArray) (nL : Nat) (ret : Option FieldType) (hh : List (Nat × Nat × Nat × Nat)) : Cond := match hh with
  | [] => .code y bytes nL ret
  | q :: r => .codeWith y bytes nL ret (q :: r)
def sm_tw (own : String) (ic : Nat) (X : String) (names : List String) : List Cond := (Bundle.ownAtoms own ic X names).filter (fun a => !(decide (a = .isRef (.static "java/lang/Throwable" "UNASSIGNED_STACK" "[Ljava/lang/StackTraceElement;")) || decide (a = .isRef (.static "java/lang/Throwable" "SUPPRESSED_SENTINEL" "Ljava/util/List;")) || decide (a = .laysStatic "java/lang/Throwable" "UNASSIGNED_STACK" "[Ljava/lang/StackTraceElement;") || decide (a = .laysStatic "java/lang/Throwable" "SUPPRESSED_SENTINEL" "Ljava/util/List;")))
def sm_ixN : MethodName := ⟨"jdk/internal/util/Preconditions", "checkIndex", "(IILjava/util/function/BiFunction;)I"⟩
/-- name, bytes, answer, handlers, words -/
abbrev sm_J : Type := MethodName × ByteArray × Option FieldType × List (Nat × Nat × Nat × Nat) × List Cond
def sm_dc (bytes : ByteArray) (pc : Nat) (ins : Jvm.ClassFile.Instr) (n : Nat) : Bool := match decode bytes pc with
  | .ok (i, k) => decide (i = ins) && k == n
  | .error _ => false
def sm_in1 (ws : List Cond) (c : Cond) : Bool := decide (c ∈ ws)
def sm_excs : List String := ["java/lang/IllegalArgumentException", "java/lang/IllegalStateException", "java/lang/UnsupportedOperationException", "java/lang/IndexOutOfBoundsException"]
def sm_ups : List String := ["java/lang/RuntimeException", "java/lang/Exception"]
def sm_okM (y : MethodName) : Bool := decide (y.cls ≠ "java/lang/invoke/MethodHandle") && decide (y.cls ≠ "java/lang/invoke/VarHandle") && plainFor y
/-- a call of method k from own, entry i; so many arguments -/
def sm_kS (P : sm_P) (J : Nat → sm_J) (ws : List Cond) (own : String) (i k d : Nat) : Bool :=
  (sm_in1 ws (.methodLink own i (J k).1) || sm_in1 ws (.methodLinkNest own i (J k).1 "LineSetter")) && sm_in1 ws (.static (J k).1) && sm_in1 ws (.initialized (J k).1.cls) && sm_in1 ws (sm_cw (J k).1 (J k).2.1 (P k).1 (J k).2.2.1 (J k).2.2.2.1) && sm_okM (J k).1 && decide ((P k).1 ≤ 100) && decide ((parseMethodDescriptor (J k).1.desc).map (fun t => t.parameters.length) = some d)
def sm_kV (P : sm_P) (J : Nat → sm_J) (cs : List vw_C) (ws : List Cond) (own : String) (i a k d : Nat) : Bool :=
  sm_in1 ws (.methodLink own i (J k).1) && sm_in1 ws (.instanceMethod (J k).1) && sm_in1 ws (.selects (J k).1.cls (J k).1 (J k).1) && sm_in1 ws (sm_cw (J k).1 (J k).2.1 (P k).1 (J k).2.2.1 (J k).2.2.2.1) && sm_okM (J k).1 && decide ((P k).1 ≤ 100) && decide (1 ≤ d) && decide ((parseMethodDescriptor (J k).1.desc).map (fun t => t.parameters.length) = some (d - 1)) && ((decide (16 ≤ a) && decide (a < 48) && decide ((cs[a - 16]?).map (fun q => q.1) = some (J k).1.cls)) || (a == 70 && decide ((cs[13]?).map (fun q => q.1) = some (J k).1.cls)))
def sm_kI (P : sm_P) (J : Nat → sm_J) (ws : List Cond) (own : String) (i a k d : Nat) : Bool :=
  (sm_in1 ws (.methodLink own i (J k).1) || sm_in1 ws (.methodLinkNest own i (J k).1 "LineSetter")) && sm_in1 ws (.instanceMethod (J k).1) && sm_in1 ws (.code (J k).1 (J k).2.1 (P k).1 none) && sm_okM (J k).1 && decide ((P k).1 ≤ 100) && decide (1 ≤ d) && decide ((parseMethodDescriptor (J k).1.desc).map (fun t => t.parameters.length) = some (d - 1)) && decide (16 ≤ a) && decide ((J k).1.name = "<init>") && decide ((J k).2.2.1 = none) && decide ((J k).2.2.2.1 = [])
def sm_kM (ws : List Cond) (own : String) (i : Nat) (y : MethodName) (code : ByteArray) (nL : Nat) (ret : Option FieldType) : Bool := sm_in1 ws (.methodLink own i y) && sm_in1 ws (.static y) && sm_in1 ws (.initialized "java/lang/Math") && sm_in1 ws (.code y code nL ret)
def sm_kX (P : sm_P) (J : Nat → sm_J) (ws : List Cond) (own : String) (i a k d : Nat) : Bool := if a = 1 then sm_in1 ws (.methodLink own i Lib.objectInit) && sm_in1 ws (.instanceMethod Lib.objectInit) && sm_in1 ws (.code Lib.objectInit ⟨#[0xb1]⟩ 1 none) else sm_kI P J ws own i a k d
/-- handlers: all cover the place -/
def sm_kH (ws : List Cond) (own : String) (hs : List sm_X) (pc : Nat) : Bool := hs.all (fun q => decide (q.1 ≤ pc) && decide (pc < q.2.1) && decide (q.2.2.2 / 64 ≠ 0) && (match sm_excs[q.2.2.2 % 64]? with
  | some n2 => sm_in1 ws (.classLink own (q.2.2.2 / 64) n2)
  | none => false))
/-- throw new X(text) -/
def sm_kT (sx : List (String × Nat × String × Nat)) (ws : List Cond) (own : String) (bytes : ByteArray) (pc i a b d : Nat) : Bool := match sm_excs[a - 32]? with
  | some X => decide (32 ≤ a) && sm_dc bytes (pc + 3) .dup 1 && ((sm_dc bytes (pc + 4) (.ldc (d / 4096)) 2 && sm_dc bytes (pc + 6) (.invokespecial (d % 4096)) 3 && sm_dc bytes (pc + 9) .athrow 1) || (sm_dc bytes (pc + 4) (.ldc_w (d / 4096)) 3 && sm_dc bytes (pc + 7) (.invokespecial (d % 4096)) 3 && sm_dc bytes (pc + 10) .athrow 1)) && sx.any (fun q => decide (q.1 = own) && decide (q.2.1 = d / 4096)) && (sm_tw own (d % 4096) X sm_ups).all (sm_in1 ws) && sm_in1 ws (.classLink own i X) && sm_in1 ws (.instantiable X b) && sm_in1 ws (.initialized X) && Bundle.fit X
  | none => false
/-- the JDK's test of an index, from its own text for a wrong one on -/
def sm_kG (ws : List Cond) (own : String) (bytes : ByteArray) (pc i b : Nat) : Bool := sm_dc bytes (pc + 3) (.invokestatic b) 3 && sm_dc bytes (pc + 6) .pop 1 && sm_in1 ws (.fieldLink own i "jdk/internal/util/Preconditions" "SIOOBE_FORMATTER" "Ljava/util/function/BiFunction;") && sm_in1 ws (.methodLink own b sm_ixN) && sm_in1 ws (.static sm_ixN) && sm_in1 ws (.initialized "jdk/internal/util/Preconditions") && sm_in1 ws (.code sm_ixN prog_34_method_11_code 3 (some .int))
def sm_kF (cs : List vw_C) (ft : Nat → Nat → Nat) (ws : List Cond) (own : String) (i a b d : Nat) : Bool := match cs[a]? with
  | some q => decide (a < 32) && decide (b < q.2.2) && decide (ft a b = d) && sm_in1 ws (.fieldLink own i (q.2.1 b).1 (q.2.1 b).2.1 (q.2.1 b).2.2.1)
  | none => false
def sm_kE (cs : List vw_C) (ws : List Cond) (own : String) (i b d : Nat) : Bool := match cs[13]? with
  | some q => decide (b < q.2.2) && ((b == 0 && d == 2) || (b == 1 && d == 0)) && sm_in1 ws (.fieldLink own i (q.2.1 b).1 (q.2.1 b).2.1 (q.2.1 b).2.2.1)
  | none => false
def sm_ck (P : sm_P) (J : Nat → sm_J) (cs : List vw_C) (ft : Nat → Nat → Nat) (sx : List (String × Nat × String × Nat)) (y : MethodName) (bytes : ByteArray) (ret : Option FieldType) (ws : List Cond) (hs : List sm_X) (pc : Nat) (ins : Jvm.ClassFile.Instr) (n a b d : Nat) : Bool := match ins with
  | .aconst_null => n == 1
  | .iconst _ => n == 1
  | .bipush _ => n == 2
  | .sipush _ => n == 3
  | .lconst _ => n == 1
  | .ldc i => n == 2 && ((a == 0 && sm_in1 ws (.constant y.cls i (Int32.ofNat b))) || (a == 1 && sx.any (fun q => decide (q.1 = y.cls) && decide (q.2.1 = i) && decide (q.2.2.2 = b))))
  | .ldc_w i => n == 3 && sm_in1 ws (.constant y.cls i (Int32.ofNat b))
  | .ldc2_w i => n == 3 && sm_in1 ws (.constantLong y.cls i (Int64.ofNat b))
  | .iload _ => n == 2
  | .iload_n _ => n == 1
  | .lload _ => n == 2
  | .lload_n _ => n == 1
  | .aload _ => n == 2
  | .aload_n _ => n == 1
  | .istore _ => n == 2
  | .istore_n _ => n == 1
  | .lstore _ => n == 2
  | .lstore_n _ => n == 1
  | .astore _ => n == 2
  | .astore_n _ => n == 1
  | .iinc _ _ => n == 3 || n == 6
  | .iadd => n == 1
  | .isub => n == 1
  | .imul => n == 1
  | .iand => n == 1
  | .ior => n == 1
  | .ixor => n == 1
  | .ishl => n == 1
  | .ishr => n == 1
  | .iushr => n == 1
  | .idiv => n == 1
  | .irem => n == 1
  | .ineg => n == 1
  | .i2b => n == 1
  | .i2c => n == 1
  | .ladd => n == 1
  | .lsub => n == 1
  | .lmul => n == 1
  | .land => n == 1
  | .lor => n == 1
  | .lxor => n == 1
  | .lshl => n == 1
  | .lshr => n == 1
  | .lushr => n == 1
  | .ldiv => n == 1
  | .lrem => n == 1
  | .lneg => n == 1
  | .lcmp => n == 1
  | .i2l => n == 1
  | .l2i => n == 1
  | .dup => n == 1
  | .pop => n == 1
  | .dup_x1 => n == 1
  | .dup2 => n == 1
  | .goto off => n == 3 && decide ((pc : Int) + off = (a : Int))
  | .ifCond _ off => n == 3 && decide ((pc : Int) + off = (a : Int))
  | .if_icmp _ off => n == 3 && decide ((pc : Int) + off = (a : Int))
  | .ifnull off => n == 3 && decide ((pc : Int) + off = (a : Int))
  | .ifnonnull off => n == 3 && decide ((pc : Int) + off = (a : Int))
  | .tableswitch df _ _ offs => decide (0 ≤ (pc : Int) + df) && offs.toList.all (fun o => decide (0 ≤ (pc : Int) + o))
  | .lookupswitch df ps => (ps.toList.zip (ps.toList.drop 1)).all (fun (a, next) => a.1 < next.1) && decide (0 ≤ (pc : Int) + df) && ps.toList.all (fun o => decide (0 ≤ (pc : Int) + o.2))
  | .arraylength => n == 1
  | .iaload => n == 1 && (a == 0 || a == 1)
  | .baload => n == 1 && (a == 1 || a == 3 || a == 5)
  | .laload => n == 1
  | .iastore => n == 1
  | .bastore => n == 1 && (a == 1 || a == 3)
  | .lastore => n == 1
  | .newarray t => n == 2 && ((decide (t = .int) && sm_in1 ws (.arrayClass .int)) || (decide (t = .byte) && sm_in1 ws (.arrayClass .byte)) || (decide (t = .long) && sm_in1 ws (.arrayClass .long)) || (decide (t = .boolean) && sm_in1 ws (.arrayClass .boolean)))
  | .new i => n == 3 && ((decide (a < 13) && (match cs[a]? with
      | some q => sm_in1 ws (.classLink y.cls i q.1) && sm_in1 ws (.instantiable q.1 b) && sm_in1 ws (.initialized q.1)
      | none => false)) || (decide (hs = []) && sm_kT sx ws y.cls bytes pc i a b d))
  | .getfield i => n == 3 && (sm_kF cs ft ws y.cls i a b d || (a == 54 && sm_kE cs ws y.cls i b d))
  | .putfield i => n == 3 && decide (a < 13) && sm_kF cs ft ws y.cls i a b d && (match cs[a]? with
      | some q => decide ((q.2.1 b).2.2.2 = false) || (decide (y.name = "<init>") && decide ((q.2.1 b).1 = y.cls))
      | none => false)
  | .getstatic i => n == 3 && ((a == 0 && b == 1 && sm_in1 ws (.fieldLink y.cls i "java/lang/String" "COMPACT_STRINGS" "Z")) || (a == 1 && sm_kG ws y.cls bytes pc i b))
  | .ireturn => n == 1 && decide (ret = some (sm_ry a))
  | .lreturn => n == 1 && decide (ret = some .long)
  | .return_ => n == 1 && decide (ret = none)
  | .invokestatic i => n == 3 && sm_kH ws y.cls hs pc && (match a with
      | 0 => sm_kS P J ws y.cls i b d
      | 2 => sm_kM ws y.cls i Lib.Math.max.name Lib.Math.max.code 2 (some .int)
      | 3 => sm_kM ws y.cls i Lib.Math.min.name Lib.Math.min.code 2 (some .int)
      | 4 => sm_kM ws y.cls i Lib.Math.abs.name Lib.Math.abs.code 1 (some .int)
      | 5 => sm_kM ws y.cls i Lib.MathLoose.max_long.x Lib.MathLoose.max_long.code 4 (some .long)
      | 6 => sm_kM ws y.cls i Lib.MathLoose.min_long.x Lib.MathLoose.min_long.code 4 (some .long)
      | 7 => sm_in1 ws (.methodLink y.cls i arraycopyName) && sm_in1 ws (.native arraycopyName) && sm_in1 ws (.static arraycopyName) && sm_in1 ws (.initialized "java/lang/System")
      | _ => false)
  | .invokevirtual i => n == 3 && sm_kH ws y.cls hs pc && sm_kV P J cs ws y.cls i a b d
  | .invokespecial i => n == 3 && sm_kH ws y.cls hs pc && sm_kX P J ws y.cls i a b d
  | _ => false
