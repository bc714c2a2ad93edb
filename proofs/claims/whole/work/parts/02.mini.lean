/-! A small machine: cells by their numbers, frames as lists. Refs below mj_CB are cells that were made, those above are cells that stood before. -/
abbrev mj_C : Type := (Nat × vp_A) ⊕ (Nat × List Value)
abbrev mj_H : Type := List mj_C
abbrev mj_L : Type := List (Option Value)
/-- an instruction, and three numbers that the tables give with it -/
abbrev mj_E : Type := Instr × Nat × Nat × Nat
abbrev mj_CB : Nat := 1000000
/-- pc, locals, operand stack, heap -/
abbrev mj_S : Type := Nat × mj_L × List Value × mj_H
def mj_pI {α : Type} (st : List Value) (k : Int32 → List Value → Option α) : Option α := match st with
  | .int x :: r => k x r
  | _ => none
def mj_pL {α : Type} (st : List Value) (k : Int64 → List Value → Option α) : Option α := match st with
  | .long x :: r => k x r
  | _ => none
def mj_pD {α : Type} (st : List Value) (k : UInt64 → List Value → Option α) : Option α := match st with
  | .double x :: r => k x r
  | _ => none
def mj_pF {α : Type} (st : List Value) (k : UInt32 → List Value → Option α) : Option α := match st with
  | .float x :: r => k x r
  | _ => none
def mj_pR {α : Type} (st : List Value) (k : Nat → List Value → Option α) : Option α := match st with
  | .ref x :: r => k x r
  | _ => none
/-- a reference or null -/
def mj_pA {α : Type} (st : List Value) (k : Option Nat → List Value → Option α) : Option α := match st with
  | .ref x :: r => k (some x) r
  | .null :: r => k none r
  | _ => none
def mj_pV {α : Type} (st : List Value) (k : Value → List Value → Option α) : Option α := match st with
  | x :: r => k x r
  | _ => none
theorem mj_pI_of {α : Type} {st : List Value} {k : Int32 → List Value → Option α} {z : α} (h : mj_pI st k = some z) : ∃ x r, st = .int x :: r ∧ k x r = some z := by
  unfold mj_pI at h
  split at h
  · exact ⟨_, _, rfl, h⟩
  · cases h
theorem mj_pL_of {α : Type} {st : List Value} {k : Int64 → List Value → Option α} {z : α} (h : mj_pL st k = some z) : ∃ x r, st = .long x :: r ∧ k x r = some z := by
  unfold mj_pL at h
  split at h
  · exact ⟨_, _, rfl, h⟩
  · cases h
theorem mj_pD_of {α : Type} {st : List Value} {k : UInt64 → List Value → Option α} {z : α} (h : mj_pD st k = some z) : ∃ x r, st = .double x :: r ∧ k x r = some z := by
  unfold mj_pD at h
  split at h
  · exact ⟨_, _, rfl, h⟩
  · cases h
theorem mj_pF_of {α : Type} {st : List Value} {k : UInt32 → List Value → Option α} {z : α} (h : mj_pF st k = some z) : ∃ x r, st = .float x :: r ∧ k x r = some z := by
  unfold mj_pF at h
  split at h
  · exact ⟨_, _, rfl, h⟩
  · cases h
theorem mj_pR_of {α : Type} {st : List Value} {k : Nat → List Value → Option α} {z : α} (h : mj_pR st k = some z) : ∃ x r, st = .ref x :: r ∧ k x r = some z := by
  unfold mj_pR at h
  split at h
  · exact ⟨_, _, rfl, h⟩
  · cases h
theorem mj_pA_of {α : Type} {st : List Value} {k : Option Nat → List Value → Option α} {z : α} (h : mj_pA st k = some z) : ∃ x r, st = va_rf x :: r ∧ k x r = some z := by
  unfold mj_pA at h
  split at h
  · exact ⟨_, _, rfl, h⟩
  · exact ⟨none, _, rfl, h⟩
  · cases h
theorem mj_pV_of {α : Type} {st : List Value} {k : Value → List Value → Option α} {z : α} (h : mj_pV st k = some z) : ∃ x r, st = x :: r ∧ k x r = some z := by
  unfold mj_pV at h
  split at h
  · exact ⟨_, _, rfl, h⟩
  · cases h
def mj_jmp (pc : Nat) (off : Int) : Nat := ((pc : Int) + off).toNat
/-- a local is read -/
def mj_ld (ls : mj_L) (i : Nat) : Option Value := (ls[i]?).join
/-- a local is written: what of a long lay there is gone -/
def mj_clr (ls : mj_L) (i : Nat) : mj_L := match i with
  | 0 => ls
  | j + 1 => match mj_ld ls j with
    | some v => if v.category = 2 then ls.set j none else ls
    | none => ls
def mj_st1 (ls : mj_L) (i : Nat) (v : Value) : mj_L := (mj_clr ls i).set i (some v)
def mj_st2 (ls : mj_L) (i : Nat) (v : Value) : mj_L := ((mj_clr ls i).set i (some v)).set (i + 1) none
/-- how long an instruction is (switches apart) -/
def mj_len (i : Instr) : Nat := match i with
  | .bipush _ | .iload _ | .lload _ | .dload _ | .fload _ | .aload _ | .istore _ | .lstore _ | .dstore _ | .fstore _ | .astore _ | .ldc _ | .newarray _ => 2
  | .sipush _ | .iinc _ _ | .ifCond _ _ | .if_icmp _ _ | .if_acmp _ _ | .goto _ | .ifnull _ | .ifnonnull _ | .getfield _ | .putfield _ | .getstatic _ | .putstatic _ | .new _ | .anewarray _ | .checkcast _ | .instanceof _ | .invokevirtual _ | .invokespecial _ | .invokestatic _ | .ldc_w _ | .ldc2_w _ => 3
  | .invokeinterface _ _ => 5
  | _ => 1
/-- pc, locals, operand stack -/
abbrev mj_F : Type := Nat × mj_L × List Value
def mj_ci (c : ClassFile.Cond) (x y : Int32) : Bool := match c with
  | .eq => decide (x = y)
  | .ne => decide (¬ x = y)
  | .lt => decide (x < y)
  | .ge => decide (y ≤ x)
  | .gt => decide (y < x)
  | .le => decide (x ≤ y)
def mj_br (b : Bool) (pc : Nat) (off : Int) (ls : mj_L) (st : List Value) : Option mj_F := match b with
  | true => some (mj_jmp pc off, ls, st)
  | false => some (pc + 3, ls, st)
def mj_ldI (i n pc : Nat) (ls : mj_L) (st : List Value) : Option mj_F := match mj_ld ls i with
  | some (.int x) => some (pc + n, ls, .int x :: st)
  | _ => none
def mj_ldL (i n pc : Nat) (ls : mj_L) (st : List Value) : Option mj_F := match mj_ld ls i with
  | some (.long x) => some (pc + n, ls, .long x :: st)
  | _ => none
def mj_ldD (i n pc : Nat) (ls : mj_L) (st : List Value) : Option mj_F := match mj_ld ls i with
  | some (.double x) => some (pc + n, ls, .double x :: st)
  | _ => none
def mj_ldA (i n pc : Nat) (ls : mj_L) (st : List Value) : Option mj_F := match mj_ld ls i with
  | some (.ref x) => some (pc + n, ls, .ref x :: st)
  | some .null => some (pc + n, ls, .null :: st)
  | _ => none
def mj_stI (i n pc : Nat) (ls : mj_L) (st : List Value) : Option mj_F := mj_pI st fun x r => if i < ls.length then some (pc + n, mj_st1 ls i (.int x), r) else none
def mj_stL (i n pc : Nat) (ls : mj_L) (st : List Value) : Option mj_F := mj_pL st fun x r => if i + 1 < ls.length then some (pc + n, mj_st2 ls i (.long x), r) else none
def mj_stD (i n pc : Nat) (ls : mj_L) (st : List Value) : Option mj_F := mj_pD st fun x r => if i + 1 < ls.length then some (pc + n, mj_st2 ls i (.double x), r) else none
def mj_stA (i n pc : Nat) (ls : mj_L) (st : List Value) : Option mj_F := mj_pA st fun x r => if i < ls.length then some (pc + n, mj_st1 ls i (va_rf x), r) else none
/-- two that may be compared: new cells, or the empty array -/
def mj_acok (x y : Option Nat) : Bool := match x, y with
  | some a, some b => decide (a = b) || ((decide (a < mj_CB) || decide (a = mj_CB)) && (decide (b < mj_CB) || decide (b = mj_CB)))
  | _, _ => true
/-- what touches no cell -/
def mj_sp (E : mj_E) (pc : Nat) (ls : mj_L) (st : List Value) : Option mj_F := match E.1 with
  | .aconst_null => some (pc + 1, ls, .null :: st)
  | .iconst _ => some (pc + 1, ls, .int (nI E.2.1) :: st)
  | .bipush _ => some (pc + 2, ls, .int (nI E.2.1) :: st)
  | .sipush _ => some (pc + 3, ls, .int (nI E.2.1) :: st)
  | .lconst _ => some (pc + 1, ls, .long (lN E.2.1) :: st)
  | .iload_n k => mj_ldI k 1 pc ls st
  | .iload i => mj_ldI i 2 pc ls st
  | .lload_n k => mj_ldL k 1 pc ls st
  | .lload i => mj_ldL i 2 pc ls st
  | .dload_n k => mj_ldD k 1 pc ls st
  | .dload i => mj_ldD i 2 pc ls st
  | .aload_n k => mj_ldA k 1 pc ls st
  | .aload i => mj_ldA i 2 pc ls st
  | .istore_n k => mj_stI k 1 pc ls st
  | .istore i => mj_stI i 2 pc ls st
  | .lstore_n k => mj_stL k 1 pc ls st
  | .lstore i => mj_stL i 2 pc ls st
  | .dstore_n k => mj_stD k 1 pc ls st
  | .dstore i => mj_stD i 2 pc ls st
  | .astore_n k => mj_stA k 1 pc ls st
  | .astore i => mj_stA i 2 pc ls st
  | .iinc i _ => match mj_ld ls i with
    | some (.int x) => if i < ls.length then some (pc + 3, mj_st1 ls i (.int (x + nI E.2.1)), st) else none
    | _ => none
  | .iadd => mj_pI st fun y st => mj_pI st fun x r => some (pc + 1, ls, .int (x + y) :: r)
  | .isub => mj_pI st fun y st => mj_pI st fun x r => some (pc + 1, ls, .int (x - y) :: r)
  | .imul => mj_pI st fun y st => mj_pI st fun x r => some (pc + 1, ls, .int (x * y) :: r)
  | .iand => mj_pI st fun y st => mj_pI st fun x r => some (pc + 1, ls, .int (x &&& y) :: r)
  | .ior => mj_pI st fun y st => mj_pI st fun x r => some (pc + 1, ls, .int (x ||| y) :: r)
  | .ixor => mj_pI st fun y st => mj_pI st fun x r => some (pc + 1, ls, .int (x ^^^ y) :: r)
  | .idiv => mj_pI st fun y st => mj_pI st fun x r => if y = 0 then none else some (pc + 1, ls, .int (x / y) :: r)
  | .irem => mj_pI st fun y st => mj_pI st fun x r => if y = 0 then none else some (pc + 1, ls, .int (x - x / y * y) :: r)
  | .ineg => mj_pI st fun x r => some (pc + 1, ls, .int (-x) :: r)
  | .ishl => mj_pI st fun y st => mj_pI st fun x r => some (pc + 1, ls, .int (x <<< (y &&& 31)) :: r)
  | .ishr => mj_pI st fun y st => mj_pI st fun x r => some (pc + 1, ls, .int (x >>> (y &&& 31)) :: r)
  | .iushr => mj_pI st fun y st => mj_pI st fun x r => some (pc + 1, ls, .int (x.toUInt32 >>> (y.toUInt32 &&& Int32.toUInt32 31)).toInt32 :: r)
  | .ladd => mj_pL st fun y st => mj_pL st fun x r => some (pc + 1, ls, .long (x + y) :: r)
  | .lmul => mj_pL st fun y st => mj_pL st fun x r => some (pc + 1, ls, .long (x * y) :: r)
  | .lcmp => mj_pL st fun y st => mj_pL st fun x r => some (pc + 1, ls, .int (lg_cmp x y) :: r)
  | .i2l => mj_pI st fun x r => some (pc + 1, ls, .long x.toInt64 :: r)
  | .i2b => mj_pI st fun x r => some (pc + 1, ls, .int x.toInt8.toInt32 :: r)
  | .i2c => mj_pI st fun x r => some (pc + 1, ls, .int (x.toUInt32 % 65536).toInt32 :: r)
  | .i2d => mj_pI st fun x r => some (pc + 1, ls, .double (FP.i2d x) :: r)
  | .i2f => mj_pI st fun x r => some (pc + 1, ls, .float (FP.i2f x) :: r)
  | .dconst n => if n = 0 then some (pc + 1, ls, .double FP.dconst0 :: st) else none
  | .fdiv => mj_pF st fun y st => mj_pF st fun x r => if FP.fdiv x y &&& 0x7fffffff ≤ 0x7f800000 then some (pc + 1, ls, .float (FP.fdiv x y) :: r) else none
  | .ddiv => mj_pD st fun y st => mj_pD st fun x r => if FP.ddiv x y &&& 0x7fffffffffffffff ≤ 0x7ff0000000000000 then some (pc + 1, ls, .double (FP.ddiv x y) :: r) else none
  | .f2d => mj_pF st fun x r => if FP.f2d x &&& 0x7fffffffffffffff ≤ 0x7ff0000000000000 then some (pc + 1, ls, .double (FP.f2d x) :: r) else none
  | .dcmp op => mj_pD st fun y st => mj_pD st fun x r => some (pc + 1, ls, .int (Op.cmpValue (FP.dcmp x y) op) :: r)
  | .pop => mj_pV st fun v r => if v.category = 1 then some (pc + 1, ls, r) else none
  | .dup => mj_pV st fun v r => if v.category = 1 then some (pc + 1, ls, v :: v :: r) else none
  | .dup_x1 => mj_pV st fun v st => mj_pV st fun w r => if v.category = 1 ∧ w.category = 1 then some (pc + 1, ls, v :: w :: v :: r) else none
  | .dup2 => mj_pV st fun v st => mj_pV st fun w r => if v.category = 1 ∧ w.category = 1 then some (pc + 1, ls, v :: w :: v :: w :: r) else none
  | .goto off => some (mj_jmp pc off, ls, st)
  | .ifCond c off => mj_pI st fun x r => mj_br (mj_ci c x 0) pc off ls r
  | .if_icmp c off => mj_pI st fun y st => mj_pI st fun x r => mj_br (mj_ci c x y) pc off ls r
  | .if_acmp c off => mj_pA st fun y st => mj_pA st fun x r => if mj_acok x y = true then mj_br (match c with | .eq => decide (x = y) | .ne => decide (¬ x = y)) pc off ls r else none
  | .ifnull off => mj_pA st fun x r => mj_br (decide (x = none)) pc off ls r
  | .ifnonnull off => mj_pA st fun x r => mj_br (decide (¬ x = none)) pc off ls r
  | .tableswitch d lo hi offs => mj_pI st fun x r => if x.toInt < lo ∨ hi < x.toInt then some (mj_jmp pc d, ls, r) else match offs[(x.toInt - lo).toNat]? with
    | some off => some (mj_jmp pc off, ls, r)
    | none => none
  | .lookupswitch d ps => mj_pI st fun x r => some (mj_jmp pc (Op.lookupswitch.offset ps.toList d x.toInt), ls, r)
  | _ => none
/-! What stood before: ArrayList's empty array, the cache of Integers, the digits, a Class, Integers, texts. -/
def mj_byt (l : List Nat) (j : Nat) : Int32 := (nI (l.getD j 0)).toInt8.toInt32
def mj_dgO : List Nat := (List.range 100).map fun j => 48 + j % 10
def mj_dgT : List Nat := (List.range 100).map fun j => 48 + j / 10
def mj_txt : List (List Nat) := [[], [43, 45, 94, 126], [43, 45, 42, 38], [33, 63, 64, 36, 91, 123], [43, 45, 33, 63, 64, 36], [59], [58], [124], [93], [125], [126]]
def mj_cst (k : Nat) : Option mj_C := match k with
  | 0 => some (.inl (6, (0, .inr (.inr (.inr (.inr fun _ => none))))))
  | 1 => some (.inl (10, (256, .inr (.inr (.inr (.inr fun j => some (mj_CB + 10 + j)))))))
  | 2 => some (.inl (1, (100, .inl (mj_byt mj_dgO))))
  | 3 => some (.inl (1, (100, .inl (mj_byt mj_dgT))))
  | k => if 10 ≤ k ∧ k < 266 then some (.inr (29, [.int (nI (k - 10) - 128)]))
    else if 300 ≤ k then match mj_txt[(k - 300) / 2]? with
      | some l => if k % 2 = 0 then some (.inr (21, [.ref (mj_CB + k + 1), .int 0])) else some (.inl (1, (l.length, .inl (mj_byt l))))
      | none => none
    else none
def mj_stv : List Value := [.ref mj_CB, .int 1, .int 1, .int 0, .int 8, .ref (mj_CB + 2), .ref (mj_CB + 3), .int 127, .ref (mj_CB + 1), .retAddr 0, .retAddr 2, .retAddr 3]
/-- by the kinds of arrays, the classes whose objects may be put into them -/
def mj_asl : List (List Nat) := [[], [], [], [], [], [], List.range 30, [4], [1], [28], [29]]
/-- whose the statics are -/
def mj_stn : List (String × String × String) := [("java/util/ArrayList", "DEFAULTCAPACITY_EMPTY_ELEMENTDATA", "[Ljava/lang/Object;"), ("java/lang/String", "COMPACT_STRINGS", "Z"), ("java/lang/StringUTF16", "$assertionsDisabled", "Z"), ("java/lang/StringUTF16", "HI_BYTE_SHIFT", "I"), ("java/lang/StringUTF16", "LO_BYTE_SHIFT", "I"), ("java/lang/Integer", "DigitOnes", "[B"), ("java/lang/Integer", "DigitTens", "[B"), ("java/lang/Integer$IntegerCache", "high", "I"), ("java/lang/Integer$IntegerCache", "cache", "[Ljava/lang/Integer;"), ("jdk/internal/util/Preconditions", "SIOOBE_FORMATTER", "Ljava/util/function/BiFunction;"), ("java/lang/Throwable", "UNASSIGNED_STACK", "[Ljava/lang/StackTraceElement;"), ("java/lang/Throwable", "SUPPRESSED_SENTINEL", "Ljava/util/List;")]
/-- which text a class's constant is: class, number, place among the texts, the text -/
def mj_str : List (String × Nat × Nat × String) := [("UncomputeryModel", 25, 0, ""), ("UncomputeryModel$Sum", 29, 0, ""), ("UncomputeryModel$Part", 64, 0, ""), ("UncomputeryModel$Reader", 117, 1, "+-^~"), ("UncomputeryModel$Reader", 127, 2, "+-*&"), ("UncomputeryModel$Reader", 95, 3, "!?@$[{"), ("UncomputeryModel$Part", 81, 4, "+-!?@$"), ("UncomputeryModel", 72, 5, ";"), ("UncomputeryModel$Part", 37, 6, ":"), ("UncomputeryModel$Part", 49, 7, "|"), ("UncomputeryModel$Part", 57, 8, "]"), ("UncomputeryModel$Part", 59, 9, "}"), ("UncomputeryModel$Part", 73, 10, "~")]
