/-! What touches cells. -/
def mj_inb (i : Int32) (n : Nat) : Bool := !decide (i < 0) && !decide (n ≤ i.toNatClampNeg)
theorem mj_inb_of {i : Int32} {n : Nat} (h : mj_inb i n = true) : vp_in i n := by
  simp only [mj_inb, Bool.and_eq_true, Bool.not_eq_true', decide_eq_false_iff_not] at h
  exact fun q => q.elim h.1 h.2
theorem mj_inb_is {i : Int32} {n : Nat} (h : vp_in i n) : mj_inb i n = true := by
  simp only [mj_inb, Bool.and_eq_true, Bool.not_eq_true', decide_eq_false_iff_not]
  exact ⟨fun q => h (Or.inl q), fun q => h (Or.inr q)⟩
def mj_rd (h : mj_H) (a : Nat) : Option mj_C := if a < mj_CB then h[a]? else mj_cst (a - mj_CB)
def mj_rdO (h : mj_H) (a : Nat) : Option (Nat × List Value) := match mj_rd h a with
  | some (.inr x) => some x
  | _ => none
/-- (an array of Integers is not among the made ones) -/
def mj_rdA (h : mj_H) (a : Nat) : Option (Nat × vp_A) := match mj_rd h a with
  | some (.inl x) => if a < mj_CB ∧ x.1 = 10 then none else some x
  | _ => none
/-- may a value stand in a field of a type -/
def mj_fit (ty : FieldType) (v : Value) : Bool := match ty, v with
  | .int, .int _ => true
  | .long, .long _ => true
  | .double, .double _ => true
  | .float, .float _ => true
  | .boolean, .int x => decide (vp_nar .boolean x = x) && fits .boolean (.int x)
  | .byte, .int x => decide (vp_nar .byte x = x) && fits .byte (.int x)
  | .char, .int x => decide (vp_nar .char x = x) && fits .char (.int x)
  | .object _, .ref _ => true
  | .object _, .null => true
  | .object _, .retAddr _ => true
  | .array _, .retAddr _ => true
  | .array _, .ref _ => true
  | .array _, .null => true
  | _, _ => false
def mj_gf (E : mj_E) (pc : Nat) (ls : mj_L) (st : List Value) (h : mj_H) : Option mj_S := mj_pR st fun a r => match mj_rdO h a with
  | some (c, fs) => if c = E.2.2.1 then match fs[E.2.1]? with
      | some v => some (pc + 3, ls, v :: r, h)
      | none => none
    else none
  | none => none
def mj_pf (E : mj_E) (pc : Nat) (ls : mj_L) (st : List Value) (h : mj_H) : Option mj_S := mj_pV st fun v st => mj_pR st fun a r => if a < mj_CB then match mj_rdO h a with
  | some (c, fs) => if c = E.2.2.1 ∧ E.2.1 < fs.length ∧ mj_fit (mj_cty c E.2.1) v = true then some (pc + 3, ls, r, h.set a (.inr (c, fs.set E.2.1 v))) else none
  | none => none
  else none
def mj_ald (i : Int32) (a : vp_A) : Option Value := if mj_inb i a.1 = true then some (match a.2 with
  | .inl f => .int (f i.toNatClampNeg)
  | .inr (.inl f) => .long (f i.toNatClampNeg)
  | .inr (.inr (.inl f)) => .float (f i.toNatClampNeg)
  | .inr (.inr (.inr (.inl f))) => .double (f i.toNatClampNeg)
  | .inr (.inr (.inr (.inr f))) => va_rf (f i.toNatClampNeg)) else none
/-- which instruction reads and writes which kind of array -/
def mj_kld (i : Instr) (t : Nat) (a : vp_A) : Bool := match i, a.2 with
  | .iaload, .inl _ => decide (t = 0)
  | .baload, .inl _ => decide (t = 1 ∨ t = 2)
  | .caload, .inl _ => decide (t = 3)
  | .laload, .inr (.inl _) => decide (t = 4)
  | .daload, .inr (.inr (.inr (.inl _))) => decide (t = 5)
  | .aaload, .inr (.inr (.inr (.inr _))) => decide (6 ≤ t ∧ t < 11)
  | _, _ => false
def mj_al (ins : Instr) (pc : Nat) (ls : mj_L) (st : List Value) (h : mj_H) : Option mj_S := mj_pI st fun i st => mj_pR st fun a r => match mj_rdA h a with
  | some (t, x) => if mj_kld ins t x = true then match mj_ald i x with
      | some v => some (pc + 1, ls, v :: r, h)
      | none => none
    else none
  | none => none
def mj_sto (h : mj_H) (a : Nat) (pc : Nat) (ls : mj_L) (r : List Value) (i : Int32) (k : Nat → Nat → (Nat → Int32) ⊕ (Nat → Int64) ⊕ (Nat → UInt32) ⊕ (Nat → UInt64) ⊕ (Nat → Option Nat) → Option vp_A) : Option mj_S := if a < mj_CB then match mj_rdA h a with
  | some (t, (n, x)) => if mj_inb i n = true then match k t n x with
      | some y => some (pc + 1, ls, r, h.set a (.inl (t, y)))
      | none => none
    else none
  | none => none
  else none
/-- what may be put into an array of references: by the array's kind and the class -/
def mj_aok (t : Nat) (c : Nat) : Bool := (mj_asl[t]?.getD []).contains c
def mj_ocl (h : mj_H) (a : Nat) : Option Nat := match mj_rdO h a with
  | some (c, _) => some c
  | none => none
def mj_as1 (ins : Instr) (pc : Nat) (ls : mj_L) (st : List Value) (h : mj_H) : Option mj_S := match ins with
  | .iastore => mj_pI st fun v st => mj_pI st fun i st => mj_pR st fun a r => mj_sto h a pc ls r i fun t n x => match x with
    | .inl f => if t = 0 then some (n, .inl (upd f i.toNatClampNeg v)) else none
    | _ => none
  | .bastore => mj_pI st fun v st => mj_pI st fun i st => mj_pR st fun a r => mj_sto h a pc ls r i fun t n x => match x with
    | .inl f => if t = 1 then some (n, .inl (upd f i.toNatClampNeg (vp_nar .byte v))) else if t = 2 then some (n, .inl (upd f i.toNatClampNeg (vp_nar .boolean v))) else none
    | _ => none
  | .castore => mj_pI st fun v st => mj_pI st fun i st => mj_pR st fun a r => mj_sto h a pc ls r i fun t n x => match x with
    | .inl f => if t = 3 then some (n, .inl (upd f i.toNatClampNeg (vp_nar .char v))) else none
    | _ => none
  | .lastore => mj_pL st fun v st => mj_pI st fun i st => mj_pR st fun a r => mj_sto h a pc ls r i fun t n x => match x with
    | .inr (.inl f) => if t = 4 then some (n, .inr (.inl (vp_updL f i.toNatClampNeg v))) else none
    | _ => none
  | .dastore => mj_pD st fun v st => mj_pI st fun i st => mj_pR st fun a r => mj_sto h a pc ls r i fun t n x => match x with
    | .inr (.inr (.inr (.inl f))) => if t = 5 then some (n, .inr (.inr (.inr (.inl (vf_upd f i.toNatClampNeg v))))) else none
    | _ => none
  | .aastore => mj_pA st fun v st => mj_pI st fun i st => mj_pR st fun a r => mj_sto h a pc ls r i fun t n x => match x with
    | .inr (.inr (.inr (.inr f))) => match v with
      | none => if 6 ≤ t ∧ t < 10 then some (n, .inr (.inr (.inr (.inr (va_up f i.toNatClampNeg none))))) else none
      | some q => match mj_ocl h q with
        | some c => if (6 ≤ t ∧ t < 10) ∧ mj_aok t c = true then some (n, .inr (.inr (.inr (.inr (va_up f i.toNatClampNeg (some q)))))) else none
        | none => none
    | _ => none
  | _ => none
/-- a new array of a kind, all its places empty -/
def mj_arr0 (t n : Nat) : vp_A := match t with
  | 4 => (n, .inr (.inl fun _ => 0))
  | 5 => (n, .inr (.inr (.inr (.inl fun _ => 0))))
  | 0 => (n, .inl fun _ => 0)
  | 1 => (n, .inl fun _ => 0)
  | 2 => (n, .inl fun _ => 0)
  | 3 => (n, .inl fun _ => 0)
  | _ => (n, .inr (.inr (.inr (.inr fun _ => none))))
def mj_na (t len pc : Nat) (ls : mj_L) (st : List Value) (h : mj_H) : Option mj_S := mj_pI st fun n r => if ¬ n < 0 ∧ n.toNatClampNeg ≤ 67108864 then some (pc + len, ls, .ref h.length :: r, h ++ [.inl (t, mj_arr0 t n.toNatClampNeg)]) else none
def mj_sh (E : mj_E) (pc : Nat) (ls : mj_L) (st : List Value) (h : mj_H) : Option mj_S := match E.1 with
  | .getfield _ => mj_gf E pc ls st h
  | .putfield _ => mj_pf E pc ls st h
  | .iaload => mj_al .iaload pc ls st h
  | .baload => mj_al .baload pc ls st h
  | .caload => mj_al .caload pc ls st h
  | .laload => mj_al .laload pc ls st h
  | .daload => mj_al .daload pc ls st h
  | .aaload => mj_al .aaload pc ls st h
  | .iastore => mj_as1 .iastore pc ls st h
  | .bastore => mj_as1 .bastore pc ls st h
  | .castore => mj_as1 .castore pc ls st h
  | .lastore => mj_as1 .lastore pc ls st h
  | .dastore => mj_as1 .dastore pc ls st h
  | .aastore => mj_as1 .aastore pc ls st h
  | .arraylength => mj_pR st fun a r => match mj_rdA h a with
    | some (t, (n, _)) => if t < 11 then some (pc + 1, ls, .int (nI n) :: r, h) else none
    | none => none
  | .newarray _ => mj_na E.2.1 2 pc ls st h
  | .anewarray _ => mj_na E.2.1 3 pc ls st h
  | .new _ => match mj_dfl[E.2.1]? with
    | some fs => some (pc + 3, ls, .ref h.length :: st, h ++ [.inr (E.2.1, fs)])
    | none => none
  | .checkcast _ => mj_pA st fun x r => match x with
    | none => some (pc + 3, ls, .null :: r, h)
    | some a => if E.2.2.1 = 0 then match mj_rdO h a with
        | some (c, _) => if c = E.2.1 then some (pc + 3, ls, .ref a :: r, h) else none
        | none => none
      else if a < mj_CB then match mj_rdA h a with
        | some (t, _) => if t = E.2.1 then some (pc + 3, ls, .ref a :: r, h) else none
        | none => none
      else none
  | .ldc _ => match E.2.1 with
    | 0 => some (pc + 2, ls, .int (nI E.2.2.1) :: st, h)
    | 1 => some (pc + 2, ls, .ref (mj_CB + E.2.2.1) :: st, h)
    | 2 => some (pc + 2, ls, .ref (mj_CB + 4) :: st, h)
    | 3 => some (pc + 2, ls, .float (UInt32.ofNat E.2.2.1) :: st, h)
    | _ => none
  | .ldc_w _ => match E.2.1 with
    | 0 => some (pc + 3, ls, .int (nI E.2.2.1) :: st, h)
    | 3 => some (pc + 3, ls, .float (UInt32.ofNat E.2.2.1) :: st, h)
    | _ => none
  | .ldc2_w _ => some (pc + 3, ls, .long (lN E.2.1) :: st, h)
  | .getstatic _ => match mj_stv[E.2.1]? with
    | some v => some (pc + 3, ls, v :: st, h)
    | none => none
  | _ => none
