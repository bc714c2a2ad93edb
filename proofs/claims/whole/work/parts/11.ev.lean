/-! The small machine's calls, throws and ends. -/
/-- code by method and place, the locals of a method, its handlers (from, to, handler, class) -/
abbrev mj_G : Type := (Nat → Nat → Option mj_E) × (Nat → Nat) × (Nat → List (Nat × Nat × Nat × Nat))
/-- a value that is given back, or a cell that is thrown -/
abbrev mj_O : Type := (Option Value) ⊕ Nat
def mj_ent (as : List Value) : mj_L := as.flatMap fun v => if v.category = 2 then [some v, none] else [some v]
def mj_entry (n : Nat) (as : List Value) : mj_L := mj_ent as ++ List.replicate (n - (mj_ent as).length) none
/-- a class of exceptions of the JDK's -/
def mj_exc (ci : Nat) : Bool := decide (11 ≤ ci ∧ ci ≤ 15)
def mj_find (hd : List (Nat × Nat × Nat × Nat)) (pc ci : Nat) : Option (Option Nat) := match hd with
  | [] => some none
  | x :: r => if x.1 ≤ pc ∧ pc < x.2.1 then if x.2.2.2 = ci then some (some x.2.2.1) else if mj_exc ci = true ∧ mj_exc x.2.2.2 = true then mj_find r pc ci else none
    else mj_find r pc ci
def mj_thr (G : mj_G) (rec : Nat → Nat → mj_S → Option (mj_O × mj_H)) (d mi pc : Nat) (ls : mj_L) (q : Nat) (h : mj_H) : Option (mj_O × mj_H) := if q < mj_CB then match mj_ocl h q with
  | some ci => match mj_find (G.2.2 mi) pc ci with
    | some (some hp) => rec d mi (hp, ls, [.ref q], h)
    | some none => some (.inr q, h)
    | none => none
  | none => none
  else none
/-- bytes that may be copied -/
def mj_cpr (f : Nat → Int32) (sp n : Nat) : Bool := (List.range n).all fun i => fits .byte (.int (f (sp + i)))
/-- references that may be copied -/
def mj_cpq (h : mj_H) (f : Nat → Option Nat) (sp n : Nat) : Bool := (List.range n).all fun i => match f (sp + i) with
  | none => true
  | some q => match mj_ocl h q with
    | some c => mj_aok 6 c
    | none => false
def mj_cpy (h : mj_H) (a : Nat) (sp : Int32) (b : Nat) (dp n : Int32) : Option mj_H := match mj_rdA h a, mj_rdA h b with
  | some (t, (m, x)), some (t2, (k, y)) => if b < mj_CB ∧ t = t2 ∧ (¬ sp < 0 ∧ ¬ dp < 0 ∧ ¬ n < 0) ∧ sp.toNatClampNeg + n.toNatClampNeg ≤ m ∧ dp.toNatClampNeg + n.toNatClampNeg ≤ k then match x, y with
      | .inl f, .inl g => if (t = 0 ∧ a < mj_CB) ∨ (t = 1 ∧ mj_cpr f sp.toNatClampNeg n.toNatClampNeg = true) then some (h.set b (.inl (t2, (k, .inl (va_cpy f g sp.toNatClampNeg dp.toNatClampNeg n.toNatClampNeg))))) else none
      | .inr (.inr (.inr (.inr f))), .inr (.inr (.inr (.inr g))) => if t = 6 ∧ mj_cpq h f sp.toNatClampNeg n.toNatClampNeg = true then some (h.set b (.inl (t2, (k, .inr (.inr (.inr (.inr (va_cpy f g sp.toNatClampNeg dp.toNatClampNeg n.toNatClampNeg)))))))) else none
      | _, _ => none
    else none
  | _, _ => none
/-- the methods that have no code: by number; 0: arraycopy, 1: getClass of an array of objects, 2: clone of bytes, 3: Object.<init>, 4, 5: the greater, the smaller int -/
def mj_prim (k : Nat) (as : List Value) (h : mj_H) : Option (Option Value × mj_H) := match k, as with
  | 0, [.ref a, .int sp, .ref b, .int dp, .int n] => match mj_cpy h a sp b dp n with
    | some h' => some (none, h')
    | none => none
  | 1, [.ref a] => match mj_rdA h a with
    | some (6, _) => some (some (.ref (mj_CB + 4)), h)
    | _ => none
  | 2, [.ref a] => if a < mj_CB then match mj_rdA h a with
      | some (1, (n, .inl f)) => if mj_cpr f 0 n = true then some (some (.ref h.length), h ++ [.inl (1, (n, .inl f))]) else none
      | _ => none
    else none
  | 3, [.ref _] => some (none, h)
  | 4, [.int x, .int y] => some (some (.int (if x < y then y else x)), h)
  | 5, [.int x, .int y] => some (some (.int (if y < x then y else x)), h)
  | _, _ => none
def mj_ivl (i : Instr) : Nat := match i with
  | .invokeinterface _ _ => 5
  | _ => 3
/-- the first argument is a cell, of a class -/
def mj_rcv (k : Nat) (as : List Value) (h : mj_H) : Bool := match k with
  | 0 => true
  | k + 1 => match as with
    | .ref a :: _ => decide (mj_ocl h a = some k)
    | _ => false
def mj_inv (G : mj_G) (rec : Nat → Nat → mj_S → Option (mj_O × mj_H)) (d mi : Nat) (E : mj_E) (pc : Nat) (ls : mj_L) (st : List Value) (h : mj_H) : Option (mj_O × mj_H) :=
  if E.2.2.1 ≤ st.length ∧ ((st.drop E.2.2.1).map fun v => v.category).sum ≤ 8 then
    if 9000 ≤ E.2.1 then match mj_prim (E.2.1 - 9000) (st.take E.2.2.1).reverse h with
      | some (v, h') => rec d mi (pc + 3, ls, v.toList ++ st.drop E.2.2.1, h')
      | none => none
    else if mj_rcv E.2.2.2 (st.take E.2.2.1).reverse h = true then
      match d with
      | 0 => none
      | d' + 1 => if (mj_ent (st.take E.2.2.1).reverse).length ≤ G.2.1 E.2.1 then match rec d' E.2.1 (0, mj_entry (G.2.1 E.2.1) (st.take E.2.2.1).reverse, [], h) with
          | some (.inl v, h') => rec d mi (pc + mj_ivl E.1, ls, v.toList ++ st.drop E.2.2.1, h')
          | some (.inr q, h') => mj_thr G rec d mi pc ls q h'
          | none => none
        else none
    else none
  else none
def mj_nar (k : Nat) (x : Int32) : Bool := match k with
  | 0 => true
  | 1 => decide (vp_nar .boolean x = x)
  | 2 => decide (vp_nar .char x = x)
  | 3 => decide (vp_nar .byte x = x)
  | _ => false
/-- no call, no throw, no end -/
def mj_nx (rec : Nat → Nat → mj_S → Option (mj_O × mj_H)) (d mi : Nat) (E : mj_E) (pc : Nat) (ls : mj_L) (st : List Value) (h : mj_H) : Option (mj_O × mj_H) := match mj_sp E pc ls st with
  | some F => rec d mi (F.1, F.2.1, F.2.2, h)
  | none => match mj_sh E pc ls st h with
    | some S => rec d mi S
    | none => none
/-- what is pushed ahead of the call of the constructor of a class of exceptions of one's own: by a number -/
def mj_fls (k : Nat) : List mj_E := match k with
  | 0 => [(.aload_n 0, 0, 0, 0), (.getfield 13, 1, 22, 0), (.iload_n 2, 0, 0, 0)]
  | 1 => [(.aload_n 0, 0, 0, 0), (.getfield 13, 1, 22, 0), (.iconst 1, 1, 0, 0), (.isub, 0, 0, 0), (.bipush 114, 114, 0, 0)]
  | _ => [(.iload_n 1, 0, 0, 0), (.bipush 114, 114, 0, 0)]
def mj_pe (l : List mj_E) (pc : Nat) : Nat := match l with
  | [] => pc
  | E :: r => mj_pe r (pc + mj_len E.1)
def mj_pu (l : List mj_E) (pc : Nat) (ls : mj_L) (st : List Value) (h : mj_H) : Option (List Value) := match l with
  | [] => some st
  | E :: r => match E.1 with
    | .getfield _ => match mj_gf E pc ls st h with
      | some S => if S.1 = pc + mj_len E.1 then mj_pu r S.1 S.2.1 S.2.2.1 h else none
      | none => none
    | _ => match mj_sp E pc ls st with
      | some F => if F.1 = pc + mj_len E.1 then mj_pu r F.1 F.2.1 F.2.2 h else none
      | none => none
/-- 'throw new E(x, y)' of such a class, of two fields -/
def mj_flt (E : mj_E) (pc : Nat) (ls : mj_L) (st : List Value) (h : mj_H) : Option (mj_O × mj_H) :=
  if (st.map fun v => v.category).sum ≤ 6 ∧ h.length < mj_CB then match mj_pu (mj_fls E.2.2.1) (pc + 4) ls (.ref h.length :: .ref h.length :: st) h with
    | some (.int y :: .int x :: r) => if r = .ref h.length :: .ref h.length :: st ∧ mj_fit .char (.int y) = true then some (.inr h.length, h ++ [.inr (E.2.1, [.int x, .int y])]) else none
    | _ => none
  else none
def mj_evI (G : mj_G) (rec : Nat → Nat → mj_S → Option (mj_O × mj_H)) (d mi : Nat) (E : mj_E) (pc : Nat) (ls : mj_L) (st : List Value) (h : mj_H) : Option (mj_O × mj_H) := match E.1 with
  | .ireturn => mj_pI st fun x r => if r = [] ∧ mj_nar E.2.1 x = true then some (.inl (some (.int x)), h) else none
  | .lreturn => mj_pL st fun x r => if r = [] then some (.inl (some (.long x)), h) else none
  | .freturn => mj_pF st fun x r => if r = [] then some (.inl (some (.float x)), h) else none
  | .dreturn => mj_pD st fun x r => if r = [] then some (.inl (some (.double x)), h) else none
  | .areturn => mj_pA st fun x r => if r = [] then some (.inl (some (va_rf x)), h) else none
  | .return_ => if st = [] then some (.inl none, h) else none
  | .athrow => mj_pR st fun q r => mj_thr G rec d mi pc ls q h
  | .invokevirtual _ => mj_inv G rec d mi E pc ls st h
  | .invokespecial _ => mj_inv G rec d mi E pc ls st h
  | .invokestatic _ => mj_inv G rec d mi E pc ls st h
  | .invokeinterface _ _ => mj_inv G rec d mi E pc ls st h
  | .new _ => if E.2.2.2 = 0 then match mj_sh E pc ls st h with
      | some S => rec d mi S
      | none => none
    else if E.2.2.2 = 1 then (if (st.map fun v => v.category).sum ≤ 8 then some (.inr h.length, h ++ [.inr (E.2.1, [])]) else none) else mj_flt E pc ls st h
  | _ => mj_nx rec d mi E pc ls st h
/-- n steps at most, d calls open at most -/
def mj_ev (G : mj_G) : Nat → Nat → Nat → mj_S → Option (mj_O × mj_H)
  | 0, _, _, _ => none
  | n + 1, d, mi, S => match G.1 mi S.1 with
    | some E => mj_evI G (mj_ev G n) d mi E S.1 S.2.1 S.2.2.1 S.2.2.2
    | none => none
/-! The cells grow. -/
def mj_le (h h' : mj_H) : Prop := h.length ≤ h'.length ∧ mj_sz h ≤ mj_sz h'
theorem mj_le.rf (h : mj_H) : mj_le h h := ⟨Nat.le_refl _, Nat.le_refl _⟩
theorem mj_le.tr {a b c : mj_H} (h1 : mj_le a b) (h2 : mj_le b c) : mj_le a c := ⟨Nat.le_trans h1.1 h2.1, Nat.le_trans h1.2 h2.2⟩
theorem mj_le.push (h : mj_H) (c : mj_C) : mj_le h (h ++ [c]) := ⟨by rw [List.length_append]; omega, by rw [mj_sz_push]; omega⟩
theorem mj_le.put {h : mj_H} {a : Nat} {c d : mj_C} (h1 : h[a]? = some d) (h2 : mj_cs c = mj_cs d) : mj_le h (h.set a c) := ⟨by rw [List.length_set]; omega, by rw [mj_sz_set h a c d h1 h2]; omega⟩
theorem mj_sto_le {h : mj_H} {a pc : Nat} {ls : mj_L} {r : List Value} {i : Int32} {k : Nat → Nat → (Nat → Int32) ⊕ (Nat → Int64) ⊕ (Nat → UInt32) ⊕ (Nat → UInt64) ⊕ (Nat → Option Nat) → Option vp_A} {S : mj_S} (hk : ∀ t n x y, k t n x = some y → y.1 = n) (h0 : mj_sto h a pc ls r i k = some S) : mj_le h S.2.2.2 := by
  obtain ⟨t, n, x, y, ha, h4, hin, hy, rfl⟩ := mj_sto_of h0
  exact mj_le.put h4 (hk _ _ _ _ hy)
