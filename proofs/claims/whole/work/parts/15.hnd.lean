/-- the handlers as the tables have them, and as the small machine has them -/
def mj_hrel (Ts : List Cond) (own : String) : List (Nat × Nat × Nat × Nat) → List (Nat × Nat × Nat × Nat) → Prop
  | [], [] => True
  | x :: r, y :: t => (x.1 = y.1 ∧ x.2.1 = y.2.1 ∧ x.2.2.1 = y.2.2.1 ∧ x.2.2.2 ≠ 0 ∧ ∃ k, mj_cls[y.2.2.2]? = some k ∧ Cond.classLink own x.2.2.2 k.1 ∈ Ts ∧ Cond.castable k.1 k.1 ∈ Ts) ∧ mj_hrel Ts own r t
  | _, _ => False
/-- a handler that is passed over -/
def mj_pass (Ts : List Cond) (own : String) (pc ci : Nat) (z : ExceptionTableEntry) : Prop := covers z pc = false ∨ (z.catchType ≠ 0 ∧ ∃ (cz : Nat) (k : vw_C), mj_exc ci = true ∧ mj_exc cz = true ∧ ci ≠ cz ∧ mj_cls[cz]? = some k ∧ Cond.classLink own z.catchType k.1 ∈ Ts)
theorem mj_find_some {Ts : List Cond} {own : String} {pc ci hp : Nat} : ∀ (hh hd : List (Nat × Nat × Nat × Nat)), mj_hrel Ts own hh hd → mj_find hd pc ci = some (some hp) →
    ∃ pre x suf, tableOf hh = pre ++ x :: suf ∧ (∀ z ∈ pre, mj_pass Ts own pc ci z) ∧ covers x pc = true ∧ x.catchType ≠ 0 ∧ (∃ k, mj_cls[ci]? = some k ∧ Cond.classLink own x.catchType k.1 ∈ Ts ∧ Cond.castable k.1 k.1 ∈ Ts) ∧ x.handlerPc = hp
  | [], [], _, h => by unfold mj_find at h; cases h
  | [], _ :: _, h, _ => h.elim
  | _ :: _, [], h, _ => h.elim
  | x :: r, y :: t, ⟨⟨e1, e2, e3, e4, k, hk, hw, hc⟩, hr⟩, h => by
    unfold mj_find at h
    split at h
    · rename_i hcov
      split at h
      · rename_i he
        cases h
        refine ⟨[], ⟨x.1, x.2.1, x.2.2.1, x.2.2.2⟩, tableOf r, rfl, fun z hz => (nomatch hz), ?_, e4, ⟨k, by rw [← he]; exact hk, hw, hc⟩, e3⟩
        unfold covers
        rw [e1, e2]
        simp [hcov.1, hcov.2]
      · rename_i hne
        split at h
        · rename_i hx
          obtain ⟨pre, x2, suf, g1, g2, g3⟩ := mj_find_some r t hr h
          refine ⟨⟨x.1, x.2.1, x.2.2.1, x.2.2.2⟩ :: pre, x2, suf, ?_, fun z hz => ?_, g3⟩
          · show _ :: tableOf r = _
            rw [g1]
            rfl
          · rcases List.mem_cons.mp hz with rfl | hz
            · exact Or.inr ⟨e4, y.2.2.2, k, hx.1, hx.2, fun q => hne q.symm, hk, hw⟩
            · exact g2 z hz
        · cases h
    · rename_i hcov
      obtain ⟨pre, x2, suf, g1, g2, g3⟩ := mj_find_some r t hr h
      refine ⟨⟨x.1, x.2.1, x.2.2.1, x.2.2.2⟩ :: pre, x2, suf, ?_, fun z hz => ?_, g3⟩
      · show _ :: tableOf r = _
        rw [g1]
        rfl
      · rcases List.mem_cons.mp hz with rfl | hz
        · refine Or.inl ?_
          unfold covers
          rw [e1, e2]
          by_cases q : y.1 ≤ pc
          · have : ¬ pc < y.2.1 := fun z => hcov ⟨q, z⟩
            simp [this]
          · simp [q]
        · exact g2 z hz
theorem mj_find_none {Ts : List Cond} {own : String} {pc ci : Nat} : ∀ (hh hd : List (Nat × Nat × Nat × Nat)), mj_hrel Ts own hh hd → mj_find hd pc ci = some none → ∀ z ∈ tableOf hh, mj_pass Ts own pc ci z
  | [], [], _, _ => fun z hz => (nomatch hz)
  | [], _ :: _, h, _ => h.elim
  | _ :: _, [], h, _ => h.elim
  | x :: r, y :: t, ⟨⟨e1, e2, e3, e4, k, hk, hw, hc⟩, hr⟩, h => by
    unfold mj_find at h
    split at h
    · rename_i hcov
      split at h
      · cases h
      · rename_i hne
        split at h
        · rename_i hx
          intro z hz
          rcases List.mem_cons.mp hz with rfl | hz
          · exact Or.inr ⟨e4, y.2.2.2, k, hx.1, hx.2, fun q => hne q.symm, hk, hw⟩
          · exact mj_find_none r t hr h z hz
        · cases h
    · rename_i hcov
      intro z hz
      rcases List.mem_cons.mp hz with rfl | hz
      · refine Or.inl ?_
        show (decide (x.1 ≤ pc) && decide (pc < x.2.1)) = false
        rw [e1, e2]
        by_cases q : y.1 ≤ pc
        · have : ¬ pc < y.2.1 := fun z => hcov ⟨q, z⟩
          simp [this]
        · simp [q]
      · exact mj_find_none r t hr h z hz
/-- a word that holds for good -/
def mj_gw (w : Cond) : Bool := goodWord w || match w with
  | .arrayOver (.object _) => true
  | .declares _ => true
  | .publicMethod _ => true
  | .privateMethod _ => true
  | .unhidden _ _ _ => true
  | .castable _ _ => true
  | .fieldLinkNest _ _ _ _ _ _ => true
  | .methodLinkNest _ _ _ _ => true
  | .interfaceMethod a b _ _ => decide (a = b) && decide (a ≠ "java/lang/invoke/MethodHandle") && decide (a ≠ "java/lang/invoke/VarHandle")
  | _ => false
theorem mj_gw_at {args a' : Array Value} {s U : State} {w : Cond} (hW : s.WarmedH U.vm) (hg : mj_gw w = true) (h : w.before args s = true) : w.before a' U = true := by
  unfold mj_gw at hg
  rw [Bool.or_eq_true] at hg
  rcases hg with hg | hg
  · exact word_at hW (good_of_word hg) h
  · split at hg
    · exact (va_AO.of h).moved hW.alike
    · exact va_tabs rfl (rfl : (s.setVm U.vm).vm = U.vm) (by rw [Cond.declares_setVm hW.alike]; exact h)
    · exact va_tabs rfl (rfl : (s.setVm U.vm).vm = U.vm) (by rw [Cond.publicMethod_setVm hW.alike]; exact h)
    · exact va_tabs rfl (rfl : (s.setVm U.vm).vm = U.vm) (by rw [Cond.privateMethod_setVm hW.alike]; exact h)
    · exact va_tabs rfl (rfl : (s.setVm U.vm).vm = U.vm) (by rw [Cond.unhidden_setVm hW.alike]; exact h)
    · exact va_tabs rfl (rfl : (s.setVm U.vm).vm = U.vm) (by rw [Cond.castable_setVm hW.alike]; exact h)
    · exact va_tabs rfl (rfl : (s.setVm U.vm).vm = U.vm) (Cond.fieldLinkNest_warmed hW h)
    · exact va_tabs rfl (rfl : (s.setVm U.vm).vm = U.vm) (Cond.methodLinkNest_warmed hW h)
    · simp only [Bool.and_eq_true, decide_eq_true_eq] at hg
      obtain ⟨⟨rfl, h1⟩, h2⟩ := hg
      obtain ⟨cL, kL, r1, hcL, hkL, hiL, hfoundL, hn1⟩ := Cond.interfaceMethod_spec h
      exact va_tabs rfl (rfl : (s.setVm U.vm).vm = U.vm) (by rw [Cond.interfaceMethod_setVm hW.alike hn1 ⟨h1, h2⟩]; exact h)
    · cases hg
/-- what the tables must say of an answer -/
def mj_okR (rt : Option FieldType) (E : mj_E) : Prop := match E.1 with
  | .ireturn => (E.2.1 = 0 ∧ rt = some .int) ∨ (E.2.1 = 1 ∧ rt = some .boolean) ∨ (E.2.1 = 2 ∧ rt = some .char) ∨ (E.2.1 = 3 ∧ rt = some .byte)
  | .lreturn => rt = some .long
  | .freturn => rt = some .float
  | .dreturn => rt = some .double
  | .areturn => (∃ n, rt = some (.object n)) ∨ ∃ t, rt = some (.array t)
  | .return_ => rt = none
  | _ => True
/-- the constructor that hands a text on: aload_0, aload_1, invokespecial, return -/
def mj_dx (ix : Nat) (rx : ByteArray) : Prop := decode rx 0 = .ok (.aload_n 0, 1) ∧ decode rx 1 = .ok (.aload_n 1, 1) ∧ decode rx 2 = .ok (.invokespecial ix, 3) ∧ decode rx 5 = .ok (.return_, 1)
/-- what the tables must say of a row of pushes -/
def mj_okU (Ts : List Cond) (own : String) (cc : ByteArray) : Nat → List mj_E → Prop
  | _, [] => True
  | pc, E :: r => decode cc pc = .ok (E.1, mj_len E.1) ∧ mj_okP E pc = true ∧ mj_okH Ts own False E ∧ mj_okU Ts own cc (pc + mj_len E.1) r
theorem mj_okU_n {Ts : List Cond} {own : String} {cc : ByteArray} {pc : Nat} : mj_okU Ts own cc pc [] := trivial
theorem mj_okU_c {Ts : List Cond} {own : String} {cc : ByteArray} {pc : Nat} {E : mj_E} {r : List mj_E} (h1 : decode cc pc = .ok (E.1, mj_len E.1)) (h2 : mj_okP E pc = true) (h3 : mj_okH Ts own False E) (h4 : mj_okU Ts own cc (pc + mj_len E.1) r) : mj_okU Ts own cc pc (E :: r) := And.intro h1 (And.intro h2 (And.intro h3 h4))
/-- what is known of a class of exceptions of one's own, with two fields -/
def mj_okF0 (Ts : List Cond) (ci : Nat) (r : vw_C) : Prop := ∃ (iS i1 i2 : Nat) (cb : ByteArray),
  mj_cls[ci]? = some r ∧ r.2.2 = 2 ∧ mj_csl[ci]? = some 8 ∧ Bundle.fit r.1 = true ∧ Cond.initialized r.1 ∈ Ts ∧ Cond.instantiable r.1 8 ∈ Ts ∧
  Cond.instanceMethod ⟨r.1, "<init>", "(IC)V"⟩ ∈ Ts ∧ Cond.code ⟨r.1, "<init>", "(IC)V"⟩ cb 3 none ∈ Ts ∧
  decode cb 0 = .ok (.aload_n 0, 1) ∧ decode cb 1 = .ok (.invokespecial iS, 3) ∧ decode cb 4 = .ok (.aload_n 0, 1) ∧ decode cb 5 = .ok (.iload_n 1, 1) ∧ decode cb 6 = .ok (.putfield i1, 3) ∧ decode cb 9 = .ok (.aload_n 0, 1) ∧ decode cb 10 = .ok (.iload_n 2, 1) ∧ decode cb 11 = .ok (.putfield i2, 3) ∧ decode cb 14 = .ok (.return_, 1) ∧
  mj_okH Ts r.1 (("<init>" : String) = "<init>") (.putfield i1, 0, ci, 0) ∧ mj_okH Ts r.1 (("<init>" : String) = "<init>") (.putfield i2, 1, ci, 0) ∧ (∀ w ∈ mf_at r.1 iS 8 r.1 "java/lang/Exception" [], w ∈ Ts) ∧ (∀ w ∈ mf_at r.1 iS 8 r.1 "java/lang/Exception" [], mx_ot w = true) ∧
  (∀ w ∈ u_ws r.1 r.2.1 r.2.2, w ∈ Ts) ∧ (∀ k, k < r.2.2 → parseFieldDescriptor (r.2.1 k).2.2.1 = some (mj_cty ci k)) ∧ mj_cty ci 0 = .int ∧ mj_cty ci 1 = .char ∧
  ∀ k, k < 2 → (r.2.1 k).2.1 ≠ "cause" ∧ (r.2.1 k).2.1 ≠ "stackTrace" ∧ (r.2.1 k).2.1 ≠ "suppressedExceptions"
def mj_okF (Ts : List Cond) (own : String) (cc : ByteArray) (hh : List (Nat × Nat × Nat × Nat)) (pc ik : Nat) (E : mj_E) : Prop := ∃ (r : vw_C) (ic : Nat), mj_okF0 Ts E.2.1 r ∧ hh = [] ∧ Cond.classLink own ik r.1 ∈ Ts ∧ Cond.methodLink own ic ⟨r.1, "<init>", "(IC)V"⟩ ∈ Ts ∧
  decode cc (pc + 3) = .ok (.dup, 1) ∧ mj_okU Ts own cc (pc + 4) (mj_fls E.2.2.1) ∧ decode cc (mj_pe (mj_fls E.2.2.1) (pc + 4)) = .ok (.invokespecial ic, 3) ∧ decode cc (mj_pe (mj_fls E.2.2.1) (pc + 4) + 3) = .ok (.athrow, 1)
/-- what the tables must say of a throw that begins at pc -/
def mj_okT (Ts : List Cond) (own : String) (cc : ByteArray) (hh : List (Nat × Nat × Nat × Nat)) (pc : Nat) (E : mj_E) : Prop := match E.1 with
  | .new ik => (1 < E.2.2.2 → mj_okF Ts own cc hh pc ik E) ∧ (E.2.2.2 = 1 → ∃ (is ic : Nat) (r : vw_C) (names : List String) (text : String) (ix : Nat) (rx : ByteArray), mj_dx ix rx ∧ mj_cls[E.2.1]? = some r ∧ r.2.2 = 0 ∧ mj_csl[E.2.1]? = some 6 ∧ hh = [] ∧ Bundle.fit r.1 = true ∧ (∀ n ∈ names, Bundle.fit n = true) ∧ names.length ≤ 5 ∧ Cond.classLink own ik r.1 ∈ Ts ∧ Cond.initialized r.1 ∈ Ts ∧ (own, is, text) ∈ mj_msg ∧ (∀ w ∈ mx_atX own ic r.1 ix rx names, w ∈ Ts) ∧ (∀ w ∈ Cond.classLink own ik r.1 :: Cond.initialized r.1 :: mx_atX own ic r.1 ix rx names, mx_ot w = true) ∧ decode cc (pc + 3) = .ok (.dup, 1) ∧
      ((decode cc (pc + 4) = .ok (.ldc is, 2) ∧ decode cc (pc + 6) = .ok (.invokespecial ic, 3) ∧ decode cc (pc + 9) = .ok (.athrow, 1)) ∨ (decode cc (pc + 4) = .ok (.ldc_w is, 3) ∧ decode cc (pc + 7) = .ok (.invokespecial ic, 3) ∧ decode cc (pc + 10) = .ok (.athrow, 1))))
  | _ => True
def mj_dec (cc : ByteArray) (pc : Nat) (E : mj_E) : Prop := decode cc pc = .ok (E.1, mj_len E.1) ∨ (∃ len, decode cc pc = .ok (E.1, len)) ∧ ((∃ d lo hi o, E.1 = .tableswitch d lo hi o) ∨ ∃ d o, E.1 = .lookupswitch d o)
/-- a method without code that is called -/
def mj_okN (Ts : List Cond) (own : String) (E : mj_E) : Prop := match E.1 with
  | .invokespecial idx => E.2.1 = 9003 ∧ E.2.2.1 = 1 ∧ Cond.methodLink own idx Lib.objectInit ∈ Ts ∧ Cond.instanceMethod Lib.objectInit ∈ Ts ∧ Cond.code Lib.objectInit ⟨#[0xb1]⟩ 1 none ∈ Ts
  | .invokestatic idx => (E.2.1 = 9000 ∧ E.2.2.1 = 5 ∧ Cond.methodLink own idx arraycopyName ∈ Ts ∧ Cond.native arraycopyName ∈ Ts ∧ Cond.static arraycopyName ∈ Ts ∧ Cond.initialized "java/lang/System" ∈ Ts) ∨
      (E.2.1 = 9004 ∧ E.2.2.1 = 2 ∧ Cond.methodLink own idx Lib.Math.max.name ∈ Ts ∧ Cond.static Lib.Math.max.name ∈ Ts ∧ Cond.initialized "java/lang/Math" ∈ Ts ∧ Cond.code Lib.Math.max.name Lib.Math.max.code 2 (some .int) ∈ Ts) ∨
      (E.2.1 = 9005 ∧ E.2.2.1 = 2 ∧ Cond.methodLink own idx Lib.Math.min.name ∈ Ts ∧ Cond.static Lib.Math.min.name ∈ Ts ∧ Cond.initialized "java/lang/Math" ∈ Ts ∧ Cond.code Lib.Math.min.name Lib.Math.min.code 2 (some .int) ∈ Ts)
  | .invokevirtual idx => E.2.2.1 = 1 ∧ ((E.2.1 = 9001 ∧ Cond.methodLink own idx ⟨"java/lang/Object", "getClass", "()Ljava/lang/Class;"⟩ ∈ Ts ∧ Cond.selects "[Ljava/lang/Object;" ⟨"java/lang/Object", "getClass", "()Ljava/lang/Class;"⟩ ⟨"java/lang/Object", "getClass", "()Ljava/lang/Class;"⟩ ∈ Ts ∧ Cond.instanceMethod ⟨"java/lang/Object", "getClass", "()Ljava/lang/Class;"⟩ ∈ Ts ∧ Cond.native ⟨"java/lang/Object", "getClass", "()Ljava/lang/Class;"⟩ ∈ Ts) ∨
      (E.2.1 = 9002 ∧ Cond.methodLink own idx ⟨"[B", "clone", "()Ljava/lang/Object;"⟩ ∈ Ts ∧ Cond.sameMethod "[B" "java/lang/Object" "clone" "()Ljava/lang/Object;" ∈ Ts ∧ Cond.native ⟨"java/lang/Object", "clone", "()Ljava/lang/Object;"⟩ ∈ Ts ∧ Cond.instanceMethod ⟨"java/lang/Object", "clone", "()Ljava/lang/Object;"⟩ ∈ Ts ∧ Cond.selects "[B" ⟨"[B", "clone", "()Ljava/lang/Object;"⟩ ⟨"java/lang/Object", "clone", "()Ljava/lang/Object;"⟩ ∈ Ts ∧ Cond.castable "[B" "java/lang/Cloneable" ∈ Ts))
  | _ => False
def mj_isI (i : Instr) : Bool := match i with
  | .invokevirtual _ => true
  | .invokespecial _ => true
  | .invokestatic _ => true
  | .invokeinterface _ _ => true
  | _ => false
def mj_mk (E : mj_E) : Bool := match E.1 with
  | .new _ => decide (E.2.2.2 ≠ 0)
  | _ => false
/-- what the tables must say of a place in a method -/
def mj_okE (Ts : List Cond) (M : mj_M) (mi pc : Nat) (E : mj_E) : Prop :=
  mj_dec (M mi).2.1 pc E ∧ mj_okP E pc = true ∧ (mj_mk E = false → mj_okH Ts (M mi).1.cls ((M mi).1.name = "<init>") E) ∧ mj_okR (M mi).2.2.2.1 E ∧ mj_okT Ts (M mi).1.cls (M mi).2.1 (M mi).2.2.2.2 pc E ∧
  (mj_isI E.1 = true → if 9000 ≤ E.2.1 then mj_okN Ts (M mi).1.cls E else mj_okC Ts (M mi).1.cls M E)
/-- the tables hold what the small machine runs -/
def mj_good (G : mj_G) (Ts : List Cond) (M : mj_M) : Prop := mj_asg Ts ∧ (∀ w ∈ Ts, mj_gw w = true) ∧ ∀ mi pc E, G.1 mi pc = some E →
  plainName (M mi).1.cls = true ∧ Cond.initialized (M mi).1.cls ∈ Ts ∧ (M mi).2.2.1 = G.2.1 mi ∧ G.2.1 mi ≤ 45 ∧
  ((mj_cw Ts (M mi) ∧ (M mi).2.2.2.2 = [] ∧ G.2.2 mi = []) ∨ (mj_cwW Ts (M mi) ∧ mj_hrel Ts (M mi).1.cls (M mi).2.2.2.2 (G.2.2 mi))) ∧ mj_okE Ts M mi pc E
