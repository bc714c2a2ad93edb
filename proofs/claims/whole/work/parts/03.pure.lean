/-! What touches no cell is done by the machine as by the small one. -/
def mj_tv (ρ : Nat → Nat) (v : Value) : Value := match v with
  | .ref a => .ref (ρ a)
  | .retAddr k => va_rf (if ρ (2 * mj_CB + 2 * k) = 0 then none else some (ρ (2 * mj_CB + 2 * k + 1)))
  | v => v
def mj_lr (ρ : Nat → Nat) (ls : mj_L) (rs : Array Slot) : Prop := rs.size = ls.length ∧ lv_wf rs ∧ ∀ (i : Nat) (v : Value), mj_ld ls i = some v → rs[i]? = some (.val (mj_tv ρ v))
theorem mj_tv_cat (ρ : Nat → Nat) (v : Value) : (mj_tv ρ v).category = v.category := by
  cases v with
  | retAddr a =>
    show (va_rf _).category = _
    split <;> rfl
  | _ => rfl
theorem mj_tv_rf (ρ : Nat → Nat) (x : Option Nat) : mj_tv ρ (va_rf x) = va_rf (x.map ρ) := by cases x <;> rfl
/-- the locals as the rows of the kit have them -/
def mj_as (ρ : Nat → Nat) (ls : mj_L) : List (Nat × Value) := (List.range ls.length).filterMap fun i => (mj_ld ls i).map fun v => (i, mj_tv ρ v)
theorem mj_ld_lt {ls : mj_L} {i : Nat} {v : Value} (h : mj_ld ls i = some v) : i < ls.length := by
  unfold mj_ld at h
  cases hi : ls[i]? with
  | none => rw [hi] at h; cases h
  | some x => exact (List.getElem?_eq_some_iff.mp hi).1
theorem mj_as_mem {ρ : Nat → Nat} {ls : mj_L} {i : Nat} {v : Value} (h : mj_ld ls i = some v) : (i, mj_tv ρ v) ∈ mj_as ρ ls :=
  List.mem_filterMap.mpr ⟨i, List.mem_range.mpr (mj_ld_lt h), by rw [h]; rfl⟩
theorem mj_as_of {ρ : Nat → Nat} {ls : mj_L} {q : Nat × Value} (h : q ∈ mj_as ρ ls) : ∃ v, mj_ld ls q.1 = some v ∧ q.2 = mj_tv ρ v := by
  obtain ⟨i, -, h2⟩ := List.mem_filterMap.mp h
  cases hv : mj_ld ls i with
  | none => rw [hv] at h2; cases h2
  | some v =>
    rw [hv] at h2
    cases h2
    exact ⟨v, hv, rfl⟩
theorem mj_lr_has {ρ : Nat → Nat} {ls : mj_L} {rs : Array Slot} (h : mj_lr ρ ls rs) : lv_has rs ls.length (mj_as ρ ls) := by
  refine ⟨h.1, h.2.1, fun q hq => ?_⟩
  obtain ⟨v, h1, h2⟩ := mj_as_of hq
  rw [h.2.2 _ _ h1, h2]
theorem mj_ld_set_ne {ls : mj_L} {i j : Nat} {x : Option Value} (h : i ≠ j) : mj_ld (ls.set i x) j = mj_ld ls j := by
  unfold mj_ld
  rw [List.getElem?_set_ne h]
theorem mj_ld_set {ls : mj_L} {i : Nat} {x : Option Value} (h : i < ls.length) : mj_ld (ls.set i x) i = x := by
  unfold mj_ld
  rw [List.getElem?_set_self h]
  rfl
theorem mj_clr_len (ls : mj_L) (i : Nat) : (mj_clr ls i).length = ls.length := by
  unfold mj_clr
  split
  · rfl
  · split
    · split
      · exact List.length_set
      · rfl
    · rfl
/-- what is still there behind a write at i was there, isn't at i, and is no long ahead of it -/
theorem mj_clr_of {ls : mj_L} {i j : Nat} {v : Value} (h : mj_ld (mj_clr ls i) j = some v) : mj_ld ls j = some v ∧ ¬ (j + 1 = i ∧ v.category = 2) := by
  unfold mj_clr at h
  split at h
  · exact ⟨h, fun q => by omega⟩
  · rename_i k
    split at h
    · rename_i w hw
      by_cases c : w.category = 2
      · rw [if_pos c] at h
        by_cases e : k = j
        · subst e
          rw [mj_ld_set (mj_ld_lt hw)] at h
          cases h
        · rw [mj_ld_set_ne e] at h
          exact ⟨h, fun q => e (by omega)⟩
      · rw [if_neg c] at h
        refine ⟨h, fun q => ?_⟩
        have e : j = k := by omega
        subst e
        rw [hw] at h
        cases h
        exact c q.2
    · rename_i hw
      refine ⟨h, fun q => ?_⟩
      have e : j = k := by omega
      subst e
      rw [hw] at h
      cases h
theorem mj_lr_st1 {ρ : Nat → Nat} {ls : mj_L} {rs : Array Slot} {i : Nat} {v : Value} (hi : i < ls.length)
    (h : lv_has rs ls.length ((i, mj_tv ρ v) :: (mj_as ρ ls).filter (fun q => !(q.1 == i) && !(q.1 + 1 == i && q.2.category == 2)))) : mj_lr ρ (mj_st1 ls i v) rs := by
  refine ⟨h.1.trans (by unfold mj_st1; rw [List.length_set, mj_clr_len]), h.2.1, fun j w hw => ?_⟩
  unfold mj_st1 at hw
  by_cases e : i = j
  · subst e
    rw [mj_ld_set (by rw [mj_clr_len]; exact hi)] at hw
    cases hw
    exact h.2.2 _ List.mem_cons_self
  · rw [mj_ld_set_ne e] at hw
    obtain ⟨h1, h2⟩ := mj_clr_of hw
    refine h.2.2 (j, mj_tv ρ w) (List.mem_cons_of_mem _ (List.mem_filter.mpr ⟨mj_as_mem h1, ?_⟩))
    have e2 : ¬ j = i := fun q => e q.symm
    by_cases c : w.category = 2
    · have : ¬ j + 1 = i := fun q => h2 ⟨q, c⟩
      simp [e2, this]
    · simp [e2, mj_tv_cat, c]
theorem mj_lr_st2 {ρ : Nat → Nat} {ls : mj_L} {rs : Array Slot} {i : Nat} {v : Value} (hi : i + 1 < ls.length)
    (h : lv_has rs ls.length ((i, mj_tv ρ v) :: (mj_as ρ ls).filter (fun q => !(q.1 == i) && (!(q.1 == i + 1) && !(q.1 + 1 == i && q.2.category == 2))))) : mj_lr ρ (mj_st2 ls i v) rs := by
  refine ⟨h.1.trans (by unfold mj_st2; rw [List.length_set, List.length_set, mj_clr_len]), h.2.1, fun j w hw => ?_⟩
  unfold mj_st2 at hw
  by_cases e1 : i + 1 = j
  · subst e1
    rw [mj_ld_set (by rw [List.length_set, mj_clr_len]; exact hi)] at hw
    cases hw
  · rw [mj_ld_set_ne e1] at hw
    by_cases e : i = j
    · subst e
      rw [mj_ld_set (by rw [mj_clr_len]; omega)] at hw
      cases hw
      exact h.2.2 _ List.mem_cons_self
    · rw [mj_ld_set_ne e] at hw
      obtain ⟨h1, h2⟩ := mj_clr_of hw
      refine h.2.2 (j, mj_tv ρ w) (List.mem_cons_of_mem _ (List.mem_filter.mpr ⟨mj_as_mem h1, ?_⟩))
      have a1 : ¬ j = i := fun q => e q.symm
      have a2 : ¬ j = i + 1 := fun q => e1 q.symm
      by_cases c : w.category = 2
      · have : ¬ j + 1 = i := fun q => h2 ⟨q, c⟩
        simp [a1, a2, this]
      · simp [a1, a2, mj_tv_cat, c]
/-- what the tables' numbers must be -/
def mj_jok (pc : Nat) (off : Int) : Bool := decide (0 ≤ (pc : Int) + off)
theorem mj_jmp_ok {pc : Nat} {off : Int} (h : mj_jok pc off = true) : (pc : Int) + off = (mj_jmp pc off : Int) := by
  unfold mj_jok at h
  unfold mj_jmp
  have := of_decide_eq_true h
  omega
def mj_okP (E : mj_E) (pc : Nat) : Bool := match E.1 with
  | .iconst n => decide (Int32.ofInt n = nI E.2.1)
  | .bipush n => decide ((Int8.ofInt n).toInt32 = nI E.2.1)
  | .sipush n => decide ((Int16.ofInt n).toInt32 = nI E.2.1)
  | .lconst n => decide (Int64.ofNat (n : Nat) = lN E.2.1)
  | .iinc _ n => decide (Int32.ofInt n = nI E.2.1)
  | .goto off => mj_jok pc off
  | .ifCond _ off => mj_jok pc off
  | .if_icmp _ off => mj_jok pc off
  | .if_acmp _ off => mj_jok pc off
  | .ifnull off => mj_jok pc off
  | .ifnonnull off => mj_jok pc off
  | .tableswitch d _ _ offs => mj_jok pc d && offs.toList.all (mj_jok pc)
  | .lookupswitch d ps => mj_jok pc d && ps.toList.all (fun q => mj_jok pc q.2) && (ps.toList.zip (ps.toList.drop 1)).all (fun (a, next) => a.1 < next.1)
  | _ => true
section MJP
variable {p : Program} {l : Launch} {e : Env} {R : Room} {s : State} {m : MethodId} {args : Array Value} {below : List Frame} {meth : Method} {c : Code} {H : Heap} {locs : List Loc} {cells slots : Nat} {Q : State → Prop}
variable {cc : ByteArray} {pc : Nat} {rs : Array Slot} {ρ : Nat → Nat} {ls ls' : mj_L} {st st' : List Value} {pc' : Nat}
/-- the machine goes on from a frame that the small one has come to -/
def mj_K (p : Program) (l : Launch) (e : Env) (R : Room) (s : State) (m : MethodId) (args : Array Value) (below : List Frame) (meth : Method) (c : Code) (H : Heap) (locs : List Loc) (cells slots : Nat) (Q : State → Prop) (ρ : Nat → Nat) (F : mj_F) : Prop :=
  ∀ rs' : Array Slot, mj_lr ρ F.2.1 rs' → W p l e R s m args below meth c H locs cells slots Q (F0 m F.1 rs' (F.2.2.map (mj_tv ρ)))
theorem mj_s_ldI {i n : Nat} (row : ∀ x : Int32, rs[i]? = some (.val (.int x)) → W p l e R s m args below meth c H locs cells slots Q (F0 m (pc + n) rs (.int x :: st.map (mj_tv ρ))) → W p l e R s m args below meth c H locs cells slots Q (F0 m pc rs (st.map (mj_tv ρ))))
    (hlr : mj_lr ρ ls rs) (h : mj_ldI i n pc ls st = some (pc', ls', st')) (k : mj_K p l e R s m args below meth c H locs cells slots Q ρ (pc', ls', st')) : W p l e R s m args below meth c H locs cells slots Q (F0 m pc rs (st.map (mj_tv ρ))) := by
  unfold mj_ldI at h
  split at h
  · rename_i x hx
    cases h
    exact row x (hlr.2.2 _ _ hx) (k rs hlr)
  · cases h
theorem mj_s_ldL {i n : Nat} (row : ∀ x : Int64, rs[i]? = some (.val (.long x)) → W p l e R s m args below meth c H locs cells slots Q (F0 m (pc + n) rs (.long x :: st.map (mj_tv ρ))) → W p l e R s m args below meth c H locs cells slots Q (F0 m pc rs (st.map (mj_tv ρ))))
    (hlr : mj_lr ρ ls rs) (h : mj_ldL i n pc ls st = some (pc', ls', st')) (k : mj_K p l e R s m args below meth c H locs cells slots Q ρ (pc', ls', st')) : W p l e R s m args below meth c H locs cells slots Q (F0 m pc rs (st.map (mj_tv ρ))) := by
  unfold mj_ldL at h
  split at h
  · rename_i x hx
    cases h
    exact row x (hlr.2.2 _ _ hx) (k rs hlr)
  · cases h
theorem mj_s_ldD {i n : Nat} (row : ∀ x : UInt64, rs[i]? = some (.val (.double x)) → W p l e R s m args below meth c H locs cells slots Q (F0 m (pc + n) rs (.double x :: st.map (mj_tv ρ))) → W p l e R s m args below meth c H locs cells slots Q (F0 m pc rs (st.map (mj_tv ρ))))
    (hlr : mj_lr ρ ls rs) (h : mj_ldD i n pc ls st = some (pc', ls', st')) (k : mj_K p l e R s m args below meth c H locs cells slots Q ρ (pc', ls', st')) : W p l e R s m args below meth c H locs cells slots Q (F0 m pc rs (st.map (mj_tv ρ))) := by
  unfold mj_ldD at h
  split at h
  · rename_i x hx
    cases h
    exact row x (hlr.2.2 _ _ hx) (k rs hlr)
  · cases h
theorem mj_s_ldA {i n : Nat} (row : ∀ x : Nat, rs[i]? = some (.val (.ref x)) → W p l e R s m args below meth c H locs cells slots Q (F0 m (pc + n) rs (.ref x :: st.map (mj_tv ρ))) → W p l e R s m args below meth c H locs cells slots Q (F0 m pc rs (st.map (mj_tv ρ))))
    (rowN : rs[i]? = some (.val .null) → W p l e R s m args below meth c H locs cells slots Q (F0 m (pc + n) rs (.null :: st.map (mj_tv ρ))) → W p l e R s m args below meth c H locs cells slots Q (F0 m pc rs (st.map (mj_tv ρ))))
    (hlr : mj_lr ρ ls rs) (h : mj_ldA i n pc ls st = some (pc', ls', st')) (k : mj_K p l e R s m args below meth c H locs cells slots Q ρ (pc', ls', st')) : W p l e R s m args below meth c H locs cells slots Q (F0 m pc rs (st.map (mj_tv ρ))) := by
  unfold mj_ldA at h
  split at h
  · rename_i x hx
    cases h
    exact row (ρ x) (hlr.2.2 _ _ hx) (k rs hlr)
  · rename_i hx
    cases h
    exact rowN (hlr.2.2 _ _ hx) (k rs hlr)
  · cases h
theorem mj_s_st1 {i n : Nat} {v : Value} {r : List Value} (row : ∀ lv', (i, mj_tv ρ v) :: (mj_as ρ ls).filter (fun q => !(q.1 == i) && !(q.1 + 1 == i && q.2.category == 2)) = lv' → (∀ rs' : Array Slot, lv_has rs' ls.length lv' → W p l e R s m args below meth c H locs cells slots Q (F0 m (pc + n) rs' (r.map (mj_tv ρ)))) → W p l e R s m args below meth c H locs cells slots Q (F0 m pc rs ((v :: r).map (mj_tv ρ))))
    (hi : i < ls.length) (k : mj_K p l e R s m args below meth c H locs cells slots Q ρ (pc + n, mj_st1 ls i v, r)) : W p l e R s m args below meth c H locs cells slots Q (F0 m pc rs ((v :: r).map (mj_tv ρ))) :=
  row _ rfl fun rs' h => k rs' (mj_lr_st1 hi h)
theorem mj_s_st2 {i n : Nat} {v : Value} {r : List Value} (row : ∀ lv', (i, mj_tv ρ v) :: (mj_as ρ ls).filter (fun q => !(q.1 == i) && (!(q.1 == i + 1) && !(q.1 + 1 == i && q.2.category == 2))) = lv' → (∀ rs' : Array Slot, lv_has rs' ls.length lv' → W p l e R s m args below meth c H locs cells slots Q (F0 m (pc + n) rs' (r.map (mj_tv ρ)))) → W p l e R s m args below meth c H locs cells slots Q (F0 m pc rs ((v :: r).map (mj_tv ρ))))
    (hi : i + 1 < ls.length) (k : mj_K p l e R s m args below meth c H locs cells slots Q ρ (pc + n, mj_st2 ls i v, r)) : W p l e R s m args below meth c H locs cells slots Q (F0 m pc rs ((v :: r).map (mj_tv ρ))) :=
  row _ rfl fun rs' h => k rs' (mj_lr_st2 hi h)
theorem mj_s_br {b : Bool} {off : Int} {r : List Value} {g : JFrame} (row : (b = true → W p l e R s m args below meth c H locs cells slots Q (F0 m (mj_jmp pc off) rs (r.map (mj_tv ρ)))) → (b = false → W p l e R s m args below meth c H locs cells slots Q (F0 m (pc + 3) rs (r.map (mj_tv ρ)))) → W p l e R s m args below meth c H locs cells slots Q g)
    (hlr : mj_lr ρ ls rs) (h : mj_br b pc off ls r = some (pc', ls', st')) (k : mj_K p l e R s m args below meth c H locs cells slots Q ρ (pc', ls', st')) : W p l e R s m args below meth c H locs cells slots Q g := by
  cases b with
  | true =>
    cases h
    exact row (fun _ => k rs hlr) (fun q => by cases q)
  | false =>
    cases h
    exact row (fun q => by cases q) (fun _ => k rs hlr)
theorem mj_dt {c : Prop} (dc : Decidable c) (h : c) : decide c = true := decide_eq_true h
theorem mj_df {c : Prop} (dc : Decidable c) (h : ¬ c) : decide c = false := decide_eq_false h
theorem mj_look {d : Int} {P : Int → Prop} (hd : P d) : ∀ (ps : List (Int × Int)) (x : Int), (∀ q ∈ ps, P q.2) → P (Op.lookupswitch.offset ps d x)
  | [], x, h => by unfold Op.lookupswitch.offset; exact hd
  | q :: ps, x, h => by
    unfold Op.lookupswitch.offset
    split
    · exact h _ List.mem_cons_self
    · exact mj_look hd ps x (fun q hq => h q (List.mem_cons_of_mem _ hq))
end MJP
