/-! The start: what the Statement gives, as the small machine's context. -/
/-- classes -/
theorem mj_st_cls {s : State} {args : Array Value} (hts : ∀ w ∈ mj_Tw, w.before args s = true) (hc : ∀ r ∈ mj_cls, (∀ w ∈ u_ws r.1 r.2.1 r.2.2, w ∈ mj_Tw) ∧ ∃ n, Cond.instantiable r.1 n ∈ mj_Tw) :
    ∃ D : va_G, ∀ (c : Nat) (q : vw_C), mj_cls[c]? = some q → u_Kn s q.1 q.2.1 q.2.2 (D.1 c) (D.2 c) := by
  have h : ∀ c : Nat, ∃ x : ClassId × (Nat → Nat), ∀ q : vw_C, mj_cls[c]? = some q → u_Kn s q.1 q.2.1 q.2.2 x.1 x.2 := fun c => by
    cases hq : mj_cls[c]? with
    | none => exact ⟨(0, fun _ => 0), fun q h => by cases h⟩
    | some r =>
      obtain ⟨h1, n, h2⟩ := hc r (List.mem_of_getElem? hq)
      obtain ⟨cC, iS, h3⟩ := u_known hts h1 (hts _ h2)
      exact ⟨(cC, iS), fun q h => by cases h; exact h3⟩
  obtain ⟨f, hf⟩ := Classical.axiomOfChoice h
  exact ⟨(fun c => (f c).1, fun c => (f c).2), hf⟩
theorem mj_ar_p {s : State} {args : Array Value} {ty : FieldType} (hn : ∀ n, ty ≠ .object n) (h : (Cond.arrayClass ty).before args s = true) : ∃ c, ArrOfT s c ty ∧ va_RA s c ty := by
  obtain ⟨c, k, comp, h1, h2, h3⟩ := Cond.arrayClass_spec h
  refine ⟨c, fun n z => ⟨fun k h => (by cases h), k, h2, comp, h3⟩, ?_⟩
  cases ty with
  | object n => exact absurd rfl (hn n)
  | _ => exact h1
theorem mj_ar_o {s : State} {args : Array Value} {C : String} (h : (Cond.arrayOver (.object C)).before args s = true) : ∃ c, ArrOfT s c (.object C) ∧ va_RA s c (.object C) := by
  obtain ⟨comp, c, k, h1, -, h3, h4, h5⟩ := Cond.arrayOver_spec h
  exact ⟨c, fun n z => ⟨fun k h => (by cases h), k, h3, comp, h4⟩, k, comp, h3, h4, h1, h5⟩
/-- arrays -/
theorem mj_st_arr {s : State} {args : Array Value} (hts : ∀ w ∈ mj_Tw, w.before args s = true) (ha : ∀ ty ∈ mj_tyl.take 10, Cond.arrayClass ty ∈ mj_Tw ∧ (∀ n, ty ≠ .object n) ∨ ∃ C, ty = .object C ∧ Cond.arrayOver (.object C) ∈ mj_Tw) :
    ∃ cA : Nat → Nat, ∀ (k : Nat) (q : ClassId × FieldType), (mj_tys cA)[k]? = some q → ArrOfT s q.1 q.2 ∧ va_RA s q.1 q.2 := by
  have h : ∀ t : Nat, ∃ c : Nat, ∀ ty, (mj_tyl.take 10)[t]? = some ty → ArrOfT s c ty ∧ va_RA s c ty := fun t => by
    cases hq : (mj_tyl.take 10)[t]? with
    | none => exact ⟨0, fun ty h => by cases h⟩
    | some ty =>
      rcases ha ty (List.mem_of_getElem? hq) with ⟨h1, h2⟩ | ⟨C, rfl, h1⟩
      · obtain ⟨c, h3⟩ := mj_ar_p h2 (hts _ h1)
        exact ⟨c, fun ty h => by cases h; exact h3⟩
      · obtain ⟨c, h3⟩ := mj_ar_o (hts _ h1)
        exact ⟨c, fun ty h => by cases h; exact h3⟩
  obtain ⟨f, hf⟩ := Classical.axiomOfChoice h
  refine ⟨f, fun k q hq => ?_⟩
  unfold mj_tys at hq
  rw [List.getElem?_mapIdx] at hq
  cases hk : (mj_tyl.take 10)[k]? with
  | none => rw [hk] at hq; cases hq
  | some ty =>
    rw [hk] at hq
    cases hq
    exact hf k ty hk
theorem va_T_cg {ty : FieldType} {t N : Nat} {f g : Nat → Value} {A : Nat → Prop} {U : State} {H : Heap} (h : va_T ty t N f A U H) (hfg : ∀ j, j < N → f j = g j) : va_T ty t N g A U H := by
  obtain ⟨cell, h1, h2, h3, h4, h5, h6, h7⟩ := h
  exact ⟨cell, h1, h2, h3, h4, h5, fun j hj => by rw [← hfg j hj]; exact h6 j hj, h7⟩
/-- the texts: by which class's constant each is found, and its bytes -/
def mj_rep : List (String × Nat × List Nat) := [("UncomputeryModel", 25, []), ("UncomputeryModel$Reader", 117, [43, 45, 94, 126]), ("UncomputeryModel$Reader", 127, [43, 45, 42, 38]), ("UncomputeryModel$Reader", 95, [33, 63, 64, 36, 91, 123]), ("UncomputeryModel$Part", 81, [43, 45, 33, 63, 64, 36]), ("UncomputeryModel", 72, [59]), ("UncomputeryModel$Part", 37, [58]), ("UncomputeryModel$Part", 49, [124]), ("UncomputeryModel$Part", 57, [93]), ("UncomputeryModel$Part", 59, [125]), ("UncomputeryModel$Part", 73, [126])]
theorem mj_rep_txt : mj_rep.map (fun q => q.2.2) = mj_txt := rfl
def mj_bL (l : List Nat) : List Int32 := (List.range l.length).map (mj_byt l)
theorem mj_bL_at (l : List Nat) (j : Nat) (hj : j < l.length) : (mj_bL l).getD j 0 = mj_byt l j := by
  unfold mj_bL
  rw [List.getD_eq_getElem?_getD, List.getElem?_map, List.getElem?_range hj]
  rfl
/-- what is said of a text -/
def mj_txw (own : String) (idx : Nat) (l : List Nat) : List Cond := [.exactly (.string own idx) "java/lang/String", .eq (.field (.string own idx) "java/lang/String" "coder" "B") (.int 0), .arrayOf (.field (.string own idx) "java/lang/String" "value" "[B") .byte, .eq (.length (.field (.string own idx) "java/lang/String" "value" "[B")) (.int (Int32.ofNat l.length))] ++
  (List.range l.length).map fun j => .eq (.elem (.field (.string own idx) "java/lang/String" "value" "[B") (.int (Int32.ofNat j))) (.int (mj_byt l j))
theorem mj_st_txt {s : State} {args : Array Value} {base : Nat} (hA : ∀ a : Nat, a < s.heap.size → ¬ base ≤ a) {own : String} {idx : Nat} {l : List Nat} (hl : l.length < 2 ^ 31) (h : ∀ w ∈ mj_txw own idx l, w.before args s = true) :
    ∃ aK aV : Nat, va_O "java/lang/String" aK (fun q => base ≤ q) s s.heap ∧ va_OF "java/lang/String" "coder" "B" (.int 0) aK (fun q => base ≤ q) s s.heap ∧ va_OF "java/lang/String" "value" "[B" (.ref aV) aK (fun q => base ≤ q) s s.heap ∧ va_T .byte aV l.length (fun j => .int (mj_byt l j)) (fun q => base ≤ q) s s.heap ∧ (Term.string own idx).eval args s none [] s = some (.ref aK) := by
  have hel : ∀ j, j < l.length → (Cond.eq (.elem (.field (.string own idx) "java/lang/String" "value" "[B") (.int (Int32.ofNat j))) (.int (mj_byt l j))).before args s = true := fun j hj => h _ (List.mem_append_right _ (List.mem_map.mpr ⟨j, List.mem_range.mpr hj, rfl⟩))
  obtain ⟨adK, adV, hS, he⟩ := vk_Sof (s := s) (args := args) (N := 1) (tm := fun _ => .string own idx) (len := [l.length]) (byt := [mj_bL l]) (A := fun q => base ≤ q)
    (fun i hi => by rw [show i = 0 by omega]; exact hl)
    (fun i _ => h _ (List.mem_append_left _ (by simp))) (fun i _ => h _ (List.mem_append_left _ (by simp))) (fun i _ => h _ (List.mem_append_left _ (by simp)))
    (fun i hi => by rw [show i = 0 by omega]; exact h _ (List.mem_append_left _ (by simp)))
    (fun i hi j hj => by
      rw [show i = 0 by omega] at hj ⊢
      have hj' : j < l.length := hj
      show (Cond.eq _ (.int ((mj_bL l).getD j 0))).before args s = true
      rw [mj_bL_at l j hj']
      exact hel j hj')
    (fun i j hi hj hij => absurd (by omega) hij) hA
  obtain ⟨h1, h2, h3, h4⟩ := hS.1 0 (by omega)
  refine ⟨adK 0, adV 0, h1, h2, h3, va_T_cg h4 (fun j hj => ?_), he 0 (by omega)⟩
  show Value.int ((mj_bL l).getD j 0) = _
  rw [mj_bL_at l j hj]
