/-! How the small machine's cells lie in the machine's heap. -/
def mj_av (ρ : Nat → Nat) (a : vp_A) : vp_A := (a.1, match a.2 with
  | .inl f => .inl f
  | .inr (.inl f) => .inr (.inl f)
  | .inr (.inr (.inl f)) => .inr (.inr (.inl f))
  | .inr (.inr (.inr (.inl f))) => .inr (.inr (.inr (.inl f)))
  | .inr (.inr (.inr (.inr f))) => .inr (.inr (.inr (.inr fun j => (f j).map ρ))))
def mj_cv (ρ cA : Nat → Nat) (c : mj_C) : va_E := match c with
  | .inl x => .inl (cA x.1, mj_av ρ x.2)
  | .inr x => .inr (x.1, x.2.map (mj_tv ρ))
def mj_ws (ρ cA : Nat → Nat) (base : Nat) (h : mj_H) : va_W := h.mapIdx fun i c => (base + i, mj_cv ρ cA c)
def mj_tys (cA : Nat → Nat) : List (ClassId × FieldType) := (mj_tyl.take 10).mapIdx fun i ty => (cA i, ty)
theorem mj_ws_at {ρ cA : Nat → Nat} {base : Nat} {h : mj_H} {i : Nat} {c : mj_C} (hi : h[i]? = some c) : (mj_ws ρ cA base h)[i]? = some (base + i, mj_cv ρ cA c) := by
  unfold mj_ws
  rw [List.getElem?_mapIdx, hi]
  rfl
theorem mj_ws_of {ρ cA : Nat → Nat} {base : Nat} {h : mj_H} {i : Nat} {q : Nat × va_E} (hq : (mj_ws ρ cA base h)[i]? = some q) : i < h.length ∧ q.1 = base + i := by
  unfold mj_ws at hq
  rw [List.getElem?_mapIdx] at hq
  cases hi : h[i]? with
  | none => rw [hi] at hq; cases hq
  | some c =>
    rw [hi] at hq
    cases hq
    exact ⟨(List.getElem?_eq_some_iff.mp hi).1, rfl⟩
theorem mj_ws_set {ρ cA : Nat → Nat} {base : Nat} {h : mj_H} {i : Nat} {c : mj_C} : mj_ws ρ cA base (h.set i c) = (mj_ws ρ cA base h).set i (base + i, mj_cv ρ cA c) := by
  unfold mj_ws
  rw [List.mapIdx_set]
theorem mj_ws_push {ρ cA : Nat → Nat} {base : Nat} {h : mj_H} {c : mj_C} : mj_ws ρ cA base (h ++ [c]) = mj_ws ρ cA base h ++ [(base + h.length, mj_cv ρ cA c)] := by
  unfold mj_ws
  rw [List.mapIdx_append]
  simp
theorem mj_tys_at {cA : Nat → Nat} {t : Nat} {ty : FieldType} (h : mj_tyl[t]? = some ty) (h10 : t < 10 := by decide) : (mj_tys cA)[t]? = some (cA t, ty) := by
  unfold mj_tys
  rw [List.getElem?_mapIdx, List.getElem?_take_of_lt h10, h]
  rfl
theorem mj_D {ρ cA : Nat → Nat} {base : Nat} {h : mj_H} : va_D (fun q => base ≤ q) (mj_ws ρ cA base h) := by
  refine ⟨fun i j p q hi hj he => ?_, fun k q hk => ?_⟩
  · have h1 := (mj_ws_of hi).2
    have h2 := (mj_ws_of hj).2
    omega
  · have h1 := (mj_ws_of hk).2
    show base ≤ q.1
    omega
/-- the slots that the cells take -/
def mj_cs (c : mj_C) : Nat := match c with
  | .inl x => x.2.1
  | .inr x => mj_csl[x.1]?.getD 0
def mj_sz (h : mj_H) : Nat := (h.map mj_cs).sum
theorem mj_sz_push (h : mj_H) (c : mj_C) : mj_sz (h ++ [c]) = mj_sz h + mj_cs c := by
  unfold mj_sz
  rw [List.map_append, List.sum_append]
  simp
theorem mj_sz_set : ∀ (h : mj_H) (i : Nat) (c d : mj_C), h[i]? = some d → mj_cs c = mj_cs d → mj_sz (h.set i c) = mj_sz h
  | [], i, c, d, hi, _ => by simp at hi
  | x :: h, 0, c, d, hi, hc => by
    simp only [List.getElem?_cons_zero, Option.some.injEq] at hi
    subst hi
    unfold mj_sz
    simp [hc]
  | x :: h, i + 1, c, d, hi, hc => by
    rw [List.getElem?_cons_succ] at hi
    have h1 := mj_sz_set h i c d hi hc
    unfold mj_sz at h1 ⊢
    simp only [List.set_cons_succ, List.map_cons, List.sum_cons]
    rw [h1]
/-- what the machine's state holds of what stood before, at a method's entry -/
def mj_el (ρ : Nat → Nat) (x : vp_A) (j : Nat) : Value := match x.2 with
  | .inl f => .int (f j)
  | .inr (.inl f) => .long (f j)
  | .inr (.inr (.inl f)) => .float (f j)
  | .inr (.inr (.inr (.inl f))) => .double (f j)
  | .inr (.inr (.inr (.inr f))) => mj_tv ρ (va_rf (f j))
def mj_X (D : va_G) (cA ρ : Nat → Nat) (base : Nat) (s : State) : Prop :=
  va_K D mj_cls (mj_tys cA) s ∧
  (∀ i, i < mj_CB → ρ i = base + i) ∧
  (∀ (k c : Nat) (fs : List Value) (r : vw_C), mj_cst k = some (.inr (c, fs)) → mj_cls[c]? = some r → va_O r.1 (ρ (mj_CB + k)) (fun q => base ≤ q) s s.heap ∧ ∀ (j : Nat) (v : Value), fs[j]? = some v → va_OF (r.2.1 j).1 (r.2.1 j).2.1 (r.2.1 j).2.2.1 (mj_tv ρ v) (ρ (mj_CB + k)) (fun q => base ≤ q) s s.heap) ∧
  (∀ (k t : Nat) (x : vp_A) (ty : FieldType), mj_cst k = some (.inl (t, x)) → mj_tyl[t]? = some ty → va_T ty (ρ (mj_CB + k)) x.1 (mj_el ρ x) (fun q => base ≤ q) s s.heap) ∧
  (∀ (i : Nat) (v : Value) (n : String × String × String), mj_stv[i]? = some v → mj_stn[i]? = some n → va_Z n.1 n.2.1 n.2.2 (mj_tv ρ v) (fun q => base ≤ q) s s.heap) ∧
  (∀ q ∈ mj_str, vk_R q.1 q.2.1 q.2.2.2 (ρ (mj_CB + 300 + 2 * q.2.2.1)) s)
section MJR
variable {p : Program} {l : Launch} {e : Env} {R : Room} {s : State} {m : MethodId} {args : Array Value} {below : List Frame} {meth : Method} {c : Code} {H H1 : Heap} {locs : List Loc} {cells slots : Nat} {Q : State → Prop}
variable {D : va_G} {cA ρ : Nat → Nat} {base : Nat}
/-- the machine goes on from a state that the small one has come to; hs: the cells at the method's entry -/
def mj_KH (p : Program) (l : Launch) (e : Env) (R : Room) (s : State) (m : MethodId) (args : Array Value) (below : List Frame) (meth : Method) (c : Code) (Q : State → Prop) (D : va_G) (cA ρ : Nat → Nat) (base : Nat) (hs : mj_H) (S : mj_S) : Prop :=
  ∀ (rs : Array Slot) (H : Heap) (locs : List Loc), mj_lr ρ S.2.1 rs → va_P D mj_cls (mj_ws ρ cA base S.2.2.2) H → va_S (fun q => base ≤ q) s.heap H locs →
    W p l e R s m args below meth c H locs (S.2.2.2.length - hs.length) (mj_sz S.2.2.2 - mj_sz hs) Q (F0 m S.1 rs (S.2.2.1.map (mj_tv ρ)))
/-- where a new cell lies -/
theorem mj_new {T : State} {h hs : mj_H} {q : Nat} {ev : va_E} (X : Stand p l e R s m args below meth c T locs (h.length + 1 - hs.length) slots) (hT : T.heap = H1) (hsz : s.heap.size = base + hs.length) (hle : hs.length ≤ h.length)
    (hP : va_P D mj_cls (mj_ws ρ cA base h ++ [(q, ev)]) H1) (hD : va_D (fun q => base ≤ q) (mj_ws ρ cA base h ++ [(q, ev)])) : q = base + h.length := by
  have hlen : (mj_ws ρ cA base h).length = h.length := by unfold mj_ws; rw [List.length_mapIdx]
  have hk : (mj_ws ρ cA base h ++ [(q, ev)])[h.length]? = some (q, ev) := by
    rw [List.getElem?_append_right (by omega), hlen, Nat.sub_self]
    rfl
  have h1 : q < T.heap.size := by rw [hT]; exact (hP _ _ hk).lt
  have h2 := X.heapSize
  have h3 : base ≤ q := hD.2 _ _ hk
  have h4 : ¬ q < base + h.length := fun z => by
    have hi : q - base < h.length := by omega
    obtain ⟨c0, hc0⟩ : ∃ c0, h[q - base]? = some c0 := ⟨_, List.getElem?_eq_getElem hi⟩
    have hj : (mj_ws ρ cA base h ++ [(q, ev)])[q - base]? = some (base + (q - base), mj_cv ρ cA c0) := by
      rw [List.getElem?_append_left (by omega)]
      exact mj_ws_at hc0
    have := hD.1 _ _ _ _ hj hk (by show base + (q - base) = q; omega)
    omega
  omega
end MJR
