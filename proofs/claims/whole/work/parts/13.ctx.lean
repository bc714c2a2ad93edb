/-! What every method is told at its entry, and how it goes on behind a call. -/
/-- the texts of exceptions: class, number, text -/
def mj_msg : List (String × Nat × String) := [("Uncomputery", 84, "60 signs are typed"), ("Uncomputery", 111, "the text has no fault"), ("Uncomputery", 123, "the text has a fault"), ("Uncomputery", 127, "there are 6 procedures"), ("Uncomputery", 146, "no such procedure"), ("Uncomputery", 162, "no such index"), ("Uncomputery", 169, "no such instruction"), ("Uncomputery", 183, "no such variable"), ("Uncomputery", 194, "no such value on the stack"), ("Uncomputery", 207, "1 to 500 steps"), ("Uncomputery", 213, "no run was begun"), ("Uncomputery", 242, "no such cause"), ("Uncomputery", 256, "the run breaks or does not end"), ("Uncomputery", 280, "lines are 0 to 2, controls 0 to 7"), ("Uncomputery", 282, "the line is among its controls"), ("Uncomputery", 285, "there are 24 gates"), ("Uncomputery", 292, "there is no gate"), ("Uncomputery", 300, "values are 0 to 7"), ("Uncomputery", 317, "no such gate"), ("Uncomputery", 348, "1 to 10 places and pebbles"), ("Uncomputery", 353, "it cannot be done"), ("Uncomputery", 355, "1 to 10 places"), ("Uncomputery", 366, "there are no procedures")]
def mj_Y (D : va_G) (cA ρ : Nat → Nat) (base : Nat) (s : State) : Prop := mj_X D cA ρ base s ∧ mx_Zq Bundle.tN "UNASSIGNED_STACK" Bundle.steD (fun q => base ≤ q) s s.heap ∧ mx_Zq Bundle.tN "SUPPRESSED_SENTINEL" Bundle.listD (fun q => base ≤ q) s s.heap ∧
  (∀ q ∈ mj_msg, ∃ sa, vk_R q.1 q.2.1 q.2.2 sa s) ∧
  (∀ (a b : Nat) (r1 r2 : vw_C), mj_exc a = true → mj_exc b = true → a ≠ b → mj_cls[a]? = some r1 → mj_cls[b]? = some r2 → va_Nc r1.1 r2.1 s) ∧
  va_Mi "[Ljava/lang/Object;" (ρ (mj_CB + 4)) s ∧ va_Dc s ∧ va_O "[Ljava/lang/Object;" (ρ mj_CB) (fun q => base ≤ q) s s.heap
theorem mj_Nc_moved {C T : String} {u U : State} (hvm : u.vm.Alike U.vm) (h : va_Nc C T u) : va_Nc C T U := by
  obtain ⟨c, t, h1, h2, h3⟩ := h
  exact ⟨c, t, by rw [hvm.findClass]; exact h1, by rw [hvm.findClass]; exact h2, by rw [hvm.assignable]; exact h3⟩
theorem mj_Y.go {D : va_G} {cA ρ : Nat → Nat} {base : Nat} {s U : State} (h : mj_Y D cA ρ base s) (hW : s.WarmedH U.vm) (hq : ∀ a : Nat, a < s.heap.size → ¬ base ≤ a → U.heap[a]? = s.heap[a]?) : mj_Y D cA ρ base U := by
  obtain ⟨⟨x1, x2, x3, x4, x5, x6⟩, y1, y2, y3, y4, y5, y6, y7⟩ := h
  have hv : s.vm.Alike U.vm := hW.alike
  refine ⟨⟨va_K.moved hv x1, x2, fun k c fs r h1 h2 => ?_, fun k t x ty h1 h2 => ?_, fun i v n h1 h2 => ?_, fun q hq1 => vk_R.warm hW (x6 q hq1)⟩, (y1.moved hv).kept hq, (y2.moved hv).kept hq, fun q hq1 => ?_, fun a b r1 r2 h1 h2 h3 h4 h5 => mj_Nc_moved hv (y4 a b r1 r2 h1 h2 h3 h4 h5), y5.moved hv, y6.moved hv, (y7.moved hv).kept hq⟩
  · obtain ⟨g1, g2⟩ := x3 k c fs r h1 h2
    exact ⟨(g1.moved hv).kept hq, fun j v hj => ((g2 j v hj).moved hv).kept hq⟩
  · exact ((x4 k t x ty h1 h2).moved hv).kept hq
  · exact ((x5 i v n h1 h2).moved hv).kept hq
  · obtain ⟨sa, g⟩ := y3 q hq1
    exact ⟨sa, vk_R.warm hW g⟩
def mj_Pc (D : va_G) (cA ρ : Nat → Nat) (base : Nat) (as : List Value) (h : mj_H) : Array Value → State → Prop := fun a U => a = (as.map (mj_tv ρ)).toArray ∧ mj_Y D cA ρ base U ∧ U.heap.size = base + h.length ∧ va_P D mj_cls (mj_ws ρ cA base h) U.heap
def mj_Qc (D : va_G) (cA ρ : Nat → Nat) (base : Nat) (o : mj_O) (h' : mj_H) : Array Value → State → Outcome → State → Prop := fun _ st oc t => (∃ v, o = .inl v ∧ oc = .returned (v.map (mj_tv ρ))) ∧ va_P D mj_cls (mj_ws ρ cA base h') t.heap ∧ va_F (fun q => base ≤ q) st t
def mj_XC (D : va_G) (cA ρ : Nat → Nat) (base : Nat) (o : mj_O) (h' : mj_H) : Addr → String → State → State → Prop := fun q E st t => (∃ i ci r, o = .inr i ∧ q = ρ i ∧ mj_ocl h' i = some ci ∧ mj_cls[ci]? = some r ∧ r.1 = E) ∧ va_P D mj_cls (mj_ws ρ cA base h') t.heap ∧ va_F (fun q => base ≤ q) st t
theorem mj_blind (D : va_G) (cA ρ : Nat → Nat) (base : Nat) (as : List Value) (h : mj_H) : FrameBlind (mj_Pc D cA ρ base as h) := by
  intro a U g mk ⟨h1, h2, h3, h4⟩
  exact ⟨h1, h2.go (U := U.calling g mk a) (State.WarmedH.refl U) (fun _ _ _ => rfl), h3, h4⟩
abbrev mj_rm (d mc ms : Nat) : Room := { frames := d + 20, cells := mc, slots := ms, locals := 64 * d + 600 }
section MJK
variable {p : Program} {l : Launch} {e : Env} {R : Room} {s : State} {m : MethodId} {args : Array Value} {below : List Frame} {meth : Method} {c : Code} {T : State} {H H1 : Heap} {locs : List Loc} {cells slots : Nat} {Q : State → Prop}
variable {D : va_G} {cA ρ : Nat → Nat} {base : Nat}
/-- what a call row of the kit gives -/
def mj_Out (p : Program) (l : Launch) (e : Env) (R : Room) (s : State) (m : MethodId) (args : Array Value) (below : List Frame) (meth : Method) (c : Code) (T : State) (locs : List Loc) (cells slots : Nat) (g : JFrame) (len : Nat) (rest : List Value) (Post : Pt → Array Value → Option Value → Pt → Prop) (PostX : Pt → Array Value → Addr → Pt → Prop) (a : Array Value) : Prop :=
  (∃ (v : Option Value) (vm₁ : Vm) (B : Pt), s.WarmedH vm₁ ∧ Stand p l e R s m args below meth c B.U B.locs B.cells B.slots ∧ Post ⟨T.setVm vm₁, locs, cells, slots⟩ a v B ∧
    ∀ target, Steps p.tables e below (B.U.setTop { g with pc := g.pc + len, stack := v.toList ++ rest }) target → Steps p.tables e below (T.setTop g) target) ∨
  (∃ (q : Addr) (vm₁ : Vm) (B : Pt), s.WarmedH vm₁ ∧ Stand p l e R s m args below meth c B.U B.locs B.cells B.slots ∧ PostX ⟨T.setVm vm₁, locs, cells, slots⟩ a q B ∧
    Steps p.tables e below (T.setTop g) ((B.U.setTop { g with stack := rest }).pushFrame (.throwing q)))
end MJK
