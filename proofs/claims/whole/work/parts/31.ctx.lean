theorem mj_eqv {s : State} {args : Array Value} {t : Term} {v : Int32} (h : (Cond.eq t (.int v)).before args s = true) : t.eval args s none [] s = some (.int v) := by
  obtain ⟨y, h1, h2⟩ := Cond.eq_one h
  have h3 : (Term.int v).eval args s none [] s = some (.int v) := rfl
  rw [h3] at h2
  cases h2
  exact h1
theorem mj_zq {s : State} {C n d : String} {A : Nat → Prop} (h : va_Zq C n d A s s.heap) : ∃ x : Option Nat, va_Z C n d (va_rf x) A s s.heap := by
  rcases h with h | ⟨t, h⟩
  · exact ⟨none, h⟩
  · exact ⟨some t, h⟩
/-- where the constants lie -/
def mj_rhoK (e0 c1 d1 d2 mi : Nat) (ad kS vS : Nat → Nat) (k : Nat) : Nat := match k with
  | 0 => e0
  | 1 => c1
  | 2 => d1
  | 3 => d2
  | 4 => mi
  | k => if k < 300 then ad (k - 10) else if k % 2 = 0 then kS ((k - 300) / 2) else vS ((k - 300) / 2)
def mj_rhoO (b : Nat) (x0 x2 x3 : Option Nat) (k : Nat) : Nat := match k with
  | 0 => if x0 = none then 0 else 1
  | 1 => x0.getD 0
  | 2 => 1
  | 3 => b
  | 4 => if x2 = none then 0 else 1
  | 5 => x2.getD 0
  | 6 => if x3 = none then 0 else 1
  | 7 => x3.getD 0
  | _ => 0
/-- where everything lies -/
def mj_rho (base : Nat) (f g : Nat → Nat) (a : Nat) : Nat := if a < mj_CB then base + a else if a < 2 * mj_CB then f (a - mj_CB) else g (a - 2 * mj_CB)
theorem mj_rho_lt {base : Nat} {f g : Nat → Nat} {i : Nat} (h : i < mj_CB) : mj_rho base f g i = base + i := by
  unfold mj_rho
  rw [if_pos h]
theorem mj_rho_k {base : Nat} {f g : Nat → Nat} {k : Nat} (h : k < mj_CB) : mj_rho base f g (mj_CB + k) = f k := by
  unfold mj_rho
  rw [if_neg (by omega), if_pos (by omega), Nat.add_sub_cancel_left]
theorem mj_rho_g {base : Nat} {f g : Nat → Nat} {k : Nat} : mj_rho base f g (2 * mj_CB + k) = g k := by
  unfold mj_rho
  rw [if_neg (by omega), if_neg (by omega), Nat.add_sub_cancel_left]
theorem mj_opq {base k : Nat} {f g : Nat → Nat} {x : Option Nat} (h1 : g (2 * k) = if x = none then 0 else 1) (h2 : g (2 * k + 1) = x.getD 0) : mj_tv (mj_rho base f g) (.retAddr k) = va_rf x := by
  show va_rf (if mj_rho base f g (2 * mj_CB + 2 * k) = 0 then none else some (mj_rho base f g (2 * mj_CB + 2 * k + 1))) = va_rf x
  rw [Nat.add_assoc, mj_rho_g, mj_rho_g, h1, h2]
  cases x <;> rfl
/-- a static of the tables -/
theorem mj_zof {s : State} {args : Array Value} {C n d : String} {v : Value} {base : Nat} (hts : ∀ w ∈ lw_tbl, w.before args s = true) (hl : Cond.laysStatic C n d ∈ lw_tbl) (hi : Cond.initialized C ∈ lw_tbl) (hv : (Term.static C n d).eval args s none [] s = some v) (hA : ∀ a : Nat, a < s.heap.size → ¬ base ≤ a) : va_Z C n d v (fun q => base ≤ q) s s.heap := va_Zof (hts _ hl) (hts _ hi) hv hA
theorem mj_rep_at : ∀ k, k < 11 → ∃ q, mj_rep[k]? = some q ∧ mj_txt[k]? = some q.2.2 ∧ q.2.2.length < 2 ^ 31 := by
  intro k hk
  rcases (show k = 0 ∨ k = 1 ∨ k = 2 ∨ k = 3 ∨ k = 4 ∨ k = 5 ∨ k = 6 ∨ k = 7 ∨ k = 8 ∨ k = 9 ∨ k = 10 by omega) with rfl | rfl | rfl | rfl | rfl | rfl | rfl | rfl | rfl | rfl | rfl <;> exact ⟨_, rfl, rfl, by decide⟩
/-- what is known of the texts' places -/
def mj_TX (s : State) (args : Array Value) (base : Nat) (kS vS : Nat → Nat) : Prop := ∀ (k : Nat) (q : String × Nat × List Nat), mj_rep[k]? = some q →
  va_O "java/lang/String" (kS k) (fun q => base ≤ q) s s.heap ∧ va_OF "java/lang/String" "coder" "B" (.int 0) (kS k) (fun q => base ≤ q) s s.heap ∧ va_OF "java/lang/String" "value" "[B" (.ref (vS k)) (kS k) (fun q => base ≤ q) s s.heap ∧ va_T .byte (vS k) q.2.2.length (fun j => .int (mj_byt q.2.2 j)) (fun q => base ≤ q) s s.heap ∧ (Term.string q.1 q.2.1).eval args s none [] s = some (.ref (kS k))
theorem mj_st_TX {s : State} {args : Array Value} {base : Nat} (h : mj_gv args s) (hA : ∀ a : Nat, a < s.heap.size → ¬ base ≤ a) : ∃ kS vS, mj_TX s args base kS vS := by
  have h1 : ∀ k : Nat, ∃ x : Nat × Nat, ∀ q : String × Nat × List Nat, mj_rep[k]? = some q →
      va_O "java/lang/String" x.1 (fun q => base ≤ q) s s.heap ∧ va_OF "java/lang/String" "coder" "B" (.int 0) x.1 (fun q => base ≤ q) s s.heap ∧ va_OF "java/lang/String" "value" "[B" (.ref x.2) x.1 (fun q => base ≤ q) s s.heap ∧ va_T .byte x.2 q.2.2.length (fun j => .int (mj_byt q.2.2 j)) (fun q => base ≤ q) s s.heap ∧ (Term.string q.1 q.2.1).eval args s none [] s = some (.ref x.1) := fun k => by
    cases hq : mj_rep[k]? with
    | none => exact ⟨(0, 0), fun q h => by cases h⟩
    | some q =>
      have hm := List.mem_of_getElem? hq
      have hl : ∀ q ∈ mj_rep, q.2.2.length < 2 ^ 31 := by decide
      obtain ⟨aK, aV, g⟩ := mj_st_txt hA (hl q hm) (mj_fl_txt h q hm)
      exact ⟨(aK, aV), fun q h => by cases h; exact g⟩
  obtain ⟨f, hf⟩ := Classical.axiomOfChoice h1
  exact ⟨fun k => (f k).1, fun k => (f k).2, hf⟩
