/-! With five pebbles it can be done, on ten places. -/
/-- a way with q pebbles at most -/
def pbW5 (p q : Nat) : List Nat → Nat → Option Nat
  | [], x => some x
  | k :: l, x => if (decide (k < p) && pbk q x k) = true then pbW5 p q l (x ^^^ 2 ^ k) else none
theorem pbW5_f {p q : Nat} {s : pb_S} (hQ : pbQ s) (hC : pbCl p q s.2.2 s) : ∀ (l : List Nat) (x y : Nat), (s.1 x).isSome = true → pbW5 p q l x = some y → (s.1 y).isSome = true
  | [], x, y, hx, hw => by cases hw; exact hx
  | k :: l, x, y, hx, hw => by
    unfold pbW5 at hw
    by_cases h1 : (decide (k < p) && pbk q x k) = true
    · rw [if_pos h1] at hw
      rw [Bool.and_eq_true] at h1
      have hk := of_decide_eq_true h1.1
      refine pbW5_f hQ hC l _ y ?_ hw
      obtain ⟨j, hj, rfl⟩ := hQ x hx
      exact hC j hj k hk h1.2
    · rw [if_neg h1] at hw
      cases hw
def pb_ways : List (List Nat) := [[], [0], [0, 1, 0], [0, 1, 2, 1, 0], [0, 1, 2, 3, 2, 1, 0], [0, 1, 2, 3, 4, 3, 2, 1, 0], [0, 1, 0, 2, 3, 4, 5, 4, 0, 3, 2, 1, 0], [0, 1, 0, 2, 3, 2, 4, 5, 6, 5, 0, 4, 2, 3, 2, 1, 0], [0, 1, 0, 2, 3, 2, 4, 5, 4, 6, 7, 6, 4, 5, 0, 4, 2, 3, 2, 1, 0], [0, 1, 0, 2, 3, 4, 3, 2, 5, 6, 5, 7, 8, 7, 5, 6, 2, 5, 3, 4, 0, 3, 2, 1, 0], [0, 1, 2, 1, 0, 3, 4, 5, 4, 3, 6, 7, 6, 8, 9, 8, 6, 7, 3, 6, 4, 5, 0, 4, 1, 3, 2, 1, 0]]
theorem pb_way5 {p : Nat} (hp1 : 1 ≤ p) (hp : p ≤ 10) : pbW5 p 5 (pb_ways.getD p []) 0 = some (2 ^ (p - 1)) := by
  have h : ((List.range 11).all fun p => decide (p = 0) || decide (pbW5 p 5 (pb_ways.getD p []) 0 = some (2 ^ (p - 1)))) = true := by decide +kernel
  have h1 := List.all_eq_true.mp h p (List.mem_range.mpr (by omega))
  rw [Bool.or_eq_true] at h1
  rcases h1 with h1 | h1
  · have := of_decide_eq_true h1
    omega
  · exact of_decide_eq_true h1
theorem pbR_5 {p : Nat} (hp1 : 1 ≤ p) (hp : p ≤ 10) : pbR p 5 ≠ none := by
  have hV := (pbO_VL (q := 5) (2 ^ p + 1) 0 pbZ (pbZ_V p))
  have hC := pbO_c (q := 5) (2 ^ p + 1) 0 pbZ (by omega) (by omega) (pbZ_V p) pbZ_Q (fun j hj => by omega)
  have h := pbW5_f hC.1 hC.2 _ 0 _ (hV.2.2.1 0 rfl) (pb_way5 hp1 hp)
  intro h2
  have h3 : (pbF p 5).1 (2 ^ (p - 1)) = none := h2
  rw [show (pbO p 5 (2 ^ p + 1) 0 pbZ).1 (2 ^ (p - 1)) = none from h3] at h
  cases h
theorem pbC_ge (p : Nat) : ∀ k c, c ≤ pbC p k c
  | 0, c => Nat.le_refl c
  | k + 1, c => by
    rw [pbC_k]
    split
    · exact Nat.le_trans (by omega) (pbC_ge p k (c + 1))
    · exact Nat.le_refl c
theorem pbC_5 {p : Nat} (hp1 : 1 ≤ p) (hp : p ≤ 10) : ∀ k c, c ≤ 5 → pbC p k c ≤ 5
  | 0, c, hc => hc
  | k + 1, c, hc => by
    rw [pbC_k]
    split
    · rename_i hR
      by_cases h4 : c = 5
      · subst h4
        exact absurd hR (pbR_5 hp1 hp)
      · exact pbC_5 hp1 hp k (c + 1) (by omega)
    · exact hc
