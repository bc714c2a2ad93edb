/-! Pebbles: with as many as there are places, it can be done. -/
theorem pbO_VL {p q : Nat} : ∀ (f i : Nat) (s : pb_S), pbV p s → pbV p (pbO p q f i s) ∧ pbL s (pbO p q f i s)
  | 0, i, s, hV => ⟨hV, pbL.rf s⟩
  | f + 1, i, s, hV => by
    by_cases h1 : i < s.2.2
    · rw [show pbO p q (f + 1) i s = pbO p q f (i + 1) (pbI q (s.2.1 i) p 0 s) from if_pos h1]
      obtain ⟨hnow, hf⟩ := hV.2.2.2 i h1
      obtain ⟨a, b⟩ := pbI_VL (q := q) hnow p 0 s (by omega) hV hf
      obtain ⟨c, d⟩ := pbO_VL f (i + 1) _ a (q := q)
      exact ⟨c, b.tr d⟩
    · rw [show pbO p q (f + 1) i s = s from if_neg h1]
      exact ⟨hV, pbL.rf s⟩
theorem pbR_lt {p q d : Nat} (h : pbR p q = some d) : d < 2 ^ p := by
  have hV := (pbO_VL (q := q) (2 ^ p + 1) 0 pbZ (pbZ_V p)).1
  have h1 := hV.2.2.1 _ d h
  have h2 := pbV_n hV
  omega
/-- all that is found stands in the queue -/
def pbQ (s : pb_S) : Prop := ∀ x, (s.1 x).isSome = true → ∃ j, j < s.2.2 ∧ s.2.1 j = x
theorem pbS_Q {q now pl : Nat} {s : pb_S} (h : pbQ s) : pbQ (pbS q now pl s) := by
  unfold pbS
  split
  · intro x hx
    unfold vf_upd at hx ⊢
    dsimp only at hx ⊢
    by_cases q1 : x = now ^^^ 2 ^ pl
    · exact ⟨s.2.2, by omega, by rw [if_pos rfl, q1]⟩
    · rw [if_neg q1] at hx
      obtain ⟨j, h1, h2⟩ := h x hx
      exact ⟨j, by omega, by rw [if_neg (by omega)]; exact h2⟩
  · exact h
theorem pbS_c {q now pl : Nat} {s : pb_S} (hk : pbk q now pl = true) : ((pbS q now pl s).1 (now ^^^ 2 ^ pl)).isSome = true := by
  unfold pbS
  by_cases h : s.1 (now ^^^ 2 ^ pl) = none
  · rw [if_pos ⟨hk, h⟩]
    unfold vf_upd
    dsimp only
    rw [if_pos rfl]
    rfl
  · rw [if_neg (fun z => h z.2)]
    exact Option.isSome_iff_ne_none.mpr h
theorem pbI_c {p q now : Nat} : ∀ (r pl : Nat) (s : pb_S), pl + r = p → pbQ s → pbQ (pbI q now r pl s) ∧ pbL s (pbI q now r pl s) ∧ ∀ k, pl ≤ k → k < p → pbk q now k = true → ((pbI q now r pl s).1 (now ^^^ 2 ^ k)).isSome = true
  | 0, pl, s, hp, hQ => ⟨hQ, pbL.rf s, fun k h1 h2 _ => by omega⟩
  | r + 1, pl, s, hp, hQ => by
    obtain ⟨a, b, c⟩ := pbI_c (p := p) (q := q) (now := now) r (pl + 1) (pbS q now pl s) (by omega) (pbS_Q hQ)
    refine ⟨a, pbS_L.tr b, fun k h1 h2 hk => ?_⟩
    by_cases q1 : k = pl
    · subst q1
      exact b.2.1 _ (pbS_c hk)
    · exact c k (by omega) h2 hk
/-- what follows what stood before place i of the queue is found -/
def pbCl (p q i : Nat) (s : pb_S) : Prop := ∀ j, j < i → ∀ k, k < p → pbk q (s.2.1 j) k = true → (s.1 (s.2.1 j ^^^ 2 ^ k)).isSome = true
theorem pbO_c {p q : Nat} : ∀ (f i : Nat) (s : pb_S), 2 ^ p + 1 ≤ f + i → i ≤ s.2.2 → pbV p s → pbQ s → pbCl p q i s → pbQ (pbO p q f i s) ∧ pbCl p q (pbO p q f i s).2.2 (pbO p q f i s)
  | 0, i, s, hf, hi, hV, hQ, hC => by
    have := pbV_n hV
    omega
  | f + 1, i, s, hf, hi, hV, hQ, hC => by
    by_cases h1 : i < s.2.2
    · rw [show pbO p q (f + 1) i s = pbO p q f (i + 1) (pbI q (s.2.1 i) p 0 s) from if_pos h1]
      obtain ⟨hnow, hfo⟩ := hV.2.2.2 i h1
      obtain ⟨a, b⟩ := pbI_VL (q := q) hnow p 0 s (by omega) hV hfo
      obtain ⟨c, _, d⟩ := pbI_c (p := p) (q := q) (now := s.2.1 i) p 0 s (by omega) hQ
      refine pbO_c f (i + 1) _ (by omega) (Nat.le_trans h1 b.1) a c ?_
      intro j hj k hk hb
      by_cases q1 : j = i
      · subst q1
        rw [b.2.2 j h1] at hb ⊢
        exact d k (by omega) hk hb
      · rw [b.2.2 j (by omega)] at hb ⊢
        exact b.2.1 _ (hC j (by omega) k hk hb)
    · rw [show pbO p q (f + 1) i s = s from if_neg h1]
      exact ⟨hQ, fun j hj => hC j (by omega)⟩
/-- a way by places -/
def pbW (p : Nat) : List Nat → Nat → Option Nat
  | [], x => some x
  | k :: l, x => if (decide (k < p) && (k == 0 || x.testBit (k - 1))) = true then pbW p l (x ^^^ 2 ^ k) else none
theorem pb_bc {p y : Nat} (hp1 : 1 ≤ p) (hp : p ≤ 10) (hy : y < 2 ^ p) : bc (nI y) ≤ nI p := by
  have h : ((List.range 11).all fun p => (List.range (2 ^ p)).all fun y => decide (p = 0) || decide (bc (nI y) ≤ nI p)) = true := by decide +kernel
  have h1 := List.all_eq_true.mp (List.all_eq_true.mp h p (List.mem_range.mpr (by omega))) y (List.mem_range.mpr hy)
  rw [Bool.or_eq_true] at h1
  rcases h1 with h1 | h1
  · have := of_decide_eq_true h1
    omega
  · exact of_decide_eq_true h1
theorem pbW_f {p : Nat} (hp1 : 1 ≤ p) (hp : p ≤ 10) {s : pb_S} (hV : pbV p s) (hQ : pbQ s) (hC : pbCl p p s.2.2 s) : ∀ (l : List Nat) (x y : Nat), (s.1 x).isSome = true → pbW p l x = some y → (s.1 y).isSome = true
  | [], x, y, hx, hw => by cases hw; exact hx
  | k :: l, x, y, hx, hw => by
    by_cases h1 : (decide (k < p) && (k == 0 || x.testBit (k - 1))) = true
    · unfold pbW at hw
      rw [if_pos h1] at hw
      rw [Bool.and_eq_true] at h1
      have hk := of_decide_eq_true h1.1
      refine pbW_f hp1 hp hV hQ hC l _ y ?_ hw
      obtain ⟨j, hj, rfl⟩ := hQ x hx
      refine hC j hj k hk ?_
      unfold pbk
      rw [h1.2, decide_eq_true (pb_bc hp1 hp (xor_lt (hV.2.2.2 j hj).1 hk))]
      rfl
    · unfold pbW at hw
      rw [if_neg h1] at hw
      cases hw
theorem pb_way {p : Nat} (hp1 : 1 ≤ p) (hp : p ≤ 10) : pbW p (List.range p ++ (List.range (p - 1)).reverse) 0 = some (2 ^ (p - 1)) := by
  have h : ((List.range 11).all fun p => decide (p = 0) || decide (pbW p (List.range p ++ (List.range (p - 1)).reverse) 0 = some (2 ^ (p - 1)))) = true := by decide +kernel
  have h1 := List.all_eq_true.mp h p (List.mem_range.mpr (by omega))
  rw [Bool.or_eq_true] at h1
  rcases h1 with h1 | h1
  · have := of_decide_eq_true h1
    omega
  · exact of_decide_eq_true h1
theorem pbZ_Q : pbQ pbZ := by
  intro x hx
  unfold pbZ vf_upd at hx
  dsimp only at hx
  by_cases q1 : x = 0
  · exact ⟨0, by show 0 < 1; omega, by rw [q1]; rfl⟩
  · rw [if_neg q1] at hx
    cases hx
theorem pbR_pp {p : Nat} (hp1 : 1 ≤ p) (hp : p ≤ 10) : pbR p p ≠ none := by
  have hV := (pbO_VL (q := p) (2 ^ p + 1) 0 pbZ (pbZ_V p))
  have hC := pbO_c (q := p) (2 ^ p + 1) 0 pbZ (by omega) (by omega) (pbZ_V p) pbZ_Q (fun j hj => by omega)
  have h := pbW_f hp1 hp hV.1 hC.1 hC.2 _ 0 _ (hV.2.2.1 0 rfl) (pb_way hp1 hp)
  intro h2
  have h3 : (pbF p p).1 (2 ^ (p - 1)) = none := h2
  rw [show (pbO p p (2 ^ p + 1) 0 pbZ).1 (2 ^ (p - 1)) = none from h3] at h
  cases h
/-- the fewest pebbles, from c on, k more to look at -/
def pbC (p : Nat) : Nat → Nat → Nat
  | 0, c => c
  | k + 1, c => if pbR p c = none then pbC p k (c + 1) else c
