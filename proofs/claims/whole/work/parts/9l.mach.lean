/-! A machine for runs, by hand: stores, places, steps. -/
abbrev SV := (Nat → Int32) × (Nat → Int32) × Nat
abbrev SR := Nat × Nat × Nat × Bool × (Nat → Nat) × (Nat → Nat) × (Nat → Bool)
abbrev SS := SV × SR
abbrev CZ := Nat × Nat × Nat × Nat × Nat
def tvl (v : Nat → Int32) (t : Nat) : Int32 := if t < 1000 then nI t else v (4294967295 - t)
def sml (v : Nat → Int32) (A : Nat → Nat) : Int32 := if A 3 = 43 then tvl v (A 2) + tvl v (A 4) else if A 3 = 45 then tvl v (A 2) - tvl v (A 4) else if A 3 = 42 then tvl v (A 2) * tvl v (A 4) else if A 3 = 38 then tvl v (A 2) &&& tvl v (A 4) else tvl v (A 2)
def hld (v : Nat → Int32) (A : Nat → Nat) : Bool := if A 3 = 60 then decide (tvl v (A 2) < tvl v (A 4)) else if A 3 = 62 then decide (tvl v (A 4) < tvl v (A 2)) else decide (tvl v (A 2) = tvl v (A 4))
def nwv (s : Nat) (w : Bool) (b x : Int32) : Int32 := if s = 94 then b ^^^ x else if decide (s = 43) = w then b + x else b - x
/-- a statement that changes the store -/
def stS (A : Nat → Nat) (w : Bool) : SV → SV ⊕ CZ
  | (v, st, t) =>
    if A 0 = 43 ∨ A 0 = 45 ∨ A 0 = 94 then .inl (upd v (A 1) (nwv (A 0) w (v (A 1)) (sml v A)), st, t)
    else if A 0 = 126 then .inl (upd (upd v (A 1) (v (4294967295 - A 2))) (4294967295 - A 2) (v (A 1)), st, t)
    else if decide (A 0 = 33) = w then (if 20 ≤ t then .inr (1, 102, 20, 0, 0) else .inl (upd v (A 1) 0, upd st t (v (A 1)), t + 1))
    else if v (A 1) = 0 then (if t = 0 then .inr (1, 101, A 1, 0, 0) else .inl (upd v (A 1) (st (t - 1)), st, t - 1))
    else .inr (1, 122, A 1, 0, 0)
def brk_ (a s w : Nat) : Nat ⊕ CZ := .inr (2, 116, a, s, w)
/-- where a bracket's act leads, ahead and back: C, D its tests -/
def brA (A : Nat → Nat) (a : Nat) (C D : Bool) : Nat ⊕ CZ :=
  if A 0 = 91 then .inl (if C = true then a + 1 else A 6 + 1)
  else if A 0 = 124 then (if D = true then .inl (A 7 + 1) else brk_ a 124 1)
  else if A 0 = 93 then (if D = true then brk_ a 93 0 else .inl (a + 1))
  else if A 0 = 123 then (if C = true then .inl (a + 1) else brk_ a 123 1)
  else if A 0 = 47 then .inl (if D = true then A 7 + 1 else a + 1)
  else (if C = true then brk_ a 125 0 else .inl (A 5 + 1))
def brB (A : Nat → Nat) (a : Nat) (C D : Bool) : Nat ⊕ CZ :=
  if A 0 = 93 then .inl (if D = true then A 6 else a)
  else if A 0 = 124 then (if C = true then brk_ a 124 0 else .inl (A 5))
  else if A 0 = 91 then (if C = true then .inl a else brk_ a 91 1)
  else if A 0 = 125 then (if D = true then .inl (A 6) else brk_ a 125 1)
  else if A 0 = 47 then (if D = true then brk_ a 47 0 else .inl a)
  else .inl (if C = true then a else A 7)
def updB (f : Nat → Bool) (k : Nat) (b : Bool) : Nat → Bool := fun j => if j = k then b else f j
/-- one step, the act A at place a -/
def stpA (np : Nat) (K : Nat → Nat) (X : Nat → Nat → Nat → Nat) (a : Nat) (A : Nat → Nat) : SS → SS ⊕ CZ
  | (s, p, l, c, w, cp, cl, cw) =>
    if A 0 = 64 ∨ A 0 = 36 then
      if np ≤ A 1 then .inr (1, 112, A 1, 0, 0)
      else if 20 ≤ c then .inr (1, 100, 20, 0, 0)
      else .inl (s, A 1, (if decide (A 0 = 64) = w then 0 else K (A 1)), c + 1, decide (decide (A 0 = 64) = w), upN cp c p, upN cl c a, updB cw c w)
    else if brS (A 0) = true then match (if w = true then brA A a (hld s.1 (X p (A 5))) (hld s.1 (X p (A 7))) else brB A a (hld s.1 (X p (A 5))) (hld s.1 (X p (A 7)))) with
      | .inl l' => .inl (s, p, l', c, w, cp, cl, cw)
      | .inr z => .inr z
    else match stS A w s with
      | .inl s' => .inl (s', p, (if w = true then a + 1 else a), c, w, cp, cl, cw)
      | .inr z => .inr z
def atR (r : SR) : Nat := if r.2.2.2.1 = true then r.2.1 else r.2.1 - 1
def stp (np : Nat) (K : Nat → Nat) (X : Nat → Nat → Nat → Nat) (s : SS) : SS ⊕ CZ := stpA np K X (atR s.2) (X s.2.1 (atR s.2)) s
/-- at the end of its procedure -/
def edg (K : Nat → Nat) : SR → Bool
  | (p, l, _, w, _) => if w = true then decide (K p ≤ l) else decide (l ≤ 0)
def edd (K : Nat → Nat) (r : SR) : Bool := decide (r.2.2.1 = 0) && edg K r
def pop_ : SR → SR
  | (_, _, c, _, cp, cl, cw) => (cp (c - 1), (if cw (c - 1) = true then cl (c - 1) + 1 else cl (c - 1)), c - 1, cw (c - 1), cp, cl, cw)
/-- coming back -/
def cbk (K : Nat → Nat) : Nat → SR → SR
  | 0, r => r
  | i + 1, r => if 0 < r.2.2.1 ∧ edg K r = true then cbk K i (pop_ r) else r
/-- so many steps at most -/
def rns (np : Nat) (K : Nat → Nat) (X : Nat → Nat → Nat → Nat) : Nat → SS → Nat × SS × CZ
  | 0, s => (0, s, (0, 0, 0, 0, 0))
  | i + 1, s => if edd K s.2 = true then (0, s, (0, 0, 0, 0, 0)) else match stp np K X s with
    | .inr z => (0, s, z)
    | .inl s' => ((rns np K X i (s'.1, cbk K 20 s'.2)).1 + 1, (rns np K X i (s'.1, cbk K 20 s'.2)).2)
/-- begun -/
def bgn (K : Nat → Nat) (p : Nat) (w : Bool) (cp cl : Nat → Nat) (cw : Nat → Bool) : SR := (p, (if w = true then 0 else K p), 0, w, cp, cl, cw)
/-- turned round -/
def trn : SR → SR
  | (p, l, c, w, cp, cl, cw) => (p, l, c, !w, cp, cl, fun d => if d < c then !cw d else cw d)
/-- programs whose acts are rows of statements -/
def pOk (np : Nat) (K : Nat → Nat) (X : Nat → Nat → Nat → Nat) : Prop := np ≤ 6 ∧ ∀ p, p < np → K p ≤ 30 ∧ ∀ j, j < K p → aOk (X p) 0 (K p) j
def wfR (np : Nat) (K : Nat → Nat) : SR → Prop
  | (p, l, c, _, cp, cl, _) => p < np ∧ l ≤ K p ∧ c ≤ 20 ∧ ∀ d, d < c → cp d < np ∧ cl d < K (cp d)
def nrm (K : Nat → Nat) (r : SR) : Prop := ¬ (0 < r.2.2.1 ∧ edg K r = true)
theorem pop_wf {np : Nat} {K : Nat → Nat} {r : SR} (h : wfR np K r) (hc : 0 < r.2.2.1) : wfR np K (pop_ r) := by
  obtain ⟨p, l, c, w, cp, cl, cw⟩ := r
  obtain ⟨h1, h2, h3, h4⟩ := h
  have hc : 0 < c := hc
  have h5 := h4 (c - 1) (by omega)
  refine ⟨h5.1, ?_, by show c - 1 ≤ 20; omega, fun d hd => h4 d (by have : d < c - 1 := hd; omega)⟩
  show (if cw (c - 1) = true then cl (c - 1) + 1 else cl (c - 1)) ≤ K (cp (c - 1))
  split <;> omega
theorem pop_c (r : SR) : (pop_ r).2.2.1 = r.2.2.1 - 1 := rfl
theorem cbk_wf {np : Nat} {K : Nat → Nat} : ∀ (i : Nat) (r : SR), wfR np K r → wfR np K (cbk K i r)
  | 0, r, h => h
  | i + 1, r, h => by
    rw [cbk]
    split
    · rename_i q
      exact cbk_wf i _ (pop_wf h q.1)
    · exact h
theorem cbk_nrm {K : Nat → Nat} : ∀ (i : Nat) (r : SR), r.2.2.1 ≤ i → nrm K (cbk K i r)
  | 0, r, h => fun q => by
    have : 0 < r.2.2.1 := q.1
    omega
  | i + 1, r, h => by
    rw [cbk]
    split
    · rename_i q
      exact cbk_nrm i _ (by rw [pop_c]; omega)
    · rename_i q
      exact q
/-- at the end, as the reference asks -/
theorem edg_eq {np : Nat} {K : Nat → Nat} {p l c : Nat} {w : Bool} {cp cl : Nat → Nat} {cw : Nat → Bool} (h : wfR np K (p, l, c, w, cp, cl, cw)) : edg K (p, l, c, w, cp, cl, cw) = decide (l = if w = true then K p else 0) := by
  have h2 := h.2.1
  show (if w = true then decide (K p ≤ l) else decide (l ≤ 0)) = _
  cases w with
  | true => exact decide_eq_decide.mpr (by show K p ≤ l ↔ l = K p; omega)
  | false => exact decide_eq_decide.mpr (by show l ≤ 0 ↔ l = 0; omega)
/-- the act that is next -/
theorem edg_at {np : Nat} {K : Nat → Nat} {p l c : Nat} {w : Bool} {cp cl : Nat → Nat} {cw : Nat → Bool} (h : wfR np K (p, l, c, w, cp, cl, cw)) (he : edg K (p, l, c, w, cp, cl, cw) = false) : (if w = true then l else l - 1) < K p ∧ (w = false → 0 < l) := by
  have h2 := h.2.1
  rw [edg_eq h] at he
  have he := of_decide_eq_false he
  cases w with
  | true =>
    have he : ¬ l = K p := he
    exact ⟨by show l < K p; omega, fun e => by cases e⟩
  | false =>
    have he : ¬ l = 0 := he
    exact ⟨by show l - 1 < K p; omega, fun _ => by omega⟩
theorem brA_le {A : Nat → Nat} {x : Nat → Nat → Nat} {K a l' : Nat} {C D : Bool} (ha : a < K) (h5 : A 5 < K) (h6 : A 6 < K) (h7 : A 7 < K) (h : brA A a C D = .inl l') : l' ≤ K := by
  unfold brA brk_ at h
  repeat' split at h
  all_goals first | (cases h; done) | (cases h; omega)
theorem brB_le {A : Nat → Nat} {x : Nat → Nat → Nat} {K a l' : Nat} {C D : Bool} (ha : a < K) (h5 : A 5 < K) (h6 : A 6 < K) (h7 : A 7 < K) (h : brB A a C D = .inl l') : l' ≤ K := by
  unfold brB brk_ at h
  repeat' split at h
  all_goals first | (cases h; done) | (cases h; omega)
theorem aOk_l {x : Nat → Nat → Nat} {K j : Nat} (h : aOk x 0 K j) (hb : brS (x j 0) = true) : ∃ o m e, bOk x o m e ∧ (j = o ∨ j = m ∨ j = e) ∧ o < m ∧ m < e ∧ e < K ∧ x j 5 = o ∧ x j 6 = m ∧ x j 7 = e := by
  rcases h with h | ⟨o, m, e, b, hj, _, h2, h3, h4⟩
  · exact absurd hb (brS_f (by have := h.1; omega))
  · have b0 := b
    obtain ⟨_, _, _, _, _, _, l1, l2, l3⟩ := b
    rcases hj with rfl | rfl | rfl
    · exact ⟨_, _, _, b0, Or.inl rfl, h2, h3, h4, l1.1, l1.2.1, l1.2.2⟩
    · exact ⟨_, _, _, b0, Or.inr (Or.inl rfl), h2, h3, h4, l2.1, l2.2.1, l2.2.2⟩
    · exact ⟨_, _, _, b0, Or.inr (Or.inr rfl), h2, h3, h4, l3.1, l3.2.1, l3.2.2⟩
/-- a step keeps to the program -/
theorem stp_wf {np : Nat} {K : Nat → Nat} {X : Nat → Nat → Nat → Nat} {s s' : SS} (hp : pOk np K X) (h : wfR np K s.2) (he : edg K s.2 = false) (hs : stp np K X s = .inl s') : wfR np K s'.2 := by
  obtain ⟨sv, p, l, c, w, cp, cl, cw⟩ := s
  have hat : atR (p, l, c, w, cp, cl, cw) < K p := (edg_at h he).1
  have hz : (if w = true then atR (p, l, c, w, cp, cl, cw) + 1 else atR (p, l, c, w, cp, cl, cw)) ≤ K p := by split <;> omega
  obtain ⟨h1, h2, h3, h4⟩ := h
  have hA := (hp.2 p h1).2 _ hat
  unfold stp stpA at hs
  dsimp only at hs
  generalize atR (p, l, c, w, cp, cl, cw) = a at *
  split at hs
  · split at hs
    · cases hs
    · split at hs
      · cases hs
      · rw [← Sum.inl.inj hs]
        refine ⟨by omega, ?_, by omega, fun d hd => ?_⟩
        · split <;> omega
        · show upN cp c p d < np ∧ upN cl c _ d < K (upN cp c p d)
          unfold upN
          by_cases q : d = c
          · rw [if_pos q, if_pos q]
            exact ⟨h1, hat⟩
          · rw [if_neg q, if_neg q]
            exact h4 d (by omega)
  · split at hs
    · rename_i qb
      obtain ⟨o, m, e, b, hj, g2, g3, g4, l5, l6, l7⟩ := aOk_l hA qb
      split at hs
      · rename_i l' hl
        rw [← Sum.inl.inj hs]
        refine ⟨h1, ?_, h3, h4⟩
        split at hl
        · exact brA_le (x := X p) hat (by omega) (by omega) (by omega) hl
        · exact brB_le (x := X p) hat (by omega) (by omega) (by omega) hl
      · cases hs
    · split at hs
      · rw [← Sum.inl.inj hs]
        exact ⟨h1, hz, h3, h4⟩
      · cases hs
theorem stS_t {A : Nat → Nat} {w : Bool} {v st : Nat → Int32} {t : Nat} {s' : SV} (h : stS A w (v, st, t) = .inl s') (ht : t ≤ 20) : s'.2.2 ≤ 20 := by
  unfold stS at h
  dsimp only at h
  repeat' split at h
  all_goals first | (cases h; done) | (have h := Sum.inl.inj h; rw [← h]; show _ ≤ 20; dsimp only; omega) | (have h := Sum.inl.inj h; rw [← h]; exact ht)
