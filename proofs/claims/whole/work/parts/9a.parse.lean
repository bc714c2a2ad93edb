/-! Reading a text, by hand: acts as eight numbers each (sign, target, first term, sign between, second term, and a bracket's three places). -/
abbrev PS := Nat × Nat × (Nat → Nat → Nat)
abbrev PR := (Nat × Nat) ⊕ PS
/-- the sign at a place; 70000 behind the end -/
def chA (n : Nat) (f : Nat → Nat) (at_ : Nat) : Nat := if at_ < n then f at_ else 70000
def vB (c : Nat) : Bool := decide (97 ≤ c ∧ c ≤ 104)
def dB (c : Nat) : Bool := decide (48 ≤ c ∧ c ≤ 57)
def sB (c : Nat) : Bool := decide (c = 43 ∨ c = 45 ∨ c = 42 ∨ c = 38)
def tB (c : Nat) : Bool := decide (c = 60 ∨ c = 61 ∨ c = 62)
def oB (c : Nat) : Bool := decide (c = 43 ∨ c = 45 ∨ c = 94 ∨ c = 126)
/-- a variable as a term -/
def vT (v : Nat) : Nat := 4294967295 - v
def rNum (ch : Nat → Nat) : Nat → Nat → Nat → Nat × Nat
  | 0, at_, t => (t, at_)
  | d + 1, at_, t => if dB (ch at_) = true then rNum ch d (at_ + 1) (10 * t + (ch at_ - 48)) else (t, at_)
def rTerm (ch : Nat → Nat) (at_ : Nat) : (Nat × Nat) ⊕ (Nat × Nat) :=
  if vB (ch at_) = true then .inr (vT (ch at_ - 97), at_ + 1) else if dB (ch at_) = true then .inr (rNum ch 3 at_ 0) else .inl (116, at_)
def rTest (ch : Nat → Nat) (at_ : Nat) : (Nat × Nat) ⊕ (Nat × Nat × Nat × Nat) := match rTerm ch at_ with
  | .inl e => .inl e
  | .inr (t, a1) => if tB (ch a1) = true then match rTerm ch (a1 + 1) with
      | .inl e => .inl e
      | .inr (u, a2) => .inr (t, ch a1, u, a2)
    else .inl (99, a1)
def ac (s t f o g p m c : Nat) : Nat → Nat := fun q => match q with
  | 0 => s
  | 1 => t
  | 2 => f
  | 3 => o
  | 4 => g
  | 5 => p
  | 6 => m
  | _ => c
def adA (a : Nat → Nat → Nat) (k : Nat) (x : Nat → Nat) : Nat → Nat → Nat := fun j => if j = k then x else a j
/-- a statement that changes a variable, behind its sign c1 -/
def rChg (ch : Nat → Nat) (s : PS) : PR :=
  if oB (ch (s.1 + 1)) = true then
    if ch (s.1 + 1) = 126 then
      if vB (ch (s.1 + 2)) = true then
        if ch (s.1 + 2) = ch s.1 then .inl (114, s.1 + 2)
        else .inr (s.1 + 3, s.2.1 + 1, adA s.2.2 s.2.1 (ac 126 (ch s.1 - 97) (vT (ch (s.1 + 2) - 97)) 32 0 0 0 0))
      else .inl (118, s.1 + 2)
    else match rTerm ch (s.1 + 2) with
      | .inl e => .inl e
      | .inr (t, a1) => if sB (ch a1) = true then match rTerm ch (a1 + 1) with
          | .inl e => .inl e
          | .inr (u, a2) => if t = vT (ch s.1 - 97) ∨ u = vT (ch s.1 - 97) then .inl (114, s.1)
            else .inr (a2, s.2.1 + 1, adA s.2.2 s.2.1 (ac (ch (s.1 + 1)) (ch s.1 - 97) t (ch a1) u 0 0 0))
        else if t = vT (ch s.1 - 97) then .inl (114, s.1)
        else .inr (a1, s.2.1 + 1, adA s.2.2 s.2.1 (ac (ch (s.1 + 1)) (ch s.1 - 97) t 32 0 0 0 0))
  else .inl (111, s.1 + 1)
/-- the three of a bracket know one another's places -/
def lkA (x : Nat → Nat → Nat) (k m e : Nat) : Nat → Nat → Nat := fun j q => if j = k ∨ j = m ∨ j = e then if q = 5 then k else if q = 6 then m else if q = 7 then e else x j q else x j q
def rBrk (row : Nat → Nat → PS → PR) (ch : Nat → Nat) (b m e op : Nat) (s : PS) : PR :=
  if 6 ≤ op then .inl (109, s.1) else match rTest ch (s.1 + 1) with
    | .inl x => .inl x
    | .inr (t, o, u, a1) => if ch a1 = 58 then match row 124 (op + 1) (a1 + 1, s.2.1 + 1, adA s.2.2 s.2.1 (ac b 0 t o u 0 0 0)) with
        | .inl x => .inl x
        | .inr (a2, k2, x2) => match row 58 (op + 1) (a2 + 1, k2 + 1, adA x2 k2 (ac m 0 0 32 0 0 0 0)) with
          | .inl x => .inl x
          | .inr (a3, k3, x3) => match rTest ch (a3 + 1) with
            | .inl x => .inl x
            | .inr (t2, o2, u2, a4) => if ch a4 = e then .inr (a4 + 1, k3 + 1, lkA (adA x3 k3 (ac e 0 t2 o2 u2 0 0 0)) s.2.1 k2 k3) else .inl (120, a4)
      else .inl (100, a1)
def rStm (row : Nat → Nat → PS → PR) (ch : Nat → Nat) (op : Nat) (s : PS) : PR :=
  if vB (ch s.1) = true then rChg ch s
  else if ch s.1 = 33 ∨ ch s.1 = 63 then
    if vB (ch (s.1 + 1)) = true then .inr (s.1 + 2, s.2.1 + 1, adA s.2.2 s.2.1 (ac (ch s.1) (ch (s.1 + 1) - 97) 0 32 0 0 0 0)) else .inl (118, s.1 + 1)
  else if ch s.1 = 64 ∨ ch s.1 = 36 then
    if 48 ≤ ch (s.1 + 1) ∧ ch (s.1 + 1) ≤ 53 then .inr (s.1 + 2, s.2.1 + 1, adA s.2.2 s.2.1 (ac (ch s.1) (ch (s.1 + 1) - 48) 0 32 0 0 0 0)) else .inl (110, s.1 + 1)
  else if ch s.1 = 91 then rBrk row ch 91 124 93 op s
  else if ch s.1 = 123 then rBrk row ch 123 47 125 op s
  else .inl (115, s.1)
def rLp (st : PS → PR) (ch : Nat → Nat) (en : Nat) : Nat → PS → PR
  | 0, s => .inl (101, s.1)
  | i + 1, s => match st s with
    | .inl e => .inl e
    | .inr s' => if ch s'.1 = en then .inr s' else if ch s'.1 = 59 then rLp st ch en i (s'.1 + 1, s'.2) else .inl (101, s'.1)
def rRw (ch : Nat → Nat) : Nat → Nat → Nat → PS → PR
  | 0, _, _, _ => .inl (0, 0)
  | d + 1, en, op, s => if ch s.1 = en then .inr s else rLp (rStm (rRw ch d) ch op) ch en 60 s
/-- the whole text -/
def rAll (n : Nat) (f : Nat → Nat) : PR := rRw (chA n f) 8 70000 0 (0, 0, fun _ _ => 0)
/-! how far a reading comes -/
section FAR
variable {n : Nat} {ch : Nat → Nat}
/-- no sign behind the end -/
def okC (n : Nat) (ch : Nat → Nat) : Prop := ∀ a, n ≤ a → ch a = 70000
theorem okC.lt {a c : Nat} (h : okC n ch) (e : ch a = c) (hc : c < 70000) : a < n := by
  by_cases q : a < n
  · exact q
  · have := h a (by omega)
    omega
theorem vB_lt {c : Nat} (h : vB c = true) : 97 ≤ c ∧ c ≤ 104 := of_decide_eq_true h
theorem dB_lt {c : Nat} (h : dB c = true) : 48 ≤ c ∧ c ≤ 57 := of_decide_eq_true h
theorem rNum_b (h : okC n ch) : ∀ (d a t : Nat), a ≤ n → a ≤ (rNum ch d a t).2 ∧ (rNum ch d a t).2 ≤ n ∧ (rNum ch d a t).2 ≤ a + d ∧ (rNum ch d a t).1 + 1 ≤ (t + 1) * 10 ^ d
  | 0, a, t, ha => ⟨Nat.le_refl a, ha, Nat.le_refl a, by show t + 1 ≤ (t + 1) * 1; omega⟩
  | d + 1, a, t, ha => by
    rw [rNum]
    split
    · rename_i q
      have q := dB_lt q
      have hl := h.lt (a := a) rfl (by omega)
      have := rNum_b h d (a + 1) (10 * t + (ch a - 48)) (by omega)
      refine ⟨by omega, by omega, by omega, Nat.le_trans this.2.2.2 ?_⟩
      rw [Nat.pow_succ, Nat.mul_comm (10 ^ d) 10, ← Nat.mul_assoc]
      exact Nat.mul_le_mul_right _ (by omega)
    · exact ⟨Nat.le_refl a, ha, by show a ≤ a + (d + 1); omega, by
        show t + 1 ≤ (t + 1) * 10 ^ (d + 1)
        exact Nat.le_mul_of_pos_right _ (Nat.pow_pos (by decide))⟩
/-- a term: a number below 1000 or a variable -/
def okTm (t : Nat) : Prop := t < 1000 ∨ ∃ v, v < 8 ∧ t = vT v
theorem rTerm_b (h : okC n ch) {a t a1 : Nat} (ha : a ≤ n) (e : rTerm ch a = .inr (t, a1)) : a < a1 ∧ a1 ≤ n ∧ okTm t := by
  unfold rTerm at e
  split at e
  · rename_i q
    have q := vB_lt q
    have hl := h.lt (a := a) rfl (by omega)
    have e := Prod.mk.inj (Sum.inr.inj e)
    exact ⟨by omega, by omega, Or.inr ⟨ch a - 97, by omega, e.1.symm⟩⟩
  · split at e
    · rename_i q
      have hb := rNum_b h 3 a 0 ha
      have h3 : rNum ch 3 a 0 = rNum ch 2 (a + 1) (10 * 0 + (ch a - 48)) := if_pos q
      have q := dB_lt q
      have hl := h.lt (a := a) rfl (by omega)
      have hb2 := rNum_b h 2 (a + 1) (10 * 0 + (ch a - 48)) (by omega)
      have e := Sum.inr.inj e
      rw [e] at h3 hb
      rw [← h3] at hb2
      exact ⟨by have := hb2.1; dsimp only at this; omega, hb.2.1, Or.inl (by have := hb.2.2.2; dsimp only at this; omega)⟩
    · cases e
theorem rTest_b (h : okC n ch) {a t o u a1 : Nat} (ha : a ≤ n) (e : rTest ch a = .inr (t, o, u, a1)) : a + 3 ≤ a1 ∧ a1 ≤ n ∧ okTm t ∧ okTm u ∧ tB o = true := by
  unfold rTest at e
  split at e
  · cases e
  · rename_i t' b1 e1
    have h1 := rTerm_b h ha e1
    split at e
    · rename_i q
      have hl : b1 < n := by
        have q2 := of_decide_eq_true q
        exact h.lt (a := b1) rfl (by omega)
      split at e
      · cases e
      · rename_i u' b2 e2
        have h2 := rTerm_b h (a := b1 + 1) (by omega) e2
        have e := Prod.mk.inj (Sum.inr.inj e)
        have e3 := Prod.mk.inj e.2
        have e4 := Prod.mk.inj e3.2
        refine ⟨by omega, by omega, e.1 ▸ h1.2.2, e4.1 ▸ h2.2.2, e3.1 ▸ q⟩
    · cases e
/-- what a reading leaves: it has gone on, to at most the end, two signs an act at least, and the acts before stay -/
def okR (n : Nat) (s : PS) (r : PR) : Prop := ∀ s', r = .inr s' → s.1 ≤ s'.1 ∧ s'.1 ≤ n ∧ s.2.1 ≤ s'.2.1 ∧ 2 * s'.2.1 + s.1 ≤ s'.1 + 2 * s.2.1 ∧ ∀ j, j < s.2.1 → s'.2.2 j = s.2.2 j
theorem adA_lt {a : Nat → Nat → Nat} {k : Nat} {x : Nat → Nat} : ∀ j, j < k → adA a k x j = a j := fun j hj => if_neg (by omega)
theorem rChg_b (h : okC n ch) {s : PS} (hs : s.1 < n) : okR n s (rChg ch s) := by
  intro s' e
  unfold rChg at e
  split at e
  · rename_i q0
    have hl1 : s.1 + 1 < n := by
      have q2 := of_decide_eq_true q0
      exact h.lt (a := s.1 + 1) rfl (by omega)
    split at e
    · split at e
      · rename_i q1
        have q1 := vB_lt q1
        have hl2 := h.lt (a := s.1 + 2) rfl (by omega)
        split at e
        · cases e
        · rw [← Sum.inr.inj e]
          exact ⟨by show s.1 ≤ s.1 + 3; omega, hl2, by show s.2.1 ≤ s.2.1 + 1; omega, by show 2 * (s.2.1 + 1) + s.1 ≤ s.1 + 3 + 2 * s.2.1; omega, adA_lt⟩
      · cases e
    · split at e
      · cases e
      · rename_i t a1 e1
        have h1 := rTerm_b h (a := s.1 + 2) (by omega) e1
        split at e
        · rename_i q3
          have hl2 : a1 < n := by
            have q4 := of_decide_eq_true q3
            exact h.lt (a := a1) rfl (by omega)
          split at e
          · cases e
          · rename_i u a2 e2
            have h2 := rTerm_b h (a := a1 + 1) (by omega) e2
            split at e
            · cases e
            · rw [← Sum.inr.inj e]
              exact ⟨by show s.1 ≤ a2; omega, h2.2.1, by show s.2.1 ≤ s.2.1 + 1; omega, by show 2 * (s.2.1 + 1) + s.1 ≤ a2 + 2 * s.2.1; omega, adA_lt⟩
        · split at e
          · cases e
          · rw [← Sum.inr.inj e]
            exact ⟨by show s.1 ≤ a1; omega, h1.2.1, by show s.2.1 ≤ s.2.1 + 1; omega, by show 2 * (s.2.1 + 1) + s.1 ≤ a1 + 2 * s.2.1; omega, adA_lt⟩
  · cases e
theorem lkA_lt {x : Nat → Nat → Nat} {k m e : Nat} (hm : k ≤ m) (he : k ≤ e) : ∀ j, j < k → lkA x k m e j = x j := fun j hj => funext fun q => if_neg (by omega)
theorem rBrk_b (h : okC n ch) {row : Nat → Nat → PS → PR} (hr : ∀ en op s, s.1 ≤ n → okR n s (row en op s) ∧ ∀ s', row en op s = .inr s' → ch s'.1 = en) {b m e op : Nat} {s : PS} (hs : s.1 < n) (he : e < 70000) : okR n s (rBrk row ch b m e op s) := by
  intro s' hq
  unfold rBrk at hq
  split at hq
  · cases hq
  · split at hq
    · cases hq
    · rename_i t o u a1 e1
      have h1 := rTest_b h (a := s.1 + 1) (by omega) e1
      split at hq
      · rename_i q1
        have hl1 := h.lt q1 (by omega)
        split at hq
        · cases hq
        · rename_i a2 k2 x2 e2
          have h2 := hr 124 (op + 1) (a1 + 1, s.2.1 + 1, adA s.2.2 s.2.1 (ac b 0 t o u 0 0 0)) hl1
          have h2a := h2.1 _ e2
          have hl2 := h.lt (h2.2 _ e2) (by omega)
          dsimp only at h2a hl2
          split at hq
          · cases hq
          · rename_i a3 k3 x3 e3
            have h3 := hr 58 (op + 1) (a2 + 1, k2 + 1, adA x2 k2 (ac m 0 0 32 0 0 0 0)) hl2
            have h3a := h3.1 _ e3
            have hl3 := h.lt (h3.2 _ e3) (by omega)
            dsimp only at h3a hl3
            split at hq
            · cases hq
            · rename_i t2 o2 u2 a4 e4
              have h4 := rTest_b h (a := a3 + 1) (by omega) e4
              split at hq
              · rename_i q5
                have hl4 := h.lt q5 he
                rw [← Sum.inr.inj hq]
                refine ⟨by show s.1 ≤ a4 + 1; omega, by show a4 + 1 ≤ n; omega, by show s.2.1 ≤ k3 + 1; omega, by show 2 * (k3 + 1) + s.1 ≤ a4 + 1 + 2 * s.2.1; omega, fun j hj => ?_⟩
                show lkA _ _ _ _ j = _
                rw [lkA_lt (by omega) (by omega) j hj, adA_lt j (by omega), h3a.2.2.2.2 j (by omega), adA_lt j (by omega), h2a.2.2.2.2 j (by omega), adA_lt j hj]
              · cases hq
      · cases hq
theorem rStm_b (h : okC n ch) {row : Nat → Nat → PS → PR} (hr : ∀ en op s, s.1 ≤ n → okR n s (row en op s) ∧ ∀ s', row en op s = .inr s' → ch s'.1 = en) {op : Nat} {s : PS} (hs : s.1 ≤ n) : okR n s (rStm row ch op s) := by
  unfold rStm
  by_cases c1 : vB (ch s.1) = true
  · rw [if_pos c1]
    have c1 := vB_lt c1
    exact rChg_b h (h.lt (a := s.1) rfl (by omega))
  rw [if_neg c1]
  by_cases c2 : ch s.1 = 33 ∨ ch s.1 = 63
  · rw [if_pos c2]
    intro s' e
    split at e
    · rename_i q
      have q := vB_lt q
      have hl := h.lt (a := s.1 + 1) rfl (by omega)
      rw [← Sum.inr.inj e]
      exact ⟨by show s.1 ≤ s.1 + 2; omega, hl, by show s.2.1 ≤ s.2.1 + 1; omega, by show 2 * (s.2.1 + 1) + s.1 ≤ s.1 + 2 + 2 * s.2.1; omega, adA_lt⟩
    · cases e
  rw [if_neg c2]
  by_cases c3 : ch s.1 = 64 ∨ ch s.1 = 36
  · rw [if_pos c3]
    intro s' e
    split at e
    · rename_i q
      have hl := h.lt (a := s.1 + 1) rfl (by omega)
      rw [← Sum.inr.inj e]
      exact ⟨by show s.1 ≤ s.1 + 2; omega, hl, by show s.2.1 ≤ s.2.1 + 1; omega, by show 2 * (s.2.1 + 1) + s.1 ≤ s.1 + 2 + 2 * s.2.1; omega, adA_lt⟩
    · cases e
  rw [if_neg c3]
  by_cases c4 : ch s.1 = 91
  · rw [if_pos c4]
    exact rBrk_b h hr (h.lt c4 (by decide)) (by decide)
  rw [if_neg c4]
  by_cases c5 : ch s.1 = 123
  · rw [if_pos c5]
    exact rBrk_b h hr (h.lt c5 (by decide)) (by decide)
  rw [if_neg c5]
  intro s' e
  cases e
theorem okR.tr {s r : PS} {x : PR} (h1 : ∀ j, j < s.2.1 → r.2.2 j = s.2.2 j) (h2 : s.1 ≤ r.1 ∧ s.2.1 ≤ r.2.1 ∧ 2 * r.2.1 + s.1 ≤ r.1 + 2 * s.2.1) (h3 : okR n r x) : okR n s x := fun s' e => by
  have := h3 s' e
  exact ⟨by omega, this.2.1, by omega, by omega, fun j hj => (this.2.2.2.2 j (by omega)).trans (h1 j hj)⟩
theorem rLp_b (h : okC n ch) {st : PS → PR} {en : Nat} (hst : ∀ s, s.1 ≤ n → okR n s (st s)) : ∀ (i : Nat) (s : PS), s.1 ≤ n → okR n s (rLp st ch en i s) ∧ ∀ s', rLp st ch en i s = .inr s' → ch s'.1 = en
  | 0, s, _ => ⟨fun s' e => (by cases e), fun s' e => (by cases e)⟩
  | i + 1, s, hs => by
    rw [rLp]
    cases hx : st s with
    | inl e => exact ⟨fun s' q => (by cases q), fun s' q => (by cases q)⟩
    | inr s1 =>
      have h1 := hst s hs s1 hx
      dsimp only
      by_cases c1 : ch s1.1 = en
      · rw [if_pos c1]
        refine ⟨fun s' q => ?_, fun s' q => ?_⟩
        · rw [← Sum.inr.inj q]
          exact h1
        · rw [← Sum.inr.inj q]
          exact c1
      · rw [if_neg c1]
        by_cases c2 : ch s1.1 = 59
        · rw [if_pos c2]
          have hl := h.lt c2 (by decide)
          have ih := rLp_b h (en := en) hst i (s1.1 + 1, s1.2) hl
          exact ⟨okR.tr (s := s) (r := (s1.1 + 1, s1.2)) h1.2.2.2.2 ⟨by show s.1 ≤ s1.1 + 1; omega, h1.2.2.1, by show 2 * s1.2.1 + s.1 ≤ s1.1 + 1 + 2 * s.2.1; omega⟩ ih.1, ih.2⟩
        · rw [if_neg c2]
          exact ⟨fun s' q => (by cases q), fun s' q => (by cases q)⟩
theorem rRw_b (h : okC n ch) : ∀ (d en op : Nat) (s : PS), s.1 ≤ n → okR n s (rRw ch d en op s) ∧ ∀ s', rRw ch d en op s = .inr s' → ch s'.1 = en
  | 0, _, _, s, _ => ⟨fun s' e => (by cases e), fun s' e => (by cases e)⟩
  | d + 1, en, op, s, hs => by
    rw [rRw]
    by_cases c : ch s.1 = en
    · rw [if_pos c]
      refine ⟨fun s' q => ?_, fun s' q => ?_⟩
      · rw [← Sum.inr.inj q]
        exact ⟨Nat.le_refl _, hs, Nat.le_refl _, by omega, fun j _ => rfl⟩
      · rw [← Sum.inr.inj q]
        exact c
    · rw [if_neg c]
      exact rLp_b h (fun s hs => rStm_b h (fun en op s hs => rRw_b h d en op s hs) hs) 60 s hs
end FAR
abbrev rdC (b at_ : Nat) (fp fs tm : Int32) : mj_C := .inr (5, [.ref (b + 1), .ref (b + 3), .int (nI at_), .int fp, .int fs, .int tm])
abbrev cdC (b k : Nat) : mj_C := .inr (3, [.ref (b + 4), .ref (b + 5), .int (nI k)])
abbrev inC (x : Nat → Int32) : mj_C := .inr (4, [.int (x 0), .int (x 1), .int (x 2), .int (x 3), .int (x 4), .int (x 5), .int (x 6), .int (x 7)])
/-- the class's text of n signs f in procedure b -/
def cTx (h : mj_H) (b n : Nat) (f : Nat → Nat) : Prop := ∃ tf : Nat → Int32, mj_rd h (b + 1) = some (.inr (2, [.ref (b + 2), .int (nI n)])) ∧ mj_rd h (b + 2) = some (.inl (3, (60, .inl tf))) ∧ ∀ j, j < n → tf j = nI (f j)
/-- its row of acts -/
def cRow (h : mj_H) (b : Nat) : Prop := ∃ rw : Nat → Option Nat, mj_rd h (b + 4) = some (.inl (7, (30, objs rw))) ∧ ∀ j, j < 30 → rw j = some (b + 6 + j)
def cR (h : mj_H) (b n : Nat) (f : Nat → Nat) (at_ : Nat) (fp fs tm : Int32) (k : Nat) (ins : Nat → Nat → Int32) : Prop := mj_rd h (b + 36) = some (rdC b at_ fp fs tm) ∧ cTx h b n f ∧ mj_rd h (b + 3) = some (cdC b k) ∧ cRow h b ∧ ∀ j, j < 30 → mj_rd h (b + 6 + j) = some (inC (ins j))
def cL (b : Nat) : List Nat := (List.range 34).map fun i => b + 3 + i
theorem mem_cL {b x : Nat} : x ∈ cL b ↔ b + 3 ≤ x ∧ x < b + 37 := by
  unfold cL
  rw [List.mem_map]
  constructor
  · rintro ⟨i, hi, rfl⟩
    have := List.mem_range.mp hi
    omega
  · exact fun h => ⟨x - b - 3, List.mem_range.mpr (by omega), by omega⟩
theorem cTx.st {h : mj_H} {b n a : Nat} {f : Nat → Nat} {c : mj_C} (ha : b + 3 ≤ a) : cTx h b n f → cTx (h.set a c) b n f
  | ⟨tf, h1, h2, h3⟩ => ⟨tf, (rd_setn (by omega)).trans h1, (rd_setn (by omega)).trans h2, h3⟩
theorem cRow.st {h : mj_H} {b a : Nat} {c : mj_C} (ha : a ≠ b + 4) : cRow h b → cRow (h.set a c) b
  | ⟨rw, h1, h2⟩ => ⟨rw, (rd_setn ha).trans h1, h2⟩
def updF (x : Nat → Int32) (q : Nat) (v : Int32) : Nat → Int32 := fun i => if i = q then v else x i
def updI (ins : Nat → Nat → Int32) (j : Nat) (x : Nat → Int32) : Nat → Nat → Int32 := fun i => if i = j then x else ins i
section CRS
variable {h : mj_H} {b n at_ k : Nat} {f : Nat → Nat} {fp fs tm : Int32} {ins : Nat → Nat → Int32}
theorem cR.rd (c : cR h b n f at_ fp fs tm k ins) (bb : b + 37 ≤ 414) (at' : Nat) (fp' fs' tm' : Int32) : cR (h.set (b + 36) (rdC b at' fp' fs' tm')) b n f at' fp' fs' tm' k ins :=
  ⟨rd_set (by have : mj_CB = 1000000 := rfl; omega) c.1, c.2.1.st (by omega), (rd_setn (by omega)).trans c.2.2.1, c.2.2.2.1.st (by omega), fun j hj => (rd_setn (by omega)).trans (c.2.2.2.2 j hj)⟩
theorem cR.rdm (c : cR h b n f at_ fp fs tm k ins) (bb : b + 37 ≤ 414) (at' : Nat) (fp' fs' tm' : Int32) : mz_mo (cL b) 0 0 h (h.set (b + 36) (rdC b at' fp' fs' tm')) :=
  mz_mo.s (mz_mo.rf _ _ _ _) (by have : mj_CB = 1000000 := rfl; omega) c.1 rfl (Or.inl (mem_cL.mpr (by omega)))
theorem cR.cd (c : cR h b n f at_ fp fs tm k ins) (bb : b + 37 ≤ 414) (k' : Nat) : cR (h.set (b + 3) (cdC b k')) b n f at_ fp fs tm k' ins :=
  ⟨(rd_setn (by omega)).trans c.1, c.2.1.st (by omega), rd_set (by have : mj_CB = 1000000 := rfl; omega) c.2.2.1, c.2.2.2.1.st (by omega), fun j hj => (rd_setn (by omega)).trans (c.2.2.2.2 j hj)⟩
theorem cR.cdm (c : cR h b n f at_ fp fs tm k ins) (bb : b + 37 ≤ 414) (k' : Nat) : mz_mo (cL b) 0 0 h (h.set (b + 3) (cdC b k')) :=
  mz_mo.s (mz_mo.rf _ _ _ _) (by have : mj_CB = 1000000 := rfl; omega) c.2.2.1 rfl (Or.inl (mem_cL.mpr (by omega)))
theorem cR.in {j : Nat} (c : cR h b n f at_ fp fs tm k ins) (bb : b + 37 ≤ 414) (hj : j < 30) (x : Nat → Int32) : cR (h.set (b + 6 + j) (inC x)) b n f at_ fp fs tm k (updI ins j x) :=
  ⟨(rd_setn (by omega)).trans c.1, c.2.1.st (by omega), (rd_setn (by omega)).trans c.2.2.1, c.2.2.2.1.st (by omega), fun i hi => by
    unfold updI
    by_cases q : i = j
    · rw [if_pos q, q]
      exact rd_set (by have : mj_CB = 1000000 := rfl; omega) (c.2.2.2.2 j hj)
    · rw [if_neg q]
      exact (rd_setn (by omega)).trans (c.2.2.2.2 i hi)⟩
theorem cR.inm {j : Nat} (c : cR h b n f at_ fp fs tm k ins) (bb : b + 37 ≤ 414) (hj : j < 30) (x : Nat → Int32) : mz_mo (cL b) 0 0 h (h.set (b + 6 + j) (inC x)) :=
  mz_mo.s (mz_mo.rf _ _ _ _) (by have : mj_CB = 1000000 := rfl; omega) (c.2.2.2.2 j hj) rfl (Or.inl (mem_cL.mpr (by omega)))
end CRS
theorem mo00 {L : List Nat} {h g l : mj_H} (e : mz_mo L 0 0 h g) (f : mz_mo L 0 0 g l) : mz_mo L 0 0 h l := e.tr f (fun y hy => Or.inl hy) (by omega) (by omega)
/-- a sign as an int: -1 behind the end -/
def sgn (c : Nat) : Nat := if c = 70000 then 4294967295 else c
theorem sgn_ti {c : Nat} (h : c ≤ 70000) : (nI (sgn c)).toInt = if c = 70000 then -1 else (c : Int) := by
  unfold sgn
  by_cases q : c = 70000
  · rw [if_pos q, if_pos q]
    decide +kernel
  · rw [if_neg q, if_neg q, mI_ti (by omega)]
theorem sg_eq {c x : Nat} (h : c ≤ 70000) (hx : x < 70000) : (nI (sgn c) = nI x) ↔ c = x := by
  constructor
  · intro e
    have e2 := congrArg Int32.toInt e
    rw [sgn_ti h, mI_ti (by omega)] at e2
    split at e2 <;> omega
  · rintro rfl
    unfold sgn
    rw [if_neg (by omega)]
theorem si_eq {c x : Nat} (h : c ≤ 70000) (hx : x < 70000) : mj_ci .eq (nI (sgn c)) (nI x) = decide (c = x) := decide_eq_decide.mpr (sg_eq h hx)
theorem si_ne {c x : Nat} (h : c ≤ 70000) (hx : x < 70000) : mj_ci .ne (nI (sgn c)) (nI x) = decide (¬ c = x) := decide_eq_decide.mpr (not_congr (sg_eq h hx))
theorem si_lt {c x : Nat} (h : c ≤ 70000) (hx : x < 70000) : mj_ci .lt (nI (sgn c)) (nI x) = decide (c < x ∨ c = 70000) := by
  refine decide_eq_decide.mpr ?_
  rw [Int32.lt_iff_toInt_lt, sgn_ti h, mI_ti (by omega)]
  split <;> omega
theorem si_gt {c x : Nat} (h : c ≤ 70000) (hx : x < 70000) : mj_ci .gt (nI (sgn c)) (nI x) = decide (x < c ∧ c < 70000) := by
  refine decide_eq_decide.mpr ?_
  show nI x < nI (sgn c) ↔ _
  rw [Int32.lt_iff_toInt_lt, sgn_ti h, mI_ti (by omega)]
  split <;> omega
theorem si_le {c x : Nat} (h : c ≤ 70000) (hx : x < 70000) : mj_ci .le (nI (sgn c)) (nI x) = decide (c ≤ x ∨ c = 70000) := by
  refine decide_eq_decide.mpr ?_
  rw [Int32.le_iff_toInt_le, sgn_ti h, mI_ti (by omega)]
  split <;> omega
theorem sgn_lt {c : Nat} (h : c < 70000) : sgn c = c := if_neg (by omega)
theorem chA_le {n : Nat} {f : Nat → Nat} (hf : ∀ j, j < n → f j < 65536) (a : Nat) : chA n f a ≤ 70000 := by
  unfold chA
  split
  · have := hf a (by assumption)
    omega
  · exact Nat.le_refl _
theorem chA_lt {n : Nat} {f : Nat → Nat} (hf : ∀ j, j < n → f j < 65536) {a : Nat} (h : chA n f a < 70000) : a < n ∧ chA n f a < 65536 := by
  unfold chA at h ⊢
  split
  · exact ⟨by assumption, hf a (by assumption)⟩
  · rename_i q
    rw [if_neg q] at h
    omega
theorem chA_ok (n : Nat) (f : Nat → Nat) : okC n (chA n f) := fun a h => if_neg (by omega)
theorem chr_fit {n : Nat} (hn : n < 65536) : mj_fit .char (.int (nI n)) = true := by
  show (decide (vp_nar .char (nI n) = nI n) && fits .char (.int (nI n))) = true
  rw [ch_nar hn, decide_eq_true rfl, Bool.true_and]
  show (decide ((0 : Int32) ≤ nI n) && decide (nI n ≤ (65535 : Int32))) = true
  rw [Bool.and_eq_true]
  constructor
  · apply decide_eq_true
    rw [mI_0]
    exact (mI_le (by decide) (by omega)).mpr (Nat.zero_le n)
  · apply decide_eq_true
    exact (mI_le (a := n) (b := 65535) (by omega) (by decide)).mpr (by omega)
theorem bN_1 (x : Bool) : bN x ≤ 1 := by
  unfold bN
  split <;> omega
theorem x_isv {h : mj_H} {c : Nat} (hc : c ≤ 70000) : mj_run 0 86 (0, [some (.int (nI (sgn c)))], [], h) (.inl (some (.int (nI (bN (vB c))))), h) := by
  refine s_ildn (p' := 1) rfl rfl rfl ?_
  refine s_bip (p' := 3) rfl rfl ?_
  by_cases q : c < 97 ∨ c = 70000
  · refine s_icmp (p' := 16) true rfl ((si_lt hc (by decide)).trans (decide_eq_true (by omega))) rfl ?_
    refine s_con (p' := 17) rfl rfl ?_
    exact s_iret rfl rfl (by rw [show vB c = false from decide_eq_false (by omega)]; rfl)
  · refine s_icmp (p' := 6) false rfl ((si_lt hc (by decide)).trans (decide_eq_false (by omega))) rfl ?_
    refine s_ildn (p' := 7) rfl rfl rfl ?_
    refine s_bip (p' := 9) rfl rfl ?_
    by_cases r : 104 < c ∧ c < 70000
    · refine s_icmp (p' := 16) true rfl ((si_gt hc (by decide)).trans (decide_eq_true (by omega))) rfl ?_
      refine s_con (p' := 17) rfl rfl ?_
      exact s_iret rfl rfl (by rw [show vB c = false from decide_eq_false (by omega)]; rfl)
    · refine s_icmp (p' := 12) false rfl ((si_gt hc (by decide)).trans (decide_eq_false (by omega))) rfl ?_
      refine s_con (p' := 13) rfl rfl ?_
      refine s_goto (p' := 17) rfl rfl ?_
      exact s_iret rfl rfl (by rw [show vB c = true from decide_eq_true (by omega)]; rfl)
theorem x_isd {h : mj_H} {c : Nat} (hc : c ≤ 70000) : mj_run 0 93 (0, [some (.int (nI (sgn c)))], [], h) (.inl (some (.int (nI (bN (dB c))))), h) := by
  refine s_ildn (p' := 1) rfl rfl rfl ?_
  refine s_bip (p' := 3) rfl rfl ?_
  by_cases q : c < 48 ∨ c = 70000
  · refine s_icmp (p' := 16) true rfl ((si_lt hc (by decide)).trans (decide_eq_true (by omega))) rfl ?_
    refine s_con (p' := 17) rfl rfl ?_
    exact s_iret rfl rfl (by rw [show dB c = false from decide_eq_false (by omega)]; rfl)
  · refine s_icmp (p' := 6) false rfl ((si_lt hc (by decide)).trans (decide_eq_false (by omega))) rfl ?_
    refine s_ildn (p' := 7) rfl rfl rfl ?_
    refine s_bip (p' := 9) rfl rfl ?_
    by_cases r : 57 < c ∧ c < 70000
    · refine s_icmp (p' := 16) true rfl ((si_gt hc (by decide)).trans (decide_eq_true (by omega))) rfl ?_
      refine s_con (p' := 17) rfl rfl ?_
      exact s_iret rfl rfl (by rw [show dB c = false from decide_eq_false (by omega)]; rfl)
    · refine s_icmp (p' := 12) false rfl ((si_gt hc (by decide)).trans (decide_eq_false (by omega))) rfl ?_
      refine s_con (p' := 13) rfl rfl ?_
      refine s_goto (p' := 17) rfl rfl ?_
      exact s_iret rfl rfl (by rw [show dB c = true from decide_eq_true (by omega)]; rfl)
theorem x_iss {h : mj_H} {c : Nat} (hc : c ≤ 70000) : mj_run 0 94 (0, [some (.int (nI (sgn c)))], [], h) (.inl (some (.int (nI (bN (sB c))))), h) := by
  refine s_ildn (p' := 1) rfl rfl rfl ?_
  refine s_bip (p' := 3) rfl rfl ?_
  by_cases q43 : c = 43
  · refine s_icmp (p' := 24) true rfl ((si_eq hc (by decide)).trans (decide_eq_true (by omega))) rfl ?_
    refine s_con (p' := 25) rfl rfl ?_
    refine s_goto (p' := 29) rfl rfl ?_
    exact s_iret rfl rfl (by rw [show sB c = true from decide_eq_true (by omega)]; rfl)
  · refine s_icmp (p' := 6) false rfl ((si_eq hc (by decide)).trans (decide_eq_false (by omega))) rfl ?_
    refine s_ildn (p' := 7) rfl rfl rfl ?_
    refine s_bip (p' := 9) rfl rfl ?_
    by_cases q45 : c = 45
    · refine s_icmp (p' := 24) true rfl ((si_eq hc (by decide)).trans (decide_eq_true (by omega))) rfl ?_
      refine s_con (p' := 25) rfl rfl ?_
      refine s_goto (p' := 29) rfl rfl ?_
      exact s_iret rfl rfl (by rw [show sB c = true from decide_eq_true (by omega)]; rfl)
    · refine s_icmp (p' := 12) false rfl ((si_eq hc (by decide)).trans (decide_eq_false (by omega))) rfl ?_
      refine s_ildn (p' := 13) rfl rfl rfl ?_
      refine s_bip (p' := 15) rfl rfl ?_
      by_cases q42 : c = 42
      · refine s_icmp (p' := 24) true rfl ((si_eq hc (by decide)).trans (decide_eq_true (by omega))) rfl ?_
        refine s_con (p' := 25) rfl rfl ?_
        refine s_goto (p' := 29) rfl rfl ?_
        exact s_iret rfl rfl (by rw [show sB c = true from decide_eq_true (by omega)]; rfl)
      · refine s_icmp (p' := 18) false rfl ((si_eq hc (by decide)).trans (decide_eq_false (by omega))) rfl ?_
        refine s_ildn (p' := 19) rfl rfl rfl ?_
        refine s_bip (p' := 21) rfl rfl ?_
        by_cases q38 : c = 38
        · refine s_icmp (p' := 24) false rfl ((si_ne hc (by decide)).trans (decide_eq_false (by omega))) rfl ?_
          refine s_con (p' := 25) rfl rfl ?_
          refine s_goto (p' := 29) rfl rfl ?_
          exact s_iret rfl rfl (by rw [show sB c = true from decide_eq_true (by omega)]; rfl)
        · refine s_icmp (p' := 28) true rfl ((si_ne hc (by decide)).trans (decide_eq_true (by omega))) rfl ?_
          refine s_con (p' := 29) rfl rfl ?_
          exact s_iret rfl rfl (by rw [show sB c = false from decide_eq_false (by omega)]; rfl)
theorem x_ist {h : mj_H} {c : Nat} (hc : c ≤ 70000) : mj_run 0 100 (0, [some (.int (nI (sgn c)))], [], h) (.inl (some (.int (nI (bN (tB c))))), h) := by
  refine s_ildn (p' := 1) rfl rfl rfl ?_
  refine s_bip (p' := 3) rfl rfl ?_
  by_cases q60 : c = 60
  · refine s_icmp (p' := 18) true rfl ((si_eq hc (by decide)).trans (decide_eq_true (by omega))) rfl ?_
    refine s_con (p' := 19) rfl rfl ?_
    refine s_goto (p' := 23) rfl rfl ?_
    exact s_iret rfl rfl (by rw [show tB c = true from decide_eq_true (by omega)]; rfl)
  · refine s_icmp (p' := 6) false rfl ((si_eq hc (by decide)).trans (decide_eq_false (by omega))) rfl ?_
    refine s_ildn (p' := 7) rfl rfl rfl ?_
    refine s_bip (p' := 9) rfl rfl ?_
    by_cases q61 : c = 61
    · refine s_icmp (p' := 18) true rfl ((si_eq hc (by decide)).trans (decide_eq_true (by omega))) rfl ?_
      refine s_con (p' := 19) rfl rfl ?_
      refine s_goto (p' := 23) rfl rfl ?_
      exact s_iret rfl rfl (by rw [show tB c = true from decide_eq_true (by omega)]; rfl)
    · refine s_icmp (p' := 12) false rfl ((si_eq hc (by decide)).trans (decide_eq_false (by omega))) rfl ?_
      refine s_ildn (p' := 13) rfl rfl rfl ?_
      refine s_bip (p' := 15) rfl rfl ?_
      by_cases q62 : c = 62
      · refine s_icmp (p' := 18) false rfl ((si_ne hc (by decide)).trans (decide_eq_false (by omega))) rfl ?_
        refine s_con (p' := 19) rfl rfl ?_
        refine s_goto (p' := 23) rfl rfl ?_
        exact s_iret rfl rfl (by rw [show tB c = true from decide_eq_true (by omega)]; rfl)
      · refine s_icmp (p' := 22) true rfl ((si_ne hc (by decide)).trans (decide_eq_true (by omega))) rfl ?_
        refine s_con (p' := 23) rfl rfl ?_
        exact s_iret rfl rfl (by rw [show tB c = false from decide_eq_false (by omega)]; rfl)
theorem x_tof {h : mj_H} {v : Nat} (hv : v < 1000) : mj_run 0 78 (0, [some (.int (nI v))], [], h) (.inl (some (.int (nI (vT v)))), h) := by
  refine s_con (p' := 1) rfl rfl ?_
  refine s_ildn (p' := 2) rfl rfl rfl ?_
  refine s_sp (p' := 3) (ls' := _) rfl rfl rfl ?_
  rw [mI_sub (by omega), show 4294967295 - v = vT v from rfl]
  exact s_iret rfl rfl rfl
theorem x_sg {h : mj_H} {b n at_ k : Nat} {f : Nat → Nat} {fp fs tm : Int32} {ins : Nat → Nat → Int32} (bb : b + 37 ≤ 414) (hn : n ≤ 60) (hf : ∀ j, j < n → f j < 65536) (c0 : cR h b n f at_ fp fs tm k ins) (ha : at_ ≤ 100) : mj_run 0 84 (0, [some (.ref (b + 36))], [], h) (.inl (some (.int (nI (sgn (chA n f at_))))), h) := by
  obtain ⟨h36, ⟨tf, h1, h2, h3⟩, hcd, hrw, hin⟩ := c0
  refine s_aldn (p' := 1) rfl rfl rfl ?_
  refine s_gf (p' := 4) rfl h36 rfl rfl ?_
  refine s_if (p' := 7) false rfl (cz_lt (by omega)) rfl ?_
  refine s_aldn (p' := 8) rfl rfl rfl ?_
  refine s_gf (p' := 11) rfl h36 rfl rfl ?_
  refine s_aldn (p' := 12) rfl rfl rfl ?_
  refine s_gf (p' := 15) rfl h36 rfl rfl ?_
  refine s_gf (p' := 18) rfl h1 rfl rfl ?_
  by_cases q : at_ < n
  · refine s_icmp (p' := 21) false rfl ((ci_ge (by omega) (by omega)).trans (decide_eq_false (by omega))) rfl ?_
    refine s_aldn (p' := 22) rfl rfl rfl ?_
    refine s_gf (p' := 25) rfl h36 rfl rfl ?_
    refine s_aldn (p' := 26) rfl rfl rfl ?_
    refine s_gf (p' := 29) rfl h36 rfl rfl ?_
    refine s_gf (p' := 32) rfl h1 rfl rfl ?_
    refine s_len (p' := 33) rfl (mj_rdA_is h2 (by decide)) (by decide) rfl ?_
    refine s_icmp (p' := 36) false rfl ((ci_ge (by omega) (by omega)).trans (decide_eq_false (by omega))) rfl ?_
    refine s_aldn (p' := 37) rfl rfl rfl ?_
    refine s_gf (p' := 40) rfl h36 rfl rfl ?_
    refine s_gf (p' := 43) rfl h1 rfl rfl ?_
    refine s_aldn (p' := 44) rfl rfl rfl ?_
    refine s_gf (p' := 47) rfl h36 rfl rfl ?_
    refine s_cal (p' := 48) rfl h2 (inb_nI (by omega) (by omega)) rfl ?_
    rw [mI_cl (by omega), h3 at_ q, show f at_ = sgn (chA n f at_) from by unfold chA; rw [if_pos q, sgn_lt (by have := hf at_ q; omega)]]
    refine s_goto (p' := 52) rfl rfl ?_
    exact s_iret rfl rfl rfl
  · refine s_icmp (p' := 51) true rfl ((ci_ge (by omega) (by omega)).trans (decide_eq_true (by omega))) rfl ?_
    refine s_con (p' := 52) rfl rfl ?_
    exact s_iret rfl rfl (by unfold chA; rw [if_neg q]; rfl)
/-- a fault found -/
def cF (h' : mj_H) (b n : Nat) (f : Nat → Nat) (e : Nat × Nat) : Prop := ∃ (at_ k : Nat) (tm : Int32) (ins : Nat → Nat → Int32), cR h' b n f at_ (nI e.2) (nI e.1) tm k ins ∧ k ≤ 30
theorem x_fl {h : mj_H} {b n at_ k : Nat} {f : Nat → Nat} {fp fs tm : Int32} {ins : Nat → Nat → Int32} (bb : b + 37 ≤ 414) (hn : n ≤ 60) (hf : ∀ j, j < n → f j < 65536) (c0 : cR h b n f at_ fp fs tm k ins) {l p : Nat} (hl : l < 65536) (hk : k ≤ 30) : mj_Wp 1 88 (0, [some (.ref (b + 36)), some (.int (nI l)), some (.int (nI p))], [], h) (mz_V fun r h' => r = .int (nI 0) ∧ cF h' b n f (l, p) ∧ mz_mo (cL b) 0 0 h h') := by
  have hB : b + 36 < mj_CB := by have : mj_CB = 1000000 := rfl; omega
  refine s_aldn (p' := 1) rfl rfl rfl ?_
  refine s_ildn (p' := 2) rfl rfl rfl ?_
  refine s_pf (p' := 5) (fs' := [_, _, _, _, _, _]) rfl hB c0.1 (Nat.blt_eq.mp rfl) (chr_fit hl) rfl rfl ?_
  refine s_aldn (p' := 6) rfl rfl rfl ?_
  refine s_ildn (p' := 7) rfl rfl rfl ?_
  refine s_pf (p' := 10) (fs' := [_, _, _, _, _, _]) rfl hB (rd_set hB c0.1) (Nat.blt_eq.mp rfl) rfl rfl rfl ?_
  rw [List.set_set]
  refine s_con (p' := 11) rfl rfl ?_
  refine s_iret rfl rfl ?_
  exact ⟨_, _, rfl, rfl, ⟨at_, k, tm, ins, c0.rd bb _ _ _ _, hk⟩, c0.rdm bb _ _ _ _⟩
