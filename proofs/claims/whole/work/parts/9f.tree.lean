/-! Rows of acts as trees, without a heap; their texts. -/
def seqP (P : Nat → Nat → Prop) (k k' : Nat) : Prop := ∃ (c : Nat) (ks : Nat → Nat), ks 0 = k ∧ ks c = k' ∧ ∀ j, j < c → P (ks j) (ks (j + 1))
def lnk (a : Nat → Nat) (k m e : Nat) : Prop := a 5 = k ∧ a 6 = m ∧ a 7 = e
def tst (a : Nat → Nat) : Prop := okTm (a 2) ∧ tB (a 3) = true ∧ okTm (a 4)
/-- a statement that is one act -/
def sOk (a : Nat → Nat) : Prop :=
  ((a 0 = 33 ∨ a 0 = 63) ∧ a 1 < 8 ∧ a 2 = 0 ∧ a 3 = 32 ∧ a 4 = 0 ∨
   (a 0 = 64 ∨ a 0 = 36) ∧ a 1 < 6 ∧ a 2 = 0 ∧ a 3 = 32 ∧ a 4 = 0 ∨
   a 0 = 126 ∧ a 1 < 8 ∧ (∃ v, v < 8 ∧ v ≠ a 1 ∧ a 2 = vT v) ∧ a 3 = 32 ∧ a 4 = 0 ∨
   (a 0 = 43 ∨ a 0 = 45 ∨ a 0 = 94) ∧ a 1 < 8 ∧ okTm (a 2) ∧ a 2 ≠ vT (a 1) ∧ (a 3 = 32 ∧ a 4 = 0 ∨ sB (a 3) = true ∧ okTm (a 4) ∧ a 4 ≠ vT (a 1))) ∧ lnk a 0 0 0
/-- the three of a bracket -/
def bOk (x : Nat → Nat → Nat) (k m e : Nat) : Prop :=
  (x k 0 = 91 ∧ x m 0 = 124 ∧ x e 0 = 93 ∨ x k 0 = 123 ∧ x m 0 = 47 ∧ x e 0 = 125) ∧ tst (x k) ∧ tst (x e) ∧ x k 1 = 0 ∧ x e 1 = 0 ∧
  (x m 1 = 0 ∧ x m 2 = 0 ∧ x m 3 = 32 ∧ x m 4 = 0) ∧ lnk (x k) k m e ∧ lnk (x m) k m e ∧ lnk (x e) k m e
def tPt (x : Nat → Nat → Nat) : Nat → Nat → Nat → Prop
  | 0, a, b => sOk (x a) ∧ b = a + 1
  | d + 1, a, b => (sOk (x a) ∧ b = a + 1) ∨ ∃ m e, b = e + 1 ∧ bOk x a m e ∧ seqP (tPt x d) (a + 1) m ∧ seqP (tPt x d) (m + 1) e
abbrev tRow (x : Nat → Nat → Nat) (d k k' : Nat) : Prop := seqP (tPt x d) k k'
theorem seqP.imp {P Q : Nat → Nat → Prop} {k k' : Nat} (h : ∀ a b, P a b → Q a b) : seqP P k k' → seqP Q k k'
  | ⟨c, ks, h0, hc, hj⟩ => ⟨c, ks, h0, hc, fun j hh => h _ _ (hj j hh)⟩
theorem seqP.nil {P : Nat → Nat → Prop} (k : Nat) : seqP P k k := ⟨0, fun _ => k, rfl, rfl, fun j h => absurd h (Nat.not_lt_zero j)⟩
theorem ks_mono {P : Nat → Nat → Prop} (hp : ∀ a b, P a b → a < b) {c : Nat} {ks : Nat → Nat} (hj : ∀ j, j < c → P (ks j) (ks (j + 1))) : ∀ (i : Nat) (j : Nat), j + i ≤ c → ks j + i ≤ ks (j + i)
  | 0, _, _ => Nat.le_refl _
  | i + 1, j, h => by
    have h1 := ks_mono hp hj i j (by omega)
    have h2 := hp _ _ (hj (j + i) (by omega))
    rw [show j + (i + 1) = j + i + 1 from rfl]
    omega
theorem seqP.le {P : Nat → Nat → Prop} (hp : ∀ a b, P a b → a < b) {k k' : Nat} : seqP P k k' → k ≤ k'
  | ⟨c, ks, h0, hc, hj⟩ => by
    have := ks_mono hp hj c 0 (by omega)
    rw [Nat.zero_add] at this
    omega
theorem seqP.snoc {P : Nat → Nat → Prop} {k k1 k' : Nat} : seqP P k k1 → P k1 k' → seqP P k k'
  | ⟨c, ks, h0, hc, hj⟩, hp => ⟨c + 1, fun j => if j = c + 1 then k' else ks j, by show (if 0 = c + 1 then k' else ks 0) = k; rw [if_neg (by omega)]; exact h0, if_pos rfl, fun j hh => by
      show P (if j = c + 1 then k' else ks j) (if j + 1 = c + 1 then k' else ks (j + 1))
      rw [if_neg (by omega)]
      by_cases q : j = c
      · rw [if_pos (by omega), q, hc]
        exact hp
      · rw [if_neg (by omega)]
        exact hj j (by omega)⟩
theorem tPt.lt {x : Nat → Nat → Nat} : ∀ (d a b : Nat), tPt x d a b → a < b
  | 0, a, b, h => by
    have := h.2
    omega
  | d + 1, a, b, h => by
    rcases h with h | ⟨m, e, h1, _, h3, h4⟩
    · have := h.2
      omega
    · have := seqP.le (fun a b => tPt.lt d a b) h3
      have := seqP.le (fun a b => tPt.lt d a b) h4
      omega
theorem tRow.le {x : Nat → Nat → Nat} {d k k' : Nat} (h : tRow x d k k') : k ≤ k' := seqP.le (fun a b => tPt.lt d a b) h
theorem tPt.lts {x : Nat → Nat → Nat} {d a b m e : Nat} (h1 : b = e + 1) (h3 : tRow x d (a + 1) m) (h4 : tRow x d (m + 1) e) : a < m ∧ m < e ∧ e < b := by
  have := tRow.le h3
  have := tRow.le h4
  omega
theorem lnk.cg {a b : Nat → Nat} {k m e : Nat} (h : ∀ q, q < 8 → a q = b q) : lnk a k m e → lnk b k m e := fun q => ⟨(h 5 (by decide)).symm.trans q.1, (h 6 (by decide)).symm.trans q.2.1, (h 7 (by decide)).symm.trans q.2.2⟩
theorem tst.cg {a b : Nat → Nat} (h : ∀ q, q < 8 → a q = b q) : tst a → tst b := fun q => by
  unfold tst at q ⊢
  rw [← h 2 (by decide), ← h 3 (by decide), ← h 4 (by decide)]
  exact q
theorem sOk.cg {a b : Nat → Nat} (h : ∀ q, q < 8 → a q = b q) : sOk a → sOk b := fun q => by
  refine ⟨?_, lnk.cg h q.2⟩
  have := q.1
  rw [h 0 (by decide), h 1 (by decide), h 2 (by decide), h 3 (by decide), h 4 (by decide)] at this
  exact this
theorem bOk.cg {x y : Nat → Nat → Nat} {k m e : Nat} (h : ∀ j, j = k ∨ j = m ∨ j = e → ∀ q, q < 8 → x j q = y j q) (b : bOk x k m e) : bOk y k m e := by
  have hk := h k (Or.inl rfl)
  have hm := h m (Or.inr (Or.inl rfl))
  have he := h e (Or.inr (Or.inr rfl))
  obtain ⟨b1, b2, b3, b4, b5, b6, b7, b8, b9⟩ := b
  rw [hk 0 (by decide), hm 0 (by decide), he 0 (by decide)] at b1
  rw [hk 1 (by decide)] at b4
  rw [he 1 (by decide)] at b5
  rw [hm 1 (by decide), hm 2 (by decide), hm 3 (by decide), hm 4 (by decide)] at b6
  exact ⟨b1, b2.cg hk, b3.cg he, b4, b5, b6, b7.cg hk, b8.cg hm, b9.cg he⟩
/-- only the acts between matter -/
theorem tPt.cg {x y : Nat → Nat → Nat} : ∀ (d a b : Nat), (∀ j, a ≤ j → j < b → ∀ q, q < 8 → x j q = y j q) → tPt x d a b → tPt y d a b
  | 0, a, b, h, t => ⟨t.1.cg (h a (Nat.le_refl a) (by have := t.2; omega)), t.2⟩
  | d + 1, a, b, h, t => by
    have hl := tPt.lt _ _ _ t
    rcases t with t | ⟨m, e, h1, h2, h3, h4⟩
    · exact Or.inl ⟨t.1.cg (h a (Nat.le_refl a) hl), t.2⟩
    · have hs := tPt.lts h1 h3 h4
      refine Or.inr ⟨m, e, h1, h2.cg (fun j hj => h j (by omega) (by omega)), ?_, ?_⟩
      · obtain ⟨c, ks, q0, qc, qj⟩ := h3
        refine ⟨c, ks, q0, qc, fun j hj => tPt.cg d _ _ (fun i g1 g2 => h i ?_ ?_) (qj j hj)⟩
        · have := ks_mono (fun a b => tPt.lt d a b) qj j 0 (by omega)
          rw [Nat.zero_add] at this
          omega
        · have := ks_mono (fun a b => tPt.lt d a b) qj (c - (j + 1)) (j + 1) (by omega)
          rw [show j + 1 + (c - (j + 1)) = c by omega] at this
          omega
      · obtain ⟨c, ks, q0, qc, qj⟩ := h4
        refine ⟨c, ks, q0, qc, fun j hj => tPt.cg d _ _ (fun i g1 g2 => h i ?_ ?_) (qj j hj)⟩
        · have := ks_mono (fun a b => tPt.lt d a b) qj j 0 (by omega)
          rw [Nat.zero_add] at this
          omega
        · have := ks_mono (fun a b => tPt.lt d a b) qj (c - (j + 1)) (j + 1) (by omega)
          rw [show j + 1 + (c - (j + 1)) = c by omega] at this
          omega
theorem ks_in {P : Nat → Nat → Prop} (hp : ∀ a b, P a b → a < b) {c : Nat} {ks : Nat → Nat} (hj : ∀ j, j < c → P (ks j) (ks (j + 1))) {j : Nat} (h : j < c) : ks 0 ≤ ks j ∧ ks (j + 1) ≤ ks c := by
  have h1 := ks_mono hp hj j 0 (by omega)
  have h2 := ks_mono hp hj (c - (j + 1)) (j + 1) (by omega)
  rw [Nat.zero_add] at h1
  rw [show j + 1 + (c - (j + 1)) = c by omega] at h2
  omega
theorem tRow.cg {x y : Nat → Nat → Nat} {d k k' : Nat} (h : ∀ j, k ≤ j → j < k' → ∀ q, q < 8 → x j q = y j q) : tRow x d k k' → tRow y d k k'
  | ⟨c, ks, q0, qc, qj⟩ => ⟨c, ks, q0, qc, fun j hj => tPt.cg d _ _ (fun i g1 g2 => h i (by have := (ks_in (fun a b => tPt.lt d a b) qj hj).1; omega) (by have := (ks_in (fun a b => tPt.lt d a b) qj hj).2; omega)) (qj j hj)⟩
/-- every act is one of them -/
def aOk (x : Nat → Nat → Nat) (k k' j : Nat) : Prop := sOk (x j) ∨ ∃ o m e, bOk x o m e ∧ (j = o ∨ j = m ∨ j = e) ∧ k ≤ o ∧ o < m ∧ m < e ∧ e < k'
theorem aOk.wk {x : Nat → Nat → Nat} {k k' j l l' : Nat} (h1 : l ≤ k) (h2 : k' ≤ l') : aOk x k k' j → aOk x l l' j
  | .inl h => .inl h
  | .inr ⟨o, m, e, a, b, c, d, f, g⟩ => .inr ⟨o, m, e, a, b, by omega, d, f, by omega⟩
theorem ks_fd {P : Nat → Nat → Prop} (hp : ∀ a b, P a b → a < b) : ∀ (c : Nat) (ks : Nat → Nat), (∀ j, j < c → P (ks j) (ks (j + 1))) → ∀ i, ks 0 ≤ i → i < ks c → ∃ j, j < c ∧ ks j ≤ i ∧ i < ks (j + 1)
  | 0, ks, _, i, h1, h2 => by omega
  | c + 1, ks, hj, i, h1, h2 => by
    by_cases q : i < ks c
    · obtain ⟨j, a, b⟩ := ks_fd hp c ks (fun j h => hj j (by omega)) i h1 q
      exact ⟨j, by omega, b⟩
    · exact ⟨c, by omega, by omega, h2⟩
theorem tPt.act {x : Nat → Nat → Nat} : ∀ (d a b : Nat), tPt x d a b → ∀ j, a ≤ j → j < b → aOk x a b j
  | 0, a, b, t, j, h1, h2 => by
    have := t.2
    rw [show j = a by omega]
    exact Or.inl t.1
  | d + 1, a, b, t, j, h1, h2 => by
    rcases t with t | ⟨m, e, g1, g2, g3, g4⟩
    · have := t.2
      rw [show j = a by omega]
      exact Or.inl t.1
    · have hs := tPt.lts g1 g3 g4
      by_cases q : j = a ∨ j = m ∨ j = e
      · exact Or.inr ⟨a, m, e, g2, q, by omega, by omega, by omega, by omega⟩
      · have key : ∀ l l', tRow x d l l' → l ≤ j → j < l' → aOk x l l' j := fun l l' s q1 q2 => by
          obtain ⟨c, ks, q0, qc, qj⟩ := s
          obtain ⟨i, i1, i2, i3⟩ := ks_fd (fun a b => tPt.lt d a b) c ks qj j (by omega) (by omega)
          have hin := ks_in (fun a b => tPt.lt d a b) qj i1
          exact (tPt.act d _ _ (qj i i1) j i2 i3).wk (by omega) (by omega)
        by_cases q2 : j < m
        · exact (key _ _ g3 (by omega) q2).wk (by omega) (by omega)
        · exact (key _ _ g4 (by omega) (by omega)).wk (by omega) (by omega)
theorem tRow.act {x : Nat → Nat → Nat} {d k k' : Nat} : tRow x d k k' → ∀ j, k ≤ j → j < k' → aOk x k k' j
  | ⟨c, ks, q0, qc, qj⟩, j, h1, h2 => by
    obtain ⟨i, i1, i2, i3⟩ := ks_fd (fun a b => tPt.lt d a b) c ks qj j (by omega) (by omega)
    have hin := ks_in (fun a b => tPt.lt d a b) qj i1
    exact (tPt.act d _ _ (qj i i1) j i2 i3).wk (by omega) (by omega)
/-! texts -/
def pNum (t : Nat) : List Nat := (if 100 ≤ t then [48 + t / 100 % 10] else []) ++ ((if 10 ≤ t then [48 + t / 10 % 10] else []) ++ [48 + t % 10])
def pTerm (t : Nat) : List Nat := if t < 1000 then pNum t else [97 + (4294967295 - t)]
def pSum (a : Nat → Nat) : List Nat := pTerm (a 2) ++ (if a 3 = 32 then [] else a 3 :: pTerm (a 4))
def piece (a : Nat → Nat) : List Nat :=
  if a 0 = 91 ∨ a 0 = 123 then a 0 :: (pSum a ++ [58])
  else if a 0 = 124 ∨ a 0 = 47 then [124]
  else if a 0 = 93 ∨ a 0 = 125 then 58 :: (pSum a ++ [a 0])
  else if a 0 = 33 ∨ a 0 = 63 then [a 0, 97 + a 1]
  else if a 0 = 64 ∨ a 0 = 36 then [a 0, 48 + a 1]
  else (97 + a 1) :: a 0 :: pSum a
/-- a statement begins here, ends here -/
def isB (a : Nat → Nat) : Bool := decide (a 0 ≠ 124 ∧ a 0 ≠ 47 ∧ a 0 ≠ 93 ∧ a 0 ≠ 125)
def isE (a : Nat → Nat) : Bool := decide (a 0 ≠ 124 ∧ a 0 ≠ 47 ∧ a 0 ≠ 91 ∧ a 0 ≠ 123)
def spc (a b : Nat → Nat) : List Nat := if isE a = true ∧ isB b = true then [59] else []
def pFl (x : Nat → Nat → Nat) : Nat → Nat → List Nat
  | 0, _ => []
  | 1, k => piece (x k)
  | n + 2, k => piece (x k) ++ (spc (x k) (x (k + 1)) ++ pFl x (n + 1) (k + 1))
theorem pFl_sp (x : Nat → Nat → Nat) (m : Nat) : ∀ (n k : Nat), pFl x (n + 1 + (m + 1)) k = pFl x (n + 1) k ++ (spc (x (k + n)) (x (k + n + 1)) ++ pFl x (m + 1) (k + n + 1))
  | 0, k => by
    rw [show 0 + 1 + (m + 1) = m + 2 by omega, Nat.add_zero]
    rfl
  | n + 1, k => by
    rw [show n + 1 + 1 + (m + 1) = (n + 1 + m) + 2 by omega, pFl, show n + 1 + m + 1 = n + 1 + (m + 1) by omega, pFl_sp x m n (k + 1), show n + 1 + 1 = n + 2 by omega, pFl, List.append_assoc, List.append_assoc, show k + 1 + n = k + (n + 1) by omega]
theorem sOk.be {a : Nat → Nat} (h : sOk a) : isB a = true ∧ isE a = true := by
  have h1 := h.1
  exact ⟨decide_eq_true (by omega), decide_eq_true (by omega)⟩
theorem bOk.o {x : Nat → Nat → Nat} {k m e : Nat} (h : bOk x k m e) : isB (x k) = true ∧ isE (x k) = false ∧ piece (x k) = x k 0 :: (pSum (x k) ++ [58]) := by
  have h1 := h.1
  exact ⟨decide_eq_true (by omega), decide_eq_false (by omega), if_pos (by omega)⟩
theorem bOk.m {x : Nat → Nat → Nat} {k m e : Nat} (h : bOk x k m e) : isB (x m) = false ∧ isE (x m) = false ∧ piece (x m) = [124] := by
  have h1 := h.1
  exact ⟨decide_eq_false (by omega), decide_eq_false (by omega), by unfold piece; rw [if_neg (by omega), if_pos (by omega)]⟩
theorem bOk.e {x : Nat → Nat → Nat} {k m e : Nat} (h : bOk x k m e) : isB (x e) = false ∧ isE (x e) = true ∧ piece (x e) = 58 :: (pSum (x e) ++ [x e 0]) := by
  have h1 := h.1
  exact ⟨decide_eq_false (by omega), decide_eq_true (by omega), by unfold piece; rw [if_neg (by omega), if_neg (by omega), if_pos (by omega)]⟩
theorem spc_e {a b : Nat → Nat} (h : isE a = false) : spc a b = [] := if_neg (fun q => by rw [h] at q; cases q.1)
theorem spc_b {a b : Nat → Nat} (h : isB b = false) : spc a b = [] := if_neg (fun q => by rw [h] at q; cases q.2)
theorem spc_1 {a b : Nat → Nat} (h : isE a = true) (g : isB b = true) : spc a b = [59] := if_pos ⟨h, g⟩
/-- behind an opening act no sign -/
theorem pFl_oc {x : Nat → Nat → Nat} {k : Nat} (n : Nat) (h : isE (x k) = false) : pFl x (n + 1) k = piece (x k) ++ pFl x n (k + 1) := by
  cases n with
  | zero => rw [pFl, pFl, List.append_nil]
  | succ n => rw [pFl, spc_e h, List.nil_append]
/-- ahead of a closing act no sign -/
theorem pFl_co {x : Nat → Nat → Nat} {n m k : Nat} (h : isB (x (k + n)) = false) : pFl x (n + (m + 1)) k = pFl x n k ++ pFl x (m + 1) (k + n) := by
  cases n with
  | zero =>
    rw [Nat.zero_add]
    rfl
  | succ n => rw [pFl_sp, show k + n + 1 = k + (n + 1) by omega, spc_b h, List.nil_append]
theorem pFl_br {x : Nat → Nat → Nat} {k m e : Nat} (h : bOk x k m e) (h1 : k < m) (h2 : m < e) : pFl x (e + 1 - k) k = (x k 0 :: (pSum (x k) ++ [58])) ++ (pFl x (m - (k + 1)) (k + 1) ++ (124 :: (pFl x (e - (m + 1)) (m + 1) ++ (58 :: (pSum (x e) ++ [x e 0]))))) := by
  have e1 := pFl_oc (x := x) (k := k) (e - k) h.o.2.1
  rw [show e - k + 1 = e + 1 - k by omega] at e1
  have e2 := pFl_co (x := x) (n := m - (k + 1)) (m := e - m) (k := k + 1) (by rw [show k + 1 + (m - (k + 1)) = m by omega]; exact h.m.1)
  rw [show k + 1 + (m - (k + 1)) = m by omega, show m - (k + 1) + (e - m + 1) = e - k by omega] at e2
  have e3 := pFl_oc (x := x) (k := m) (e - m) h.m.2.1
  have e4 := pFl_co (x := x) (n := e - (m + 1)) (m := 0) (k := m + 1) (by rw [show m + 1 + (e - (m + 1)) = e by omega]; exact h.e.1)
  rw [show m + 1 + (e - (m + 1)) = e by omega, show e - (m + 1) + (0 + 1) = e - m by omega] at e4
  rw [e1, e2, e3, e4, h.o.2.2, h.m.2.2, show pFl x (0 + 1) e = piece (x e) from rfl, h.e.2.2]
  rfl
theorem tPt.be {x : Nat → Nat → Nat} {d a b : Nat} (t : tPt x d a b) : isB (x a) = true ∧ isE (x (b - 1)) = true := by
  cases d with
  | zero => rw [t.2]; exact t.1.be
  | succ d =>
    rcases t with t | ⟨m, e, h1, h2, _, _⟩
    · rw [t.2]; exact t.1.be
    · rw [h1]; exact ⟨h2.o.1, h2.e.2.1⟩
/-- the first statement of some, and those behind it -/
theorem pFl_st {x : Nat → Nat → Nat} {d a b k' : Nat} (t : tPt x d a b) (h : b < k') (hb : isB (x b) = true) : pFl x (k' - a) a = pFl x (b - a) a ++ (59 :: pFl x (k' - b) b) := by
  have hl := tPt.lt _ _ _ t
  have e1 := pFl_sp x (k' - b - 1) (b - a - 1) a
  rw [show b - a - 1 + 1 = b - a by omega, show k' - b - 1 + 1 = k' - b by omega, show b - a + (k' - b) = k' - a by omega, show a + (b - a - 1) = b - 1 by omega, show b - 1 + 1 = b by omega, spc_1 t.be.2 hb] at e1
  exact e1
