/-! The way back of a row of acts: statements in the reverse order, each turned; the rows of a bracket at their places. -/
def wSq (P : Nat → Nat → Nat → Prop) (k k' s : Nat) : Prop := ∃ (c : Nat) (ks : Nat → Nat), ks 0 = k ∧ ks c = k' ∧ ∀ j, j < c → P (ks j) (ks (j + 1)) (s + (k' - ks (j + 1)))
def wSm (A B : Nat → Nat) : Prop := sOk A ∧ ∀ q, q < 8 → B q = fl1 0 A q
def wBr (x y : Nat → Nat → Nat) (a m e a' m' e' : Nat) : Prop := bOk x a m e ∧ bOk y a' m' e' ∧ y a' 0 = x a 0 ∧ (∀ q, 2 ≤ q → q ≤ 4 → y a' q = x e q) ∧ ∀ q, 2 ≤ q → q ≤ 4 → y e' q = x a q
def wPt (x y : Nat → Nat → Nat) : Nat → Nat → Nat → Nat → Prop
  | 0, a, b, a' => b = a + 1 ∧ wSm (x a) (y a')
  | d + 1, a, b, a' => (b = a + 1 ∧ wSm (x a) (y a')) ∨ ∃ m e, b = e + 1 ∧ a < m ∧ m < e ∧ wBr x y a m e a' (a' + (m - a)) (a' + (e - a)) ∧ wSq (wPt x y d) (a + 1) m (a' + 1) ∧ wSq (wPt x y d) (m + 1) e (a' + (m - a) + 1)
abbrev wRow (x y : Nat → Nat → Nat) (d k k' s : Nat) : Prop := wSq (wPt x y d) k k' s
theorem wPt.lt {x y : Nat → Nat → Nat} : ∀ (d a b a' : Nat), wPt x y d a b a' → a < b
  | 0, a, b, a', h => by have := h.1; omega
  | d + 1, a, b, a', h => by
    rcases h with h | ⟨m, e, h1, h2, h3, _⟩
    · have := h.1; omega
    · omega
theorem wSq.sq {P : Nat → Nat → Nat → Prop} {Q : Nat → Nat → Prop} {k k' s : Nat} (h : ∀ a b a', P a b a' → Q a b) : wSq P k k' s → seqP Q k k'
  | ⟨c, ks, h0, hc, hj⟩ => ⟨c, ks, h0, hc, fun j q => h _ _ _ (hj j q)⟩
theorem wPt.t {x y : Nat → Nat → Nat} : ∀ (d a b a' : Nat), wPt x y d a b a' → tPt x d a b
  | 0, a, b, a', h => ⟨h.2.1, h.1⟩
  | d + 1, a, b, a', h => by
    rcases h with h | ⟨m, e, h1, h2, h3, h4, h5, h6⟩
    · exact Or.inl ⟨h.2.1, h.1⟩
    · exact Or.inr ⟨m, e, h1, h4.1, h5.sq (fun a b a' q => wPt.t d a b a' q), h6.sq (fun a b a' q => wPt.t d a b a' q)⟩
theorem wRow.t {x y : Nat → Nat → Nat} {d k k' s : Nat} (h : wRow x y d k k' s) : tRow x d k k' := wSq.sq (fun a b a' q => wPt.t d a b a' q) h
/-- the places of parts go up -/
theorem wks {P : Nat → Nat → Nat → Prop} (hp : ∀ a b a', P a b a' → a < b) {c S : Nat} {ks : Nat → Nat} (hj : ∀ j, j < c → P (ks j) (ks (j + 1)) (S - ks (j + 1))) : ∀ i j, i + j ≤ c → ks i ≤ ks (i + j)
  | _, 0, _ => Nat.le_refl _
  | i, j + 1, h => by
    have h1 := wks hp hj i j (by omega)
    have h2 := hp _ _ _ (hj (i + j) (by omega))
    rw [show i + (j + 1) = i + j + 1 by omega]
    omega
theorem wSq.S {P : Nat → Nat → Nat → Prop} (hp : ∀ a b a', P a b a' → a < b) {k k' s : Nat} (h : wSq P k k' s) : k ≤ k' ∧ ∃ (c : Nat) (ks : Nat → Nat), ks 0 = k ∧ ks c = k' ∧ (∀ j, j < c → P (ks j) (ks (j + 1)) (s + k' - ks (j + 1))) ∧ ∀ i j, i + j ≤ c → ks i ≤ ks (i + j) := by
  obtain ⟨c, ks, h0, hc, hj⟩ := h
  have hm : ∀ i j, i + j ≤ c → ks i ≤ ks (i + j) := by
    intro i j
    induction j with
    | zero => exact fun _ => Nat.le_refl _
    | succ j ih =>
      intro q
      have h1 := ih (by omega)
      have h2 := hp _ _ _ (hj (i + j) (by omega))
      rw [show i + (j + 1) = i + j + 1 by omega]
      omega
  have hb : ∀ j, j ≤ c → ks j ≤ k' := fun j q => by
    have := hm j (c - j) (by omega)
    rw [show j + (c - j) = c by omega, hc] at this
    exact this
  refine ⟨by have := hm 0 c (by omega); rw [Nat.zero_add, h0, hc] at this; exact this, c, ks, h0, hc, fun j q => ?_, hm⟩
  have := hb (j + 1) (by omega)
  rw [show s + k' - ks (j + 1) = s + (k' - ks (j + 1)) by omega]
  exact hj j q
theorem wSq.of {P : Nat → Nat → Nat → Prop} (hp : ∀ a b a', P a b a' → a < b) {k k' s c : Nat} {ks : Nat → Nat} (h0 : ks 0 = k) (hc : ks c = k') (hj : ∀ j, j < c → P (ks j) (ks (j + 1)) (s + k' - ks (j + 1))) : wSq P k k' s := by
  have hm := wks hp hj
  refine ⟨c, ks, h0, hc, fun j q => ?_⟩
  have := hm (j + 1) (c - (j + 1)) (by omega)
  rw [show j + 1 + (c - (j + 1)) = c by omega, hc] at this
  rw [show s + (k' - ks (j + 1)) = s + k' - ks (j + 1) by omega]
  exact hj j q
/-! it leads both ways -/
theorem flS_i {s : Nat} (h : s = 33 ∨ s = 63 ∨ s = 64 ∨ s = 36 ∨ s = 126 ∨ s = 43 ∨ s = 45 ∨ s = 94) : flS (flS s) = s ∧ brS (flS s) = false := by
  rcases h with rfl | rfl | rfl | rfl | rfl | rfl | rfl | rfl <;> exact ⟨rfl, rfl⟩
theorem wSm.sym {A B : Nat → Nat} (h : wSm A B) : wSm B A := by
  have hs : A 0 = 33 ∨ A 0 = 63 ∨ A 0 = 64 ∨ A 0 = 36 ∨ A 0 = 126 ∨ A 0 = 43 ∨ A 0 = 45 ∨ A 0 = 94 := by have := h.1.1; omega
  have hB := h.2
  obtain ⟨a0, a1, a2, a3, a4⟩ := fl1_0 0 A
  obtain ⟨b0, b1, b2, b3, b4⟩ := fl1_0 0 B
  have i := flS_i hs
  have e0 : B 0 = flS (A 0) := (hB 0 (by decide)).trans a0
  have hb : ¬ brS (B 0) = true := by rw [e0, i.2]; decide
  have z : fl1 0 B 5 = 0 ∧ fl1 0 B 6 = 0 ∧ fl1 0 B 7 = 0 := by unfold fl1; rw [if_neg hb]; exact ⟨rfl, rfl, rfl⟩
  refine ⟨(sOk_fl h.1).cg (fun q hq => (hB q hq).symm), q8 ?_ ?_ ?_ ?_ ?_ ?_ ?_ ?_⟩
  · rw [b0, e0, i.1]
  · rw [b1, hB 1 (by decide), a1]
  · rw [b2, hB 2 (by decide), a2]
  · rw [b3, hB 3 (by decide), a3]
  · rw [b4, hB 4 (by decide), a4]
  · rw [z.1]; exact h.1.2.1
  · rw [z.2.1]; exact h.1.2.2.1
  · rw [z.2.2]; exact h.1.2.2.2
theorem wSq.rev {P Q : Nat → Nat → Nat → Prop} (hp : ∀ a b a', P a b a' → a < b) (hq : ∀ a b a', Q a b a' → a < b) (h : ∀ a b a', P a b a' → Q a' (a' + (b - a)) a) {k k' s : Nat} (w : wSq P k k' s) : wSq Q s (s + (k' - k)) k := by
  obtain ⟨hk, c, ks, h0, hc, hj, hm⟩ := w.S hp
  have hb : ∀ j, j ≤ c → k ≤ ks j ∧ ks j ≤ k' := fun j q => by
    have e1 := hm 0 j (by omega)
    have e2 := hm j (c - j) (by omega)
    rw [Nat.zero_add, h0] at e1
    rw [show j + (c - j) = c by omega, hc] at e2
    exact ⟨e1, e2⟩
  refine wSq.of hq (c := c) (ks := fun j => s + k' - ks (c - j)) (by show s + k' - ks (c - 0) = s; rw [Nat.sub_zero, hc]; omega) (by show s + k' - ks (c - c) = _; rw [Nat.sub_self, h0]; omega) (fun j q => ?_)
  have e := h _ _ _ (hj (c - (j + 1)) (by omega))
  rw [show c - (j + 1) + 1 = c - j by omega] at e
  have b1 := hb (c - (j + 1)) (by omega)
  have b2 := hb (c - j) (by omega)
  have b3 := hm (c - (j + 1)) 1 (by omega)
  rw [show c - (j + 1) + 1 = c - j by omega] at b3
  show Q (s + k' - ks (c - j)) (s + k' - ks (c - (j + 1))) (k + (s + (k' - k)) - (s + k' - ks (c - (j + 1))))
  rw [show s + k' - ks (c - (j + 1)) = s + k' - ks (c - j) + (ks (c - j) - ks (c - (j + 1))) by omega, show k + (s + (k' - k)) - (s + k' - ks (c - j) + (ks (c - j) - ks (c - (j + 1)))) = ks (c - (j + 1)) by omega]
  exact e
theorem wPt.sym {x y : Nat → Nat → Nat} : ∀ (d a b a' : Nat), wPt x y d a b a' → wPt y x d a' (a' + (b - a)) a
  | 0, a, b, a', h => ⟨by have := h.1; omega, h.2.sym⟩
  | d + 1, a, b, a', h => by
    rcases h with h | ⟨m, e, h1, h2, h3, h4, h5, h6⟩
    · exact Or.inl ⟨by have := h.1; omega, h.2.sym⟩
    · refine Or.inr ⟨a' + (m - a), a' + (e - a), by omega, by omega, by omega, ?_, ?_, ?_⟩
      · rw [show a + (a' + (m - a) - a') = m by omega, show a + (a' + (e - a) - a') = e by omega]
        exact ⟨h4.2.1, h4.1, h4.2.2.1.symm, fun q q1 q2 => (h4.2.2.2.2 q q1 q2).symm, fun q q1 q2 => (h4.2.2.2.1 q q1 q2).symm⟩
      · have r := h5.rev (fun a b a' q => wPt.lt d a b a' q) (fun a b a' q => wPt.lt d a b a' q) (fun a b a' q => wPt.sym d a b a' q)
        rw [show a' + 1 + (m - (a + 1)) = a' + (m - a) by omega] at r
        exact r
      · have r := h6.rev (fun a b a' q => wPt.lt d a b a' q) (fun a b a' q => wPt.lt d a b a' q) (fun a b a' q => wPt.sym d a b a' q)
        rw [show a' + (m - a) + 1 + (e - (m + 1)) = a' + (e - a) by omega] at r
        rw [show a + (a' + (m - a) - a') + 1 = m + 1 by omega]
        exact r
theorem wRow.sym {x y : Nat → Nat → Nat} {d k k' s : Nat} (h : wRow x y d k k' s) : wRow y x d s (s + (k' - k)) k := wSq.rev (fun a b a' q => wPt.lt d a b a' q) (fun a b a' q => wPt.lt d a b a' q) (fun a b a' q => wPt.sym d a b a' q) h
theorem wRow.ty {x y : Nat → Nat → Nat} {d k k' s : Nat} (h : wRow x y d k k' s) : tRow y d s (s + (k' - k)) := h.sym.t
/-! only its own places count -/
theorem wSm.cg {A B C : Nat → Nat} (h : ∀ q, q < 8 → B q = C q) (w : wSm A B) : wSm A C := ⟨w.1, fun q hq => (h q hq).symm.trans (w.2 q hq)⟩
theorem wPt.cg {x y z : Nat → Nat → Nat} : ∀ (d a b a' : Nat), (∀ j, a' ≤ j → j < a' + (b - a) → ∀ q, q < 8 → y j q = z j q) → wPt x y d a b a' → wPt x z d a b a'
  | 0, a, b, a', h, w => ⟨w.1, w.2.cg (h a' (Nat.le_refl _) (by have := w.1; omega))⟩
  | d + 1, a, b, a', h, w => by
    rcases w with w | ⟨m, e, h1, h2, h3, h4, h5, h6⟩
    · exact Or.inl ⟨w.1, w.2.cg (h a' (Nat.le_refl _) (by have := w.1; omega))⟩
    · have row : ∀ k k' s, a' ≤ s → s + (k' - k) ≤ a' + (b - a) → wSq (wPt x y d) k k' s → wSq (wPt x z d) k k' s := fun k k' s q1 q2 r => by
        obtain ⟨hk, c, ks, r0, rc, rj, rm⟩ := r.S (fun a b a' q => wPt.lt d a b a' q)
        refine wSq.of (fun a b a' q => wPt.lt d a b a' q) r0 rc (fun j hj => wPt.cg d _ _ _ (fun i i1 i2 => ?_) (rj j hj))
        have e1 := rm 0 j (by omega)
        have e2 := rm (j + 1) (c - (j + 1)) (by omega)
        have e3 := wPt.lt d _ _ _ (rj j hj)
        rw [Nat.zero_add, r0] at e1
        rw [show j + 1 + (c - (j + 1)) = c by omega, rc] at e2
        exact h i (by omega) (by omega)
      refine Or.inr ⟨m, e, h1, h2, h3, ?_, row _ _ _ (by omega) (by omega) h5, row _ _ _ (by omega) (by omega) h6⟩
      have f0 := h a' (Nat.le_refl _) (by omega)
      have fe := h (a' + (e - a)) (by omega) (by omega)
      refine ⟨h4.1, h4.2.1.cg (fun j hj => h j (by omega) (by omega)), (f0 0 (by decide)).symm.trans h4.2.2.1, fun q q1 q2 => (f0 q (by omega)).symm.trans (h4.2.2.2.1 q q1 q2), fun q q1 q2 => (fe q (by omega)).symm.trans (h4.2.2.2.2 q q1 q2)⟩
theorem wRow.cg {x y z : Nat → Nat → Nat} {d k k' s : Nat} (h : ∀ j, s ≤ j → j < s + (k' - k) → ∀ q, q < 8 → y j q = z j q) (r : wRow x y d k k' s) : wRow x z d k k' s := by
  obtain ⟨hk, c, ks, r0, rc, rj, rm⟩ := wSq.S (fun a b a' q => wPt.lt d a b a' q) r
  refine wSq.of (fun a b a' q => wPt.lt d a b a' q) r0 rc (fun j hj => wPt.cg d _ _ _ (fun i i1 i2 => ?_) (rj j hj))
  have e1 := rm 0 j (by omega)
  have e2 := rm (j + 1) (c - (j + 1)) (by omega)
  have e3 := wPt.lt d _ _ _ (rj j hj)
  rw [Nat.zero_add, r0] at e1
  rw [show j + 1 + (c - (j + 1)) = c by omega, rc] at e2
  exact h i (by omega) (by omega)
/-- .. of what is turned, too -/
theorem wRow.cgx {x y z : Nat → Nat → Nat} {d k k' s : Nat} (h : ∀ j, k ≤ j → j < k' → ∀ q, q < 8 → x j q = z j q) (hk : k ≤ k') (r : wRow x y d k k' s) : wRow z y d k k' s := by
  have r1 := r.sym
  have r2 := wRow.cg (z := z) (fun j q1 q2 => h j q1 (by omega)) r1
  have r3 := r2.sym
  rw [show k + (s + (k' - k) - s) = k' by omega] at r3
  exact r3
/-! there is one -/
theorem wRow.ex {x : Nat → Nat → Nat} {d : Nat} (hp : ∀ a b, tPt x d a b → ∀ a', ∃ y, wPt x y d a b a') : ∀ (c : Nat) (ks : Nat → Nat), (∀ j, j < c → tPt x d (ks j) (ks (j + 1))) → ∀ s, ∃ y, wRow x y d (ks 0) (ks c) s
  | 0, ks, _, s => ⟨x, 0, ks, rfl, rfl, fun j h => absurd h (Nat.not_lt_zero j)⟩
  | c + 1, ks, h, s => by
    obtain ⟨y1, w1⟩ := hp _ _ (h c (Nat.lt_succ_self c)) s
    obtain ⟨y2, w2⟩ := wRow.ex hp c ks (fun j hj => h j (by omega)) (s + (ks (c + 1) - ks c))
    have hlt := tPt.lt _ _ _ (h c (Nat.lt_succ_self c))
    have f1 : ∀ j, s ≤ j → j < s + (ks (c + 1) - ks c) → ∀ q, q < 8 → y1 j q = (fun i => if i < s + (ks (c + 1) - ks c) then y1 i else y2 i) j q := fun j q1 q2 q _ => by
      show y1 j q = (if j < s + (ks (c + 1) - ks c) then y1 j else y2 j) q
      rw [if_pos q2]
    have w1' := wPt.cg d _ _ _ f1 w1
    have w2' := wRow.cg (z := fun i => if i < s + (ks (c + 1) - ks c) then y1 i else y2 i) (fun j q1 q2 q _ => by
      show y2 j q = (if j < s + (ks (c + 1) - ks c) then y1 j else y2 j) q
      rw [if_neg (by omega)]) w2
    obtain ⟨hk, c2, ks2, r0, rc, rj, rm⟩ := wSq.S (fun a b a' q => wPt.lt d a b a' q) w2'
    generalize (fun i => if i < s + (ks (c + 1) - ks c) then y1 i else y2 i) = z at w1' w2' rj
    refine ⟨z, wSq.of (P := wPt x z d) (fun a b a' q => wPt.lt d a b a' q) (c := c2 + 1) (ks := fun j => if j = c2 + 1 then ks (c + 1) else ks2 j) (by show (if 0 = c2 + 1 then _ else ks2 0) = _; rw [if_neg (by omega)]; exact r0) (if_pos rfl) (fun j hj => ?_)⟩
    show wPt x z d (if j = c2 + 1 then ks (c + 1) else ks2 j) (if j + 1 = c2 + 1 then ks (c + 1) else ks2 (j + 1)) (s + ks (c + 1) - (if j + 1 = c2 + 1 then ks (c + 1) else ks2 (j + 1)))
    rw [if_neg (show ¬ j = c2 + 1 by omega)]
    by_cases q : j = c2
    · rw [if_pos (by omega), q, rc, show s + ks (c + 1) - ks (c + 1) = s by omega]
      exact w1'
    · rw [if_neg (by omega)]
      have e := rj j (by omega)
      have e2 := rm (j + 1) (c2 - (j + 1)) (by omega)
      rw [show j + 1 + (c2 - (j + 1)) = c2 by omega, rc] at e2
      rw [show s + (ks (c + 1) - ks c) + ks c - ks2 (j + 1) = s + ks (c + 1) - ks2 (j + 1) by omega] at e
      exact e
theorem wPt.ex {x : Nat → Nat → Nat} : ∀ (d a b : Nat), tPt x d a b → ∀ a', ∃ y, wPt x y d a b a'
  | 0, a, b, h, a' => ⟨fun _ => fl1 0 (x a), h.2, h.1, fun _ _ => rfl⟩
  | d + 1, a, b, h, a' => by
    rcases h with h | ⟨m, e, h1, h2, h3, h4⟩
    · exact ⟨fun _ => fl1 0 (x a), Or.inl ⟨h.2, h.1, fun _ _ => rfl⟩⟩
    · obtain ⟨q1, q2, q3⟩ := tPt.lts h1 h3 h4
      obtain ⟨c1, k1, z1, z2, z3⟩ := h3
      obtain ⟨c2, k2, z4, z5, z6⟩ := h4
      obtain ⟨y1, w1⟩ := wRow.ex (wPt.ex d) c1 k1 z3 (a' + 1)
      obtain ⟨y2, w2⟩ := wRow.ex (wPt.ex d) c2 k2 z6 (a' + (m - a) + 1)
      rw [z1, z2] at w1
      rw [z4, z5] at w2
      obtain ⟨b1, b2, b3, b4, b5, b6, l1, l2, l3⟩ := id h2
      let M := a' + (m - a)
      let E := a' + (e - a)
      let y : Nat → Nat → Nat := fun j => if j = a' then ac (x a 0) 0 (x e 2) (x e 3) (x e 4) a' M E else if j = M then ac (x m 0) 0 0 32 0 a' M E else if j = E then ac (x e 0) 0 (x a 2) (x a 3) (x a 4) a' M E else if j < M then y1 j else y2 j
      have hM : M = a' + (m - a) := rfl
      have hE : E = a' + (e - a) := rfl
      have ya : y a' = ac (x a 0) 0 (x e 2) (x e 3) (x e 4) a' M E := if_pos rfl
      have ym : y M = ac (x m 0) 0 0 32 0 a' M E := by
        show (if M = a' then _ else if M = M then _ else _) = _
        rw [if_neg (by omega), if_pos rfl]
      have ye : y E = ac (x e 0) 0 (x a 2) (x a 3) (x a 4) a' M E := by
        show (if E = a' then _ else if E = M then _ else if E = E then _ else _) = _
        rw [if_neg (by omega), if_neg (by omega), if_pos rfl]
      refine ⟨y, Or.inr ⟨m, e, h1, q1, q2, ⟨h2, ?_, ?_, ?_, ?_⟩, wRow.cg (fun j j1 j2 q _ => ?_) w1, wRow.cg (fun j j1 j2 q _ => ?_) w2⟩⟩
      · show bOk y a' M E
        unfold bOk
        rw [ya, ym, ye]
        exact ⟨b1, b3, b2, rfl, rfl, ⟨rfl, rfl, rfl, rfl⟩, ⟨rfl, rfl, rfl⟩, ⟨rfl, rfl, rfl⟩, ⟨rfl, rfl, rfl⟩⟩
      · rw [ya]; rfl
      · intro q q1 q2
        rw [ya]
        obtain rfl | rfl | rfl : q = 2 ∨ q = 3 ∨ q = 4 := by omega
        all_goals rfl
      · intro q q1 q2
        rw [← hE, ye]
        obtain rfl | rfl | rfl : q = 2 ∨ q = 3 ∨ q = 4 := by omega
        all_goals rfl
      · show y1 j q = (if j = a' then _ else if j = M then _ else if j = E then _ else if j < M then y1 j else y2 j) q
        rw [if_neg (by omega), if_neg (by omega), if_neg (by omega), if_pos (by omega)]
      · show y2 j q = (if j = a' then _ else if j = M then _ else if j = E then _ else if j < M then y1 j else y2 j) q
        rw [if_neg (by omega), if_neg (by omega), if_neg (by omega), if_neg (by omega)]
theorem wRow.mk {x : Nat → Nat → Nat} {d k k' : Nat} (h : tRow x d k k') (s : Nat) : ∃ y, wRow x y d k k' s := by
  obtain ⟨c, ks, h0, hc, hj⟩ := h
  obtain ⟨y, w⟩ := wRow.ex (wPt.ex d) c ks hj s
  rw [h0, hc] at w
  exact ⟨y, w⟩
/-! texts -/
/-- some statements, and one more -/
theorem pFl_sn {x : Nat → Nat → Nat} {s p b : Nat} (h1 : s < p) (h2 : p < b) (he : isE (x (p - 1)) = true) (hb : isB (x p) = true) : pFl x (b - s) s = pFl x (p - s) s ++ (59 :: pFl x (b - p) p) := by
  have e := pFl_sp x (b - p - 1) (p - s - 1) s
  rw [show p - s - 1 + 1 = p - s by omega, show b - p - 1 + 1 = b - p by omega, show p - s + (b - p) = b - s by omega, show s + (p - s - 1) = p - 1 by omega, show p - 1 + 1 = p by omega, spc_1 he hb] at e
  exact e
theorem pFl_s1 (x : Nat → Nat → Nat) (k : Nat) : pFl x (k + 1 - k) k = piece (x k) := by rw [show k + 1 - k = 1 by omega]; rfl
theorem pSum_cg {A B : Nat → Nat} (h : ∀ q, 2 ≤ q → q ≤ 4 → A q = B q) : pSum A = pSum B := by
  unfold pSum
  rw [h 2 (by decide) (by decide), h 3 (by decide) (by decide), h 4 (by decide) (by decide)]
/-- a bracket turned: its text -/
theorem wBr.tx {x y : Nat → Nat → Nat} {a m e a' m' e' : Nat} (h : wBr x y a m e a' m' e') (h1 : a' < m') (h2 : m' < e') : pFl y (e' + 1 - a') a' = (x a 0 :: (pSum (x e) ++ [58])) ++ (pFl y (m' - (a' + 1)) (a' + 1) ++ (124 :: (pFl y (e' - (m' + 1)) (m' + 1) ++ (58 :: (pSum (x a) ++ [x e 0]))))) := by
  rw [pFl_br h.2.1 h1 h2, h.2.2.1, pSum_cg h.2.2.2.1, pSum_cg h.2.2.2.2]
  have e1 := h.1.1
  have e2 := h.2.1.1
  have e3 := h.2.2.1
  rw [show y e' 0 = x e 0 by omega]
theorem wSq.len {x y : Nat → Nat → Nat} {d : Nat} (hp : ∀ a b a', wPt x y d a b a' → (pFl y (b - a) a').length = (pFl x (b - a) a).length) {S : Nat} : ∀ (c : Nat) (ks : Nat → Nat), ks c ≤ S → (∀ j, j < c → wPt x y d (ks j) (ks (j + 1)) (S - ks (j + 1))) → (∀ i j, i + j ≤ c → ks i ≤ ks (i + j)) → (pFl y (ks c - ks 0) (S - ks c)).length = (pFl x (ks c - ks 0) (ks 0)).length
  | 0, ks, _, _, _ => by rw [Nat.sub_self]; rfl
  | c + 1, ks, hS, hj, hm => by
    have w := hj c (Nat.lt_succ_self c)
    have hlt := wPt.lt d _ _ _ w
    cases c with
    | zero => exact hp _ _ _ w
    | succ c =>
      have ih := wSq.len hp (S := S) (c + 1) ks (by omega) (fun j q => hj j (by omega)) (fun i j q => hm i j (by omega))
      have w0 := hj c (by omega)
      have hl0 := wPt.lt d _ _ _ w0
      have m0 := hm 0 c (by omega)
      rw [Nat.zero_add] at m0
      have ex : pFl x (ks (c + 1 + 1) - ks 0) (ks 0) = pFl x (ks (c + 1) - ks 0) (ks 0) ++ (59 :: pFl x (ks (c + 1 + 1) - ks (c + 1)) (ks (c + 1))) := pFl_sn (by omega) hlt (wPt.t d _ _ _ w0).be.2 (wPt.t d _ _ _ w).be.1
      have sy := wPt.t d _ _ _ (wPt.sym d _ _ _ w)
      have sy0 := wPt.t d _ _ _ (wPt.sym d _ _ _ w0)
      rw [show S - ks (c + 1 + 1) + (ks (c + 1 + 1) - ks (c + 1)) = S - ks (c + 1) by omega] at sy
      have ey := pFl_st (k' := S - ks 0) sy (by omega) sy0.be.1
      rw [show S - ks 0 - (S - ks (c + 1 + 1)) = ks (c + 1 + 1) - ks 0 by omega, show S - ks (c + 1) - (S - ks (c + 1 + 1)) = ks (c + 1 + 1) - ks (c + 1) by omega, show S - ks 0 - (S - ks (c + 1)) = ks (c + 1) - ks 0 by omega] at ey
      rw [ex, ey]
      simp only [List.length_append, List.length_cons]
      have := hp _ _ _ w
      omega
theorem wPt.len {x y : Nat → Nat → Nat} : ∀ (d a b a' : Nat), wPt x y d a b a' → (pFl y (b - a) a').length = (pFl x (b - a) a).length
  | 0, a, b, a', h => by
    rw [h.1, pFl_s1, show a + 1 - a = 1 by omega]
    show (piece (y a')).length = _
    rw [piece_cg h.2.2, fl_len]
  | d + 1, a, b, a', h => by
    rcases h with h | ⟨m, e, h1, h2, h3, h4, h5, h6⟩
    · rw [h.1, pFl_s1, show a + 1 - a = 1 by omega]
      show (piece (y a')).length = _
      rw [piece_cg h.2.2, fl_len]
    · have row : ∀ k k' s, wSq (wPt x y d) k k' s → (pFl y (k' - k) s).length = (pFl x (k' - k) k).length := fun k k' s r => by
        obtain ⟨hk, c, ks, r0, rc, rj, rm⟩ := r.S (fun a b a' q => wPt.lt d a b a' q)
        have q := wSq.len (fun a b a' q => wPt.len d a b a' q) c ks (by rw [rc]; omega) rj rm
        rw [r0, rc, show s + k' - k' = s by omega] at q
        exact q
      have e1 := row _ _ _ h5
      have e2 := row _ _ _ h6
      have ty := h4.tx (by omega) (by omega)
      have tx := pFl_br h4.1 h2 h3
      rw [show b - a = e + 1 - a by omega, tx, show e + 1 - a = a' + (e - a) + 1 - a' by omega, ty, show a' + (m - a) - (a' + 1) = m - (a + 1) by omega, show a' + (e - a) - (a' + (m - a) + 1) = e - (m + 1) by omega]
      simp only [List.length_append, List.length_cons, List.length_nil]
      omega
theorem wRow.len {x y : Nat → Nat → Nat} {d k k' s : Nat} (r : wRow x y d k k' s) : (pFl y (k' - k) s).length = (pFl x (k' - k) k).length := by
  obtain ⟨hk, c, ks, r0, rc, rj, rm⟩ := wSq.S (fun a b a' q => wPt.lt d a b a' q) r
  have q := wSq.len (fun a b a' q => wPt.len d a b a' q) c ks (by rw [rc]; omega) rj rm
  rw [r0, rc, show s + k' - k' = s by omega] at q
  exact q
