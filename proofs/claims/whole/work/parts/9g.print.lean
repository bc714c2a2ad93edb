/-! What is read from a text of acts; what reading leaves. -/
def tx (ch : Nat → Nat) : Nat → List Nat → Prop
  | _, [] => True
  | a, c :: l => ch a = c ∧ tx ch (a + 1) l
theorem tx_app {ch : Nat → Nat} : ∀ (l r : List Nat) (a : Nat), tx ch a (l ++ r) ↔ tx ch a l ∧ tx ch (a + l.length) r
  | [], r, a => by rw [List.nil_append, List.length_nil, Nat.add_zero]; exact ⟨fun h => ⟨trivial, h⟩, fun h => h.2⟩
  | c :: l, r, a => by
    have ih := tx_app (ch := ch) l r (a + 1)
    rw [List.length_cons, show a + (l.length + 1) = a + 1 + l.length by omega]
    exact ⟨fun h => ⟨⟨h.1, (ih.mp h.2).1⟩, (ih.mp h.2).2⟩, fun h => ⟨h.1.1, ih.mpr ⟨h.1.2, h.2⟩⟩⟩
theorem pNum_1 {t : Nat} (h : t < 10) : pNum t = [48 + t] := by
  unfold pNum
  rw [if_neg (by omega), if_neg (by omega), Nat.mod_eq_of_lt h]
  rfl
theorem pNum_2 {t : Nat} (h : 10 ≤ t) (h2 : t < 100) : pNum t = [48 + t / 10, 48 + t % 10] := by
  unfold pNum
  rw [if_neg (by omega), if_pos (by omega), Nat.mod_eq_of_lt (a := t / 10) (by omega)]
  rfl
theorem pNum_3 {t : Nat} (h : 100 ≤ t) (h2 : t < 1000) : pNum t = [48 + t / 100, 48 + t / 10 % 10, 48 + t % 10] := by
  unfold pNum
  rw [if_pos (by omega), if_pos (by omega), Nat.mod_eq_of_lt (a := t / 100) (by omega)]
  rfl
theorem rNum_s {ch : Nat → Nat} {d a t : Nat} (h : 48 ≤ ch a ∧ ch a ≤ 57) : rNum ch (d + 1) a t = rNum ch d (a + 1) (10 * t + (ch a - 48)) := if_pos (decide_eq_true h)
theorem vBt {c : Nat} (h : 97 ≤ c ∧ c ≤ 104) : vB c = true := decide_eq_true h
theorem vBf {c : Nat} (h : ¬ (97 ≤ c ∧ c ≤ 104)) : ¬ vB c = true := fun q => h (vB_lt q)
theorem dBt {c : Nat} (h : 48 ≤ c ∧ c ≤ 57) : dB c = true := decide_eq_true h
theorem oBt {c : Nat} (h : c = 43 ∨ c = 45 ∨ c = 94 ∨ c = 126) : oB c = true := decide_eq_true h
theorem rNum_e {ch : Nat → Nat} {d a t : Nat} (h : dB (ch a) = false) : rNum ch (d + 1) a t = (t, a) := if_neg (by rw [h]; decide)
theorem rNum_p {ch : Nat → Nat} {a t : Nat} (ht : t < 1000) (hx : tx ch a (pNum t)) (hn : dB (ch (a + (pNum t).length)) = false) : rNum ch 3 a 0 = (t, a + (pNum t).length) ∧ 48 ≤ ch a ∧ ch a ≤ 57 := by
  by_cases h1 : t < 10
  · rw [pNum_1 h1] at hx hn ⊢
    have g := hx.1
    rw [rNum_s (by omega), show a + [48 + t].length = a + 1 from rfl, rNum_e (d := 1) (a := a + 1) hn, g]
    exact ⟨Prod.ext (by show 10 * 0 + (48 + t - 48) = t; omega) rfl, by omega, by omega⟩
  · by_cases h2 : t < 100
    · rw [pNum_2 (by omega) h2] at hx hn ⊢
      have g := hx.1
      have g2 := hx.2.1
      rw [rNum_s (by omega), rNum_s (by omega), rNum_e (d := 0) (a := a + 1 + 1) hn, g, g2]
      exact ⟨Prod.ext (by show 10 * (10 * 0 + (48 + t / 10 - 48)) + (48 + t % 10 - 48) = t; omega) rfl, by omega, by omega⟩
    · rw [pNum_3 (by omega) ht] at hx hn ⊢
      have g := hx.1
      have g2 := hx.2.1
      have g3 := hx.2.2.1
      rw [rNum_s (by omega), rNum_s (by omega), rNum_s (by omega), g, g2, g3]
      exact ⟨Prod.ext (by show 10 * (10 * (10 * 0 + (48 + t / 100 - 48)) + (48 + t / 10 % 10 - 48)) + (48 + t % 10 - 48) = t; omega) rfl, by omega, by omega⟩
theorem pTerm_v {v : Nat} (h : v < 8) : pTerm (vT v) = [97 + v] := by
  unfold pTerm vT
  rw [if_neg (by omega), show 4294967295 - (4294967295 - v) = v by omega]
theorem pTerm_n {t : Nat} (h : t < 1000) : pTerm t = pNum t := if_pos h
theorem rTerm_p {ch : Nat → Nat} {a t : Nat} (ht : okTm t) (hx : tx ch a (pTerm t)) (hn : dB (ch (a + (pTerm t).length)) = false) : rTerm ch a = .inr (t, a + (pTerm t).length) := by
  rcases ht with ht | ⟨v, hv, rfl⟩
  · rw [pTerm_n ht] at hx hn ⊢
    have h := rNum_p ht hx hn
    unfold rTerm
    rw [if_neg (vBf (by omega)), if_pos (dBt h.2), h.1]
  · rw [pTerm_v hv] at hx hn ⊢
    have g := hx.1
    unfold rTerm
    rw [if_pos (vBt (by omega)), g, show 97 + v - 97 = v by omega]
    rfl
theorem pTerm_1 (t : Nat) : 1 ≤ (pTerm t).length := by
  unfold pTerm pNum
  split
  · rw [List.length_append, List.length_append]
    show 1 ≤ _ + (_ + 1)
    omega
  · exact Nat.le_refl 1
theorem tB_n {c : Nat} (h : tB c = true) : c ≠ 32 ∧ dB c = false ∧ sB c = false := by
  have h := of_decide_eq_true h
  exact ⟨by omega, decide_eq_false (by omega), decide_eq_false (by omega)⟩
theorem sB_n {c : Nat} (h : sB c = true) : c ≠ 32 ∧ dB c = false := by
  have h := of_decide_eq_true h
  exact ⟨by omega, decide_eq_false (by omega)⟩
theorem pSum_2 {a : Nat → Nat} (h : a 3 ≠ 32) : pSum a = pTerm (a 2) ++ (a 3 :: pTerm (a 4)) := by
  unfold pSum
  rw [if_neg h]
theorem pSum_1 {a : Nat → Nat} (h : a 3 = 32) : pSum a = pTerm (a 2) := by
  unfold pSum
  rw [if_pos h, List.append_nil]
theorem rTest_p {ch : Nat → Nat} {a : Nat} {A : Nat → Nat} (h : tst A) (hx : tx ch a (pSum A)) (hn : dB (ch (a + (pSum A).length)) = false) : rTest ch a = .inr (A 2, A 3, A 4, a + (pSum A).length) := by
  obtain ⟨h1, h2, h3⟩ := h
  have b := tB_n h2
  rw [pSum_2 b.1] at hx hn ⊢
  have hx := (tx_app _ _ _).mp hx
  rw [List.length_append, List.length_cons] at hn ⊢
  have g := hx.2.1
  have e1 := rTerm_p h1 hx.1 (by rw [g]; exact b.2.1)
  have e2 := rTerm_p h3 hx.2.2 (by rw [show a + (pTerm (A 2)).length + 1 + (pTerm (A 4)).length = a + ((pTerm (A 2)).length + ((pTerm (A 4)).length + 1)) by omega]; exact hn)
  unfold rTest
  rw [e1]
  dsimp only
  rw [g, if_pos h2, e2]
  dsimp only
  rw [show a + (pTerm (A 2)).length + 1 + (pTerm (A 4)).length = a + ((pTerm (A 2)).length + ((pTerm (A 4)).length + 1)) by omega]
/-- what stands behind a statement -/
def stC (c : Nat) : Prop := c = 59 ∨ c = 124 ∨ c = 58 ∨ c = 70000
theorem stC.n {c : Nat} (h : stC c) : dB c = false ∧ sB c = false := by
  unfold stC at h
  exact ⟨decide_eq_false (by omega), decide_eq_false (by omega)⟩
theorem vT_n {v : Nat} {t : Nat} (h : t = vT v) (hv : v < 8) : 1000 ≤ t := by
  unfold vT at h
  omega
theorem piece_s {a : Nat → Nat} (h : a 0 = 43 ∨ a 0 = 45 ∨ a 0 = 94 ∨ a 0 = 126) : piece a = (97 + a 1) :: a 0 :: pSum a := by
  unfold piece
  rw [if_neg (by omega), if_neg (by omega), if_neg (by omega), if_neg (by omega), if_neg (by omega)]
theorem rStm_p {row : Nat → Nat → PS → PR} {ch : Nat → Nat} {op a k : Nat} {y : Nat → Nat → Nat} {A : Nat → Nat} (h : sOk A) (hx : tx ch a (piece A)) (hn : stC (ch (a + (piece A).length))) : ∃ z, rStm row ch op (a, k, y) = .inr (a + (piece A).length, k + 1, adA y k z) ∧ ∀ q, q < 8 → z q = A q := by
  obtain ⟨h, l5, l6, l7⟩ := h
  have hn := hn.n
  unfold rStm
  dsimp only
  rcases h with ⟨h0, h1, h2, h3, h4⟩ | ⟨h0, h1, h2, h3, h4⟩ | ⟨h0, h1, ⟨v, hv, hvn, h2⟩, h3, h4⟩ | ⟨h0, h1, h2, h2n, h3⟩
  · have hp : piece A = [A 0, 97 + A 1] := by
      unfold piece
      rw [if_neg (by omega), if_neg (by omega), if_neg (by omega), if_pos (by omega)]
    rw [hp] at hx ⊢
    have g := hx.1
    have g2 := hx.2.1
    rw [if_neg (vBf (by omega)), if_pos (by omega), if_pos (vBt (by omega)), g2, show 97 + A 1 - 97 = A 1 by omega, g]
    exact ⟨_, rfl, q8 rfl rfl h2.symm h3.symm h4.symm l5.symm l6.symm l7.symm⟩
  · have hp : piece A = [A 0, 48 + A 1] := by
      unfold piece
      rw [if_neg (by omega), if_neg (by omega), if_neg (by omega), if_neg (by omega), if_pos (by omega)]
    rw [hp] at hx ⊢
    have g := hx.1
    have g2 := hx.2.1
    rw [if_neg (vBf (by omega)), if_neg (by omega), if_pos (by omega), if_pos (by omega), g2, show 48 + A 1 - 48 = A 1 by omega, g]
    exact ⟨_, rfl, q8 rfl rfl h2.symm h3.symm h4.symm l5.symm l6.symm l7.symm⟩
  · have hp : piece A = [97 + A 1, 126, 97 + v] := by rw [piece_s (by omega), pSum_1 h3, h2, pTerm_v hv, h0]
    rw [hp] at hx ⊢
    have g := hx.1
    have g2 : ch (a + 1) = 126 := hx.2.1
    have g3 : ch (a + 2) = 97 + v := hx.2.2.1
    rw [if_pos (vBt (by omega))]
    unfold rChg
    dsimp only
    rw [g2, if_pos (by decide), if_pos rfl, g3, if_pos (vBt (by omega)), g, if_neg (by omega), show 97 + A 1 - 97 = A 1 by omega, show 97 + v - 97 = v by omega]
    exact ⟨_, rfl, q8 h0.symm rfl h2.symm h3.symm h4.symm l5.symm l6.symm l7.symm⟩
  · have hp : piece A = (97 + A 1) :: A 0 :: pSum A := piece_s (by omega)
    rw [hp] at hx hn ⊢
    have g := hx.1
    have g2 := hx.2.1
    have hx3 : tx ch (a + 2) (pSum A) := hx.2.2
    rw [List.length_cons, List.length_cons] at hn ⊢
    rw [if_pos (vBt (by omega))]
    unfold rChg
    dsimp only
    rw [g2, if_pos (oBt (by omega)), if_neg (by omega), g, show 97 + A 1 - 97 = A 1 by omega]
    rcases h3 with ⟨h3, h4⟩ | ⟨h3, h4, h4n⟩
    · rw [pSum_1 h3] at hx3 hn ⊢
      rw [show a + ((pTerm (A 2)).length + 1 + 1) = a + 2 + (pTerm (A 2)).length by omega] at hn ⊢
      rw [rTerm_p h2 hx3 hn.1]
      dsimp only
      rw [if_neg (by rw [hn.2]; decide), if_neg h2n]
      exact ⟨_, rfl, q8 rfl rfl rfl h3.symm h4.symm l5.symm l6.symm l7.symm⟩
    · have b := sB_n h3
      rw [pSum_2 b.1] at hx3 hn ⊢
      have hx3 := (tx_app _ _ _).mp hx3
      have g3 := hx3.2.1
      rw [List.length_append, List.length_cons] at hn ⊢
      rw [show a + ((pTerm (A 2)).length + ((pTerm (A 4)).length + 1) + 1 + 1) = a + 2 + (pTerm (A 2)).length + 1 + (pTerm (A 4)).length by omega] at hn ⊢
      rw [rTerm_p h2 hx3.1 (by rw [g3]; exact b.2)]
      dsimp only
      rw [g3, if_pos h3, rTerm_p h4 hx3.2.2 hn.1]
      dsimp only
      rw [if_neg (fun q => q.elim h2n h4n)]
      exact ⟨_, rfl, q8 rfl rfl rfl rfl rfl l5.symm l6.symm l7.symm⟩
theorem pFl_1 {x : Nat → Nat → Nat} : ∀ (n k : Nat), n ≤ (pFl x n k).length
  | 0, _ => Nat.zero_le _
  | 1, k => by
    show 1 ≤ (piece (x k)).length
    unfold piece
    split
    · rw [List.length_cons]; omega
    · split
      · exact Nat.le_refl 1
      · split
        · rw [List.length_cons]; omega
        · split
          · exact Nat.le_add_left 1 1
          · split
            · exact Nat.le_add_left 1 1
            · rw [List.length_cons]; omega
  | n + 2, k => by
    have h1 : 1 ≤ (piece (x k)).length := pFl_1 (x := x) 1 k
    have h2 := pFl_1 (x := x) (n + 1) (k + 1)
    rw [pFl, List.length_append, List.length_append]
    omega
/-- what a reading of some acts' text gives: these acts, those before as they were -/
def rdO (x y : Nat → Nat → Nat) (k k' a' : Nat) (r : PR) : Prop := ∃ y', r = .inr (a', k', y') ∧ (∀ j, k ≤ j → j < k' → ∀ q, q < 8 → y' j q = x j q) ∧ ∀ j, j < k → y' j = y j
theorem lkA_at (x : Nat → Nat → Nat) {k m e j : Nat} (h : j = k ∨ j = m ∨ j = e) {A : Nat → Nat} (hl : lnk A k m e) (h5 : ∀ q, q < 5 → x j q = A q) : ∀ q, q < 8 → lkA x k m e j q = A q := fun q hq => by
  unfold lkA
  rw [if_pos h]
  by_cases q5 : q = 5
  · rw [if_pos q5, q5, hl.1]
  · rw [if_neg q5]
    by_cases q6 : q = 6
    · rw [if_pos q6, q6, hl.2.1]
    · rw [if_neg q6]
      by_cases q7 : q = 7
      · rw [if_pos q7, q7, hl.2.2]
      · rw [if_neg q7]
        exact h5 q (by omega)
theorem lkA_n (x : Nat → Nat → Nat) {k m e j : Nat} (h : ¬ (j = k ∨ j = m ∨ j = e)) : lkA x k m e j = x j := funext fun q => if_neg h
theorem adA_at {a : Nat → Nat → Nat} {k : Nat} {x : Nat → Nat} : adA a k x k = x := if_pos rfl
theorem adA_n {a : Nat → Nat → Nat} {k j : Nat} {x : Nat → Nat} (h : j ≠ k) : adA a k x j = a j := if_neg h
theorem q5' {P : Nat → Prop} (h0 : P 0) (h1 : P 1) (h2 : P 2) (h3 : P 3) (h4 : P 4) : ∀ q, q < 5 → P q := fun q hq => by
  obtain rfl | rfl | rfl | rfl | rfl : q = 0 ∨ q = 1 ∨ q = 2 ∨ q = 3 ∨ q = 4 := by omega
  all_goals assumption
theorem rBrk_p {row : Nat → Nat → PS → PR} {ch : Nat → Nat} {x y : Nat → Nat → Nat} {op a k m e bc mc ec : Nat} (hop : op < 6) (hb : bOk x k m e) (h1 : k < m) (h2 : m < e) (q0 : x k 0 = bc) (qm : x m 0 = mc) (qe : x e 0 = ec)
    (hr : ∀ (en l l' a : Nat) (y : Nat → Nat → Nat), (en = 124 ∧ l = k + 1 ∧ l' = m ∨ en = 58 ∧ l = m + 1 ∧ l' = e) → tx ch a (pFl x (l' - l) l) → ch (a + (pFl x (l' - l) l).length) = en → (pFl x (l' - l) l).length ≤ 60 → rdO x y l l' (a + (pFl x (l' - l) l).length) (row en (op + 1) (a, l, y)))
    (hx : tx ch a (pFl x (e + 1 - k) k)) (hlen : (pFl x (e + 1 - k) k).length ≤ 60) : rdO x y k (e + 1) (a + (pFl x (e + 1 - k) k).length) (rBrk row ch bc mc ec op (a, k, y)) := by
  rw [pFl_br hb h1 h2] at hx hlen ⊢
  obtain ⟨b0, t1, t2, b4, b5, b6, l1, l2, l3⟩ := hb
  rw [q0] at hx hlen ⊢
  rw [qe] at hx hlen ⊢
  have hx := (tx_app _ _ _).mp hx
  have x1 := (tx_app _ _ _).mp hx.1.2
  have x2 := (tx_app _ _ _).mp hx.2
  have x3 := (tx_app _ _ _).mp x2.2.2
  have x4 := (tx_app _ _ _).mp x3.2.2
  simp only [List.length_append, List.length_cons, List.length_nil] at x1 x2 x3 x4 hlen ⊢
  generalize hn1 : (pSum (x k)).length = n1 at *
  generalize hn2 : (pFl x (m - (k + 1)) (k + 1)).length = n2 at *
  generalize hn3 : (pFl x (e - (m + 1)) (m + 1)).length = n3 at *
  generalize hn4 : (pSum (x e)).length = n4 at *
  have c1 : ch (a + 1 + n1) = 58 := x1.2.1
  have c2 : ch (a + (n1 + (0 + 1) + 1) + n2) = 124 := x2.2.1
  have c3 : ch (a + (n1 + (0 + 1) + 1) + n2 + 1 + n3) = 58 := x3.2.1
  have c4 : ch (a + (n1 + (0 + 1) + 1) + n2 + 1 + n3 + 1 + n4) = ec := x4.2.1
  have r1 := rTest_p t1 x1.1 (by rw [hn1, c1]; decide)
  rw [hn1] at r1
  unfold rBrk
  dsimp only
  rw [if_neg (by omega), r1]
  dsimp only
  rw [if_pos c1]
  have x2a := x2.1
  rw [show a + (n1 + (0 + 1) + 1) = a + 1 + n1 + 1 by omega] at x2a c2
  obtain ⟨y1, e1, e1a, e1b⟩ := hr 124 (k + 1) m (a + 1 + n1 + 1) (adA y k (ac bc 0 (x k 2) (x k 3) (x k 4) 0 0 0)) (Or.inl ⟨rfl, rfl, rfl⟩) x2a (by rw [hn2]; exact c2) (by rw [hn2]; omega)
  rw [e1, hn2]
  dsimp only
  have x3a := x3.1
  rw [show a + (n1 + (0 + 1) + 1) + n2 + 1 = a + 1 + n1 + 1 + n2 + 1 by omega] at x3a c3
  obtain ⟨y2, e2, e2a, e2b⟩ := hr 58 (m + 1) e (a + 1 + n1 + 1 + n2 + 1) (adA y1 m (ac mc 0 0 32 0 0 0 0)) (Or.inr ⟨rfl, rfl, rfl⟩) x3a (by rw [hn3]; exact c3) (by rw [hn3]; omega)
  rw [e2, hn3]
  dsimp only
  have x4a := x4.1
  rw [show a + (n1 + (0 + 1) + 1) + n2 + 1 + n3 + 1 = a + 1 + n1 + 1 + n2 + 1 + n3 + 1 by omega] at x4a c4
  have r4 := rTest_p t2 x4a (by rw [hn4, c4]; exact decide_eq_false (by omega))
  rw [hn4] at r4
  rw [r4]
  dsimp only
  rw [if_pos c4]
  refine ⟨lkA (adA y2 e (ac ec 0 (x e 2) (x e 3) (x e 4) 0 0 0)) k m e, ?_, ?_, ?_⟩
  · rw [show a + 1 + n1 + 1 + n2 + 1 + n3 + 1 + n4 + 1 = a + (n1 + (0 + 1) + 1 + (n2 + (n3 + (n4 + (0 + 1) + 1) + 1))) by omega]
  · intro j g1 g2
    by_cases j1 : j = k
    · rw [j1]
      refine lkA_at _ (Or.inl rfl) l1 ?_
      rw [adA_n (by omega), e2b k (by omega), adA_n (by omega), e1b k (by omega), adA_at]
      exact q5' q0.symm b4.symm rfl rfl rfl
    · by_cases j2 : j = m
      · rw [j2]
        refine lkA_at _ (Or.inr (Or.inl rfl)) l2 ?_
        rw [adA_n (by omega), e2b m (by omega), adA_at]
        exact q5' qm.symm b6.1.symm b6.2.1.symm b6.2.2.1.symm b6.2.2.2.symm
      · by_cases j3 : j = e
        · rw [j3]
          refine lkA_at _ (Or.inr (Or.inr rfl)) l3 ?_
          rw [adA_at]
          exact q5' qe.symm b5.symm rfl rfl rfl
        · rw [lkA_n _ (by omega), adA_n j3]
          by_cases j4 : j < m
          · rw [e2b j (by omega), adA_n j2]
            exact e1a j (by omega) j4
          · exact e2a j (by omega) (by omega)
  · intro j hj
    rw [lkA_n _ (by omega), adA_n (by omega), e2b j (by omega), adA_n (by omega), e1b j (by omega), adA_n (by omega)]
theorem rdO.tr {x y y1 : Nat → Nat → Nat} {k k1 k' a' : Nat} {r : PR} (h1 : k ≤ k1) (hk : k1 ≤ k') (ha : ∀ j, k ≤ j → j < k1 → ∀ q, q < 8 → y1 j q = x j q) (hb : ∀ j, j < k → y1 j = y j) : rdO x y1 k1 k' a' r → rdO x y k k' a' r
  | ⟨y', e, f, g⟩ => ⟨y', e, fun j g1 g2 => by
      by_cases q : j < k1
      · rw [g j q]
        exact ha j g1 q
      · exact f j (by omega) g2, fun j hj => (g j (by omega)).trans (hb j hj)⟩
theorem rLp_p {st : PS → PR} {ch : Nat → Nat} {x : Nat → Nat → Nat} {d en : Nat} (hen : en = 124 ∨ en = 58 ∨ en = 70000) (hst : ∀ (a b at_ : Nat) (y : Nat → Nat → Nat), tPt x d a b → tx ch at_ (pFl x (b - a) a) → stC (ch (at_ + (pFl x (b - a) a).length)) → (pFl x (b - a) a).length ≤ 60 → rdO x y a b (at_ + (pFl x (b - a) a).length) (st (at_, a, y))) :
    ∀ (c i : Nat) (ks : Nat → Nat) (at_ : Nat) (y : Nat → Nat → Nat), (∀ j, j < c + 1 → tPt x d (ks j) (ks (j + 1))) → tx ch at_ (pFl x (ks (c + 1) - ks 0) (ks 0)) → ch (at_ + (pFl x (ks (c + 1) - ks 0) (ks 0)).length) = en → (pFl x (ks (c + 1) - ks 0) (ks 0)).length ≤ i → i ≤ 60 → rdO x y (ks 0) (ks (c + 1)) (at_ + (pFl x (ks (c + 1) - ks 0) (ks 0)).length) (rLp st ch en i (at_, ks 0, y))
  | 0, i, ks, at_, y, hj, hx, he, hi, hi2 => by
    have t : tPt x d (ks 0) (ks 1) := hj 0 (by omega)
    have hl := tPt.lt _ _ _ t
    rw [Nat.zero_add] at hx he hi ⊢
    have := pFl_1 (x := x) (ks 1 - ks 0) (ks 0)
    obtain ⟨i, rfl⟩ : ∃ i', i = i' + 1 := ⟨i - 1, by omega⟩
    obtain ⟨y', e, f, g⟩ := hst (ks 0) (ks 1) at_ y t hx (by rw [he]; unfold stC; omega) (by omega)
    rw [rLp, e]
    dsimp only
    rw [if_pos he]
    exact ⟨y', rfl, f, g⟩
  | c + 1, i, ks, at_, y, hj, hx, he, hi, hi2 => by
    have t : tPt x d (ks 0) (ks 1) := hj 0 (by omega)
    have hl := tPt.lt _ _ _ t
    have hm := ks_mono (fun a b => tPt.lt d a b) hj (c + 1) 1 (by omega)
    rw [show 1 + (c + 1) = c + 1 + 1 by omega] at hm
    rw [pFl_st t (by omega) (hj 1 (by omega)).be.1] at hx he hi ⊢
    have hx := (tx_app _ _ _).mp hx
    rw [List.length_append, List.length_cons] at he hi ⊢
    have := pFl_1 (x := x) (ks 1 - ks 0) (ks 0)
    have c59 := hx.2.1
    obtain ⟨i, rfl⟩ : ∃ i', i = i' + 1 := ⟨i - 1, by omega⟩
    obtain ⟨y1, e, f, g⟩ := hst (ks 0) (ks 1) at_ y t hx.1 (Or.inl c59) (by omega)
    rw [show at_ + ((pFl x (ks 1 - ks 0) (ks 0)).length + ((pFl x (ks (c + 1 + 1) - ks 1) (ks 1)).length + 1)) = at_ + (pFl x (ks 1 - ks 0) (ks 0)).length + 1 + (pFl x (ks (c + 1 + 1) - ks 1) (ks 1)).length by omega] at he ⊢
    have ih := rLp_p hen hst c i (fun j => ks (j + 1)) (at_ + (pFl x (ks 1 - ks 0) (ks 0)).length + 1) y1 (fun j h => hj (j + 1) (by omega)) hx.2.2 he (by show (pFl x (ks (c + 1 + 1) - ks 1) (ks 1)).length ≤ i; omega) (by omega)
    rw [rLp, e]
    dsimp only
    rw [c59, if_neg (by omega), if_pos rfl]
    exact ih.tr (by omega) (by omega) f g
theorem piece_h {x : Nat → Nat → Nat} {d a b : Nat} (t : tPt x d a b) : ∃ c l, piece (x a) = c :: l ∧ c ≠ 124 ∧ c ≠ 58 ∧ c < 1000 := by
  have hs : sOk (x a) → ∃ c l, piece (x a) = c :: l ∧ c ≠ 124 ∧ c ≠ 58 ∧ c < 1000 := fun h => by
    rcases h.1 with ⟨h0, h1, _⟩ | ⟨h0, h1, _⟩ | ⟨h0, h1, _⟩ | ⟨h0, h1, _⟩
    · exact ⟨_, [97 + x a 1], by unfold piece; rw [if_neg (by omega), if_neg (by omega), if_neg (by omega), if_pos (by omega)], by omega, by omega, by omega⟩
    · exact ⟨_, [48 + x a 1], by unfold piece; rw [if_neg (by omega), if_neg (by omega), if_neg (by omega), if_neg (by omega), if_pos (by omega)], by omega, by omega, by omega⟩
    · exact ⟨_, _, piece_s (by omega), by omega, by omega, by omega⟩
    · exact ⟨_, _, piece_s (by omega), by omega, by omega, by omega⟩
  cases d with
  | zero => exact hs t.1
  | succ d =>
    rcases t with t | ⟨m, e, h1, h2, _, _⟩
    · exact hs t.1
    · have b := h2.1
      exact ⟨_, _, h2.o.2.2, by omega, by omega, by omega⟩
theorem pFl_hd {x : Nat → Nat → Nat} {n k : Nat} (h : 0 < n) : ∃ r, pFl x n k = piece (x k) ++ r := by
  obtain ⟨n, rfl⟩ : ∃ m, n = m + 1 := ⟨n - 1, by omega⟩
  cases n with
  | zero => exact ⟨[], (List.append_nil _).symm⟩
  | succ n => exact ⟨_, rfl⟩
theorem tx_hd {ch : Nat → Nat} {x : Nat → Nat → Nat} {d a b n at_ : Nat} (t : tPt x d a b) (hn : 0 < n) (hx : tx ch at_ (pFl x n a)) : ch at_ ≠ 124 ∧ ch at_ ≠ 58 ∧ ch at_ < 1000 := by
  obtain ⟨r, e⟩ := pFl_hd (x := x) (k := a) hn
  obtain ⟨c, l, e2, h⟩ := piece_h t
  rw [e, e2] at hx
  have : ch at_ = c := hx.1
  omega
theorem rStm_b1 {row : Nat → Nat → PS → PR} {ch : Nat → Nat} {op : Nat} {s : PS} (h : ch s.1 = 91) : rStm row ch op s = rBrk row ch 91 124 93 op s := by
  unfold rStm
  rw [h, if_neg (by decide), if_neg (by decide), if_neg (by decide), if_pos rfl]
theorem rStm_b2 {row : Nat → Nat → PS → PR} {ch : Nat → Nat} {op : Nat} {s : PS} (h : ch s.1 = 123) : rStm row ch op s = rBrk row ch 123 47 125 op s := by
  unfold rStm
  rw [h, if_neg (by decide), if_neg (by decide), if_neg (by decide), if_neg (by decide), if_pos rfl]
theorem rdO.s {x y : Nat → Nat → Nat} {a a' : Nat} {r : PR} (h : ∃ z, r = .inr (a', a + 1, adA y a z) ∧ ∀ q, q < 8 → z q = x a q) : rdO x y a (a + 1) a' r := by
  obtain ⟨z, e, hz⟩ := h
  exact ⟨_, e, fun j g1 g2 => by
    rw [show j = a by omega, adA_at]
    exact hz, fun j hj => adA_n (by omega)⟩
theorem rRw_p {ch : Nat → Nat} {x : Nat → Nat → Nat} : ∀ (d en k k' at_ : Nat) (y : Nat → Nat → Nat), d ≤ 6 → (en = 124 ∨ en = 58 ∨ en = 70000) → tRow x d k k' → tx ch at_ (pFl x (k' - k) k) → ch (at_ + (pFl x (k' - k) k).length) = en → (pFl x (k' - k) k).length ≤ 60 → rdO x y k k' (at_ + (pFl x (k' - k) k).length) (rRw ch (d + 2) en (6 - d) (at_, k, y))
  | d, en, k, k', at_, y, hd, hen, ht, hx, he, hl => by
    obtain ⟨c, ks, h0, hc, hj⟩ := ht
    rw [rRw]
    dsimp only
    cases c with
    | zero =>
      obtain rfl : k = k' := h0.symm.trans hc
      rw [Nat.sub_self] at he ⊢
      have he : ch at_ = en := he
      rw [if_pos he]
      exact ⟨y, rfl, fun j g1 g2 => by omega, fun j _ => rfl⟩
    | succ c =>
      have hm := ks_mono (fun a b => tPt.lt d a b) hj (c + 1) 0 (by omega)
      rw [Nat.zero_add] at hm
      have t0 := hj 0 (by omega)
      rw [h0] at t0
      have q := tx_hd t0 (by omega) hx
      rw [if_neg (by omega)]
      rw [← h0, ← hc] at hx he hl ⊢
      refine rLp_p hen ?_ c 60 ks at_ y hj hx he hl (Nat.le_refl _)
      intro a b at1 y1 t1 x1 s1 l1
      have hS : sOk (x a) ∧ b = a + 1 → rdO x y1 a b (at1 + (pFl x (b - a) a).length) (rStm (rRw ch (d + 1)) ch (6 - d) (at1, a, y1)) := fun h => by
        obtain ⟨h, rfl⟩ := h
        rw [show a + 1 - a = 1 by omega] at x1 s1 ⊢
        exact rdO.s (rStm_p h x1 s1)
      cases d with
      | zero => exact hS t1
      | succ d =>
        rcases t1 with t1 | ⟨m, e, rfl, hb, r1, r2⟩
        · exact hS t1
        · have ls := tPt.lts rfl r1 r2
          have hr : ∀ (en l l' a1 : Nat) (y : Nat → Nat → Nat), (en = 124 ∧ l = a + 1 ∧ l' = m ∨ en = 58 ∧ l = m + 1 ∧ l' = e) → tx ch a1 (pFl x (l' - l) l) → ch (a1 + (pFl x (l' - l) l).length) = en → (pFl x (l' - l) l).length ≤ 60 → rdO x y l l' (a1 + (pFl x (l' - l) l).length) (rRw ch (d + 1 + 1) en (6 - (d + 1) + 1) (a1, l, y)) := fun en l l' a1 y hc q1 q2 q3 => by
            rw [show 6 - (d + 1) + 1 = 6 - d by omega]
            rcases hc with ⟨rfl, rfl, rfl⟩ | ⟨rfl, rfl, rfl⟩
            · exact rRw_p d 124 (a + 1) l' a1 y (by omega) (Or.inl rfl) r1 q1 q2 q3
            · exact rRw_p d 58 (m + 1) l' a1 y (by omega) (Or.inr (Or.inl rfl)) r2 q1 q2 q3
          have hd1 : ch at1 = x a 0 := by
            obtain ⟨r, e1⟩ := pFl_hd (x := x) (k := a) (n := e + 1 - a) (by omega)
            rw [e1, hb.o.2.2] at x1
            exact x1.1
          rcases hb.1 with ⟨q0, qm, qe⟩ | ⟨q0, qm, qe⟩
          · rw [rStm_b1 (hd1.trans q0)]
            exact rBrk_p (by omega) hb ls.1 ls.2.1 q0 qm qe hr x1 l1
          · rw [rStm_b2 (hd1.trans q0)]
            exact rBrk_p (by omega) hb ls.1 ls.2.1 q0 qm qe hr x1 l1
/-! what a reading leaves is a row of statements whose text is no longer than what was read -/
theorem piece_cg {a b : Nat → Nat} (h : ∀ q, q < 8 → a q = b q) : piece a = piece b := by
  unfold piece pSum
  rw [h 0 (by decide), h 1 (by decide), h 2 (by decide), h 3 (by decide), h 4 (by decide)]
theorem isB_cg {a b : Nat → Nat} (h : ∀ q, q < 8 → a q = b q) : isB a = isB b := by
  unfold isB
  rw [h 0 (by decide)]
theorem isE_cg {a b : Nat → Nat} (h : ∀ q, q < 8 → a q = b q) : isE a = isE b := by
  unfold isE
  rw [h 0 (by decide)]
theorem spc_cg {a b c d : Nat → Nat} (h : ∀ q, q < 8 → a q = b q) (g : ∀ q, q < 8 → c q = d q) : spc a c = spc b d := by
  unfold spc
  rw [isE_cg h, isB_cg g]
theorem pFl_cg {x y : Nat → Nat → Nat} : ∀ (n k : Nat), (∀ j, k ≤ j → j < k + n → ∀ q, q < 8 → x j q = y j q) → pFl x n k = pFl y n k
  | 0, _, _ => rfl
  | 1, k, h => piece_cg (h k (Nat.le_refl k) (by omega))
  | n + 2, k, h => by
    rw [pFl, pFl, piece_cg (h k (Nat.le_refl k) (by omega)), spc_cg (h k (Nat.le_refl k) (by omega)) (h (k + 1) (by omega) (by omega)), pFl_cg (n + 1) (k + 1) (fun j g1 g2 => h j (by omega) (by omega))]
theorem rNum_d {ch : Nat → Nat} : ∀ (d a t : Nat), a ≤ (rNum ch d a t).2 ∧ (rNum ch d a t).2 ≤ a + d ∧ (rNum ch d a t).1 + 1 ≤ (t + 1) * 10 ^ ((rNum ch d a t).2 - a)
  | 0, a, t => ⟨Nat.le_refl a, Nat.le_refl a, by show t + 1 ≤ (t + 1) * 10 ^ (a - a); rw [Nat.sub_self]; omega⟩
  | d + 1, a, t => by
    rw [rNum]
    split
    · rename_i q
      have q := dB_lt q
      have ih := rNum_d (ch := ch) d (a + 1) (10 * t + (ch a - 48))
      refine ⟨by omega, by omega, Nat.le_trans ih.2.2 ?_⟩
      rw [show (rNum ch d (a + 1) (10 * t + (ch a - 48))).2 - a = (rNum ch d (a + 1) (10 * t + (ch a - 48))).2 - (a + 1) + 1 by omega, Nat.pow_succ, Nat.mul_comm (10 ^ _) 10, ← Nat.mul_assoc]
      exact Nat.mul_le_mul_right _ (by omega)
    · exact ⟨Nat.le_refl a, by show a ≤ a + (d + 1); omega, by show t + 1 ≤ (t + 1) * 10 ^ (a - a); rw [Nat.sub_self]; omega⟩
theorem rTerm_t {ch : Nat → Nat} {a t a1 : Nat} (e : rTerm ch a = .inr (t, a1)) : okTm t ∧ a + (pTerm t).length ≤ a1 := by
  unfold rTerm at e
  split at e
  · rename_i q
    have q := vB_lt q
    have e := Prod.mk.inj (Sum.inr.inj e)
    rw [← e.1, ← e.2, pTerm_v (by omega)]
    exact ⟨Or.inr ⟨ch a - 97, by omega, rfl⟩, Nat.le_refl _⟩
  · split at e
    · rename_i q
      have h3 : rNum ch 3 a 0 = rNum ch 2 (a + 1) (10 * 0 + (ch a - 48)) := if_pos q
      have q := dB_lt q
      have e := Sum.inr.inj e
      rw [h3] at e
      have b := rNum_d (ch := ch) 2 (a + 1) (10 * 0 + (ch a - 48))
      have b3 := rNum_d (ch := ch) 3 a 0
      rw [h3] at b3
      rw [e] at b b3
      dsimp only at b b3
      have hc : a1 = a + 1 ∨ a1 = a + 2 ∨ a1 = a + 3 := by omega
      rcases hc with rfl | rfl | rfl
      · rw [show a + 1 - a = 1 by omega] at b3
        have h := b3.2.2
        rw [pTerm_n (by omega), pNum_1 (by omega)]
        exact ⟨Or.inl (by omega), Nat.le_refl _⟩
      · rw [show a + 2 - a = 2 by omega] at b3
        have h := b3.2.2
        rw [pTerm_n (by omega)]
        refine ⟨Or.inl (by omega), ?_⟩
        by_cases g : t < 10
        · rw [pNum_1 g]
          show a + 1 ≤ a + 2
          omega
        · rw [pNum_2 (by omega) (by omega)]
          exact Nat.le_refl _
      · rw [show a + 3 - a = 3 by omega] at b3
        have h := b3.2.2
        rw [pTerm_n (by omega)]
        refine ⟨Or.inl (by omega), ?_⟩
        by_cases g : t < 10
        · rw [pNum_1 g]
          show a + 1 ≤ a + 3
          omega
        · by_cases g2 : t < 100
          · rw [pNum_2 (by omega) (by omega)]
            show a + 2 ≤ a + 3
            omega
          · rw [pNum_3 (by omega) (by omega)]
            exact Nat.le_refl _
    · cases e
theorem rTest_t {ch : Nat → Nat} {a t o u a1 : Nat} (e : rTest ch a = .inr (t, o, u, a1)) : okTm t ∧ tB o = true ∧ okTm u ∧ a + (pTerm t).length + 1 + (pTerm u).length ≤ a1 := by
  unfold rTest at e
  split at e
  · cases e
  · rename_i t' b1 e1
    have h1 := rTerm_t e1
    split at e
    · rename_i q
      split at e
      · cases e
      · rename_i u' b2 e2
        have h2 := rTerm_t e2
        have e := Prod.mk.inj (Sum.inr.inj e)
        have e3 := Prod.mk.inj e.2
        have e4 := Prod.mk.inj e3.2
        rw [← e.1, ← e3.1, ← e4.1, ← e4.2]
        exact ⟨h1.1, q, h2.1, by omega⟩
    · cases e
/-- a statement read: a part, and no longer than the text -/
def okSt (d : Nat) (s : PS) (r : PR) : Prop := ∀ s', r = .inr s' → tPt s'.2.2 d s.2.1 s'.2.1 ∧ s.1 + (pFl s'.2.2 (s'.2.1 - s.2.1) s.2.1).length ≤ s'.1 ∧ ∀ j, j < s.2.1 → s'.2.2 j = s.2.2 j
theorem tPt.s {x : Nat → Nat → Nat} {d a : Nat} (h : sOk (x a)) : tPt x d a (a + 1) := by
  cases d with
  | zero => exact ⟨h, rfl⟩
  | succ d => exact Or.inl ⟨h, rfl⟩
theorem okSt.s {d at_ k a' : Nat} {y : Nat → Nat → Nat} {z : Nat → Nat} (h : sOk z) (hl : at_ + (piece z).length ≤ a') : okSt d (at_, k, y) (.inr (a', k + 1, adA y k z)) := fun s' e => by
  rw [← Sum.inr.inj e]
  dsimp only
  refine ⟨tPt.s (by rw [adA_at]; exact h), ?_, fun j hj => adA_n (by omega)⟩
  rw [show k + 1 - k = 1 by omega, show pFl (adA y k z) 1 k = piece (adA y k z k) from rfl, adA_at]
  exact hl
theorem rChg_t {ch : Nat → Nat} {d : Nat} {s : PS} (hv : vB (ch s.1) = true) : okSt d s (rChg ch s) := by
  obtain ⟨a, k, y⟩ := s
  have hv := vB_lt hv
  dsimp only at hv
  unfold rChg
  dsimp only
  by_cases q0 : oB (ch (a + 1)) = true
  · rw [if_pos q0]
    have q0 := of_decide_eq_true q0
    by_cases q1 : ch (a + 1) = 126
    · rw [if_pos q1]
      by_cases q2 : vB (ch (a + 2)) = true
      · rw [if_pos q2]
        have q2 := vB_lt q2
        by_cases q3 : ch (a + 2) = ch a
        · rw [if_pos q3]
          exact fun s' e => by cases e
        · rw [if_neg q3]
          have hs : sOk (ac 126 (ch a - 97) (vT (ch (a + 2) - 97)) 32 0 0 0 0) := ⟨Or.inr (Or.inr (Or.inl ⟨rfl, by show ch a - 97 < 8; omega, ⟨ch (a + 2) - 97, by omega, by show ch (a + 2) - 97 ≠ ch a - 97; omega, rfl⟩, rfl, rfl⟩)), rfl, rfl, rfl⟩
          refine okSt.s hs ?_
          rw [piece_s (Or.inr (Or.inr (Or.inr rfl))), pSum_1 rfl, show ac 126 (ch a - 97) (vT (ch (a + 2) - 97)) 32 0 0 0 0 2 = vT (ch (a + 2) - 97) from rfl, pTerm_v (by omega)]
          exact Nat.le_refl _
      · rw [if_neg q2]
        exact fun s' e => by cases e
    · rw [if_neg q1]
      cases e1 : rTerm ch (a + 2) with
      | inl e => exact fun s' e => by cases e
      | inr p =>
        obtain ⟨t, a1⟩ := p
        have h1 := rTerm_t e1
        dsimp only
        by_cases q3 : sB (ch a1) = true
        · rw [if_pos q3]
          cases e2 : rTerm ch (a1 + 1) with
          | inl e => exact fun s' e => by cases e
          | inr p =>
            obtain ⟨u, a2⟩ := p
            have h2 := rTerm_t e2
            dsimp only
            by_cases q4 : t = vT (ch a - 97) ∨ u = vT (ch a - 97)
            · rw [if_pos q4]
              exact fun s' e => by cases e
            · rw [if_neg q4]
              refine okSt.s (z := ac (ch (a + 1)) (ch a - 97) t (ch a1) u 0 0 0) ⟨Or.inr (Or.inr (Or.inr ⟨by show ch (a + 1) = 43 ∨ ch (a + 1) = 45 ∨ ch (a + 1) = 94; omega, by show ch a - 97 < 8; omega, h1.1, fun e => q4 (Or.inl e), Or.inr ⟨q3, h2.1, fun e => q4 (Or.inr e)⟩⟩)), rfl, rfl, rfl⟩ ?_
              rw [piece_s (show ch (a + 1) = 43 ∨ ch (a + 1) = 45 ∨ ch (a + 1) = 94 ∨ ch (a + 1) = 126 by omega), pSum_2 (show ch a1 ≠ 32 from (sB_n q3).1)]
              simp only [List.length_cons, List.length_append]
              show a + ((pTerm t).length + ((pTerm u).length + 1) + 1 + 1) ≤ a2
              omega
        · rw [if_neg q3]
          by_cases q4 : t = vT (ch a - 97)
          · rw [if_pos q4]
            exact fun s' e => by cases e
          · rw [if_neg q4]
            refine okSt.s (z := ac (ch (a + 1)) (ch a - 97) t 32 0 0 0 0) ⟨Or.inr (Or.inr (Or.inr ⟨by show ch (a + 1) = 43 ∨ ch (a + 1) = 45 ∨ ch (a + 1) = 94; omega, by show ch a - 97 < 8; omega, h1.1, q4, Or.inl ⟨rfl, rfl⟩⟩)), rfl, rfl, rfl⟩ ?_
            rw [piece_s (show ch (a + 1) = 43 ∨ ch (a + 1) = 45 ∨ ch (a + 1) = 94 ∨ ch (a + 1) = 126 by omega), pSum_1 rfl]
            simp only [List.length_cons]
            show a + ((pTerm t).length + 1 + 1) ≤ a1
            omega
  · rw [if_neg q0]
    exact fun s' e => by cases e
/-- a row read -/
def okW (d : Nat) (s : PS) (r : PR) : Prop := ∀ s', r = .inr s' → tRow s'.2.2 d s.2.1 s'.2.1 ∧ s.1 + (pFl s'.2.2 (s'.2.1 - s.2.1) s.2.1).length ≤ s'.1 ∧ ∀ j, j < s.2.1 → s'.2.2 j = s.2.2 j
theorem rBrk_t {row : Nat → Nat → PS → PR} {ch : Nat → Nat} {d bc mc ec op : Nat} {s : PS} (hr : op < 6 → ∀ en s, okW d s (row en (op + 1) s)) (hc : bc = 91 ∧ mc = 124 ∧ ec = 93 ∨ bc = 123 ∧ mc = 47 ∧ ec = 125) : okSt (d + 1) s (rBrk row ch bc mc ec op s) := by
  obtain ⟨a, k, y⟩ := s
  intro s' hq
  unfold rBrk at hq
  dsimp only at hq
  split at hq
  · cases hq
  · split at hq
    · cases hq
    · rename_i g6 _ t o u a1 e1
      have h1 := rTest_t e1
      split at hq
      · rename_i q1
        split at hq
        · cases hq
        · rename_i a2 k2 x2 e2
          have h2 := hr (by omega) _ _ _ e2
          split at hq
          · cases hq
          · rename_i a3 k3 x3 e3
            have h3 := hr (by omega) _ _ _ e3
            split at hq
            · cases hq
            · rename_i t2 o2 u2 a4 e4
              have h4 := rTest_t e4
              split at hq
              · rw [← Sum.inr.inj hq]
                dsimp only at h2 h3 ⊢
                have l2 := tRow.le h2.1
                have l3 := tRow.le h3.1
                have c1 : ∀ j, j ≠ k → j ≠ k2 → j ≠ k3 → lkA (adA x3 k3 (ac ec 0 t2 o2 u2 0 0 0)) k k2 k3 j = x3 j := fun j p1 p2 p3 => by rw [lkA_n _ (by omega), adA_n p3]
                have r2 : ∀ j, k + 1 ≤ j → j < k2 → ∀ q, q < 8 → x2 j q = lkA (adA x3 k3 (ac ec 0 t2 o2 u2 0 0 0)) k k2 k3 j q := fun j p1 p2 q _ => by
                  rw [c1 j (by omega) (by omega) (by omega), h3.2.2 j (by omega), adA_n (by omega)]
                have r3 : ∀ j, k2 + 1 ≤ j → j < k3 → ∀ q, q < 8 → x3 j q = lkA (adA x3 k3 (ac ec 0 t2 o2 u2 0 0 0)) k k2 k3 j q := fun j p1 p2 q _ => by
                  rw [c1 j (by omega) (by omega) (by omega)]
                have hk : ∀ q, q < 8 → lkA (adA x3 k3 (ac ec 0 t2 o2 u2 0 0 0)) k k2 k3 k q = ac bc 0 t o u k k2 k3 q := lkA_at _ (Or.inl rfl) ⟨rfl, rfl, rfl⟩ (by
                  rw [adA_n (by omega), h3.2.2 k (by omega), adA_n (by omega), h2.2.2 k (by omega), adA_at]
                  exact q5' rfl rfl rfl rfl rfl)
                have hm : ∀ q, q < 8 → lkA (adA x3 k3 (ac ec 0 t2 o2 u2 0 0 0)) k k2 k3 k2 q = ac mc 0 0 32 0 k k2 k3 q := lkA_at _ (Or.inr (Or.inl rfl)) ⟨rfl, rfl, rfl⟩ (by
                  rw [adA_n (by omega), h3.2.2 k2 (by omega), adA_at]
                  exact q5' rfl rfl rfl rfl rfl)
                have he : ∀ q, q < 8 → lkA (adA x3 k3 (ac ec 0 t2 o2 u2 0 0 0)) k k2 k3 k3 q = ac ec 0 t2 o2 u2 k k2 k3 q := lkA_at _ (Or.inr (Or.inr rfl)) ⟨rfl, rfl, rfl⟩ (by
                  rw [adA_at]
                  exact q5' rfl rfl rfl rfl rfl)
                have hlt : ∀ j, j < k → lkA (adA x3 k3 (ac ec 0 t2 o2 u2 0 0 0)) k k2 k3 j = y j := fun j p => by
                  rw [c1 j (by omega) (by omega) (by omega), h3.2.2 j (by omega), adA_n (by omega), h2.2.2 j (by omega), adA_n (by omega)]
                clear c1
                generalize lkA (adA x3 k3 (ac ec 0 t2 o2 u2 0 0 0)) k k2 k3 = X at *
                have hb : bOk X k k2 k3 := by
                  refine ⟨?_, ⟨?_, ?_, ?_⟩, ⟨?_, ?_, ?_⟩, hk 1 (by decide), he 1 (by decide), ⟨hm 1 (by decide), hm 2 (by decide), hm 3 (by decide), hm 4 (by decide)⟩, ⟨hk 5 (by decide), hk 6 (by decide), hk 7 (by decide)⟩, ⟨hm 5 (by decide), hm 6 (by decide), hm 7 (by decide)⟩, ⟨he 5 (by decide), he 6 (by decide), he 7 (by decide)⟩⟩
                  · rw [hk 0 (by decide), hm 0 (by decide), he 0 (by decide)]
                    exact hc
                  · rw [hk 2 (by decide)]; exact h1.1
                  · rw [hk 3 (by decide)]; exact h1.2.1
                  · rw [hk 4 (by decide)]; exact h1.2.2.1
                  · rw [he 2 (by decide)]; exact h4.1
                  · rw [he 3 (by decide)]; exact h4.2.1
                  · rw [he 4 (by decide)]; exact h4.2.2.1
                refine ⟨Or.inr ⟨k2, k3, rfl, hb, tRow.cg r2 h2.1, tRow.cg r3 h3.1⟩, ?_, fun j hj => ?_⟩
                · rw [pFl_br hb (by omega) (by omega)]
                  have s2 : pFl X (k2 - (k + 1)) (k + 1) = pFl x2 (k2 - (k + 1)) (k + 1) := (pFl_cg _ _ (fun j p1 p2 => r2 j p1 (by omega))).symm
                  have s3 : pFl X (k3 - (k2 + 1)) (k2 + 1) = pFl x3 (k3 - (k2 + 1)) (k2 + 1) := (pFl_cg _ _ (fun j p1 p2 => r3 j p1 (by omega))).symm
                  rw [s2, s3]
                  have p1 : (pSum (X k)).length = (pTerm t).length + 1 + (pTerm u).length := by
                    rw [pSum_2 (by rw [hk 3 (by decide)]; exact (tB_n h1.2.1).1), hk 2 (by decide), hk 4 (by decide), List.length_append, List.length_cons]
                    show (pTerm t).length + ((pTerm u).length + 1) = _
                    omega
                  have p2 : (pSum (X k3)).length = (pTerm t2).length + 1 + (pTerm u2).length := by
                    rw [pSum_2 (by rw [he 3 (by decide)]; exact (tB_n h4.2.1).1), he 2 (by decide), he 4 (by decide), List.length_append, List.length_cons]
                    show (pTerm t2).length + ((pTerm u2).length + 1) = _
                    omega
                  simp only [List.length_append, List.length_cons, List.length_nil, p1, p2]
                  omega
                · exact hlt j hj
              · cases hq
      · cases hq
theorem seqP.cons {P : Nat → Nat → Prop} {k k1 k' : Nat} (hp : P k k1) : seqP P k1 k' → seqP P k k'
  | ⟨c, ks, h0, hc, hj⟩ => ⟨c + 1, fun j => if j = 0 then k else ks (j - 1), if_pos rfl, by show (if c + 1 = 0 then k else ks (c + 1 - 1)) = k'; rw [if_neg (by omega)]; exact hc, fun j hh => by
      show P (if j = 0 then k else ks (j - 1)) (if j + 1 = 0 then k else ks (j + 1 - 1))
      rw [if_neg (c := j + 1 = 0) (by omega), Nat.add_sub_cancel]
      by_cases q : j = 0
      · rw [if_pos q, q, h0]
        exact hp
      · rw [if_neg q]
        have := hj (j - 1) (by omega)
        rw [show j - 1 + 1 = j by omega] at this
        exact this⟩
theorem okSt.no {d : Nat} {s : PS} {e : Nat × Nat} : okSt d s (.inl e) := fun s' q => by cases q
theorem rStm_t {row : Nat → Nat → PS → PR} {ch : Nat → Nat} {d op : Nat} {s : PS} (hr : ∀ bc mc ec, bc = 91 ∧ mc = 124 ∧ ec = 93 ∨ bc = 123 ∧ mc = 47 ∧ ec = 125 → okSt d s (rBrk row ch bc mc ec op s)) : okSt d s (rStm row ch op s) := by
  unfold rStm
  by_cases c1 : vB (ch s.1) = true
  · rw [if_pos c1]
    exact rChg_t c1
  rw [if_neg c1]
  by_cases c2 : ch s.1 = 33 ∨ ch s.1 = 63
  · rw [if_pos c2]
    by_cases q : vB (ch (s.1 + 1)) = true
    · rw [if_pos q]
      have q := vB_lt q
      refine okSt.s (at_ := s.1) (k := s.2.1) (z := ac (ch s.1) (ch (s.1 + 1) - 97) 0 32 0 0 0 0) ⟨Or.inl ⟨c2, by show ch (s.1 + 1) - 97 < 8; omega, rfl, rfl, rfl⟩, rfl, rfl, rfl⟩ ?_
      unfold piece
      rw [show ac (ch s.1) (ch (s.1 + 1) - 97) 0 32 0 0 0 0 0 = ch s.1 from rfl, if_neg (by omega), if_neg (by omega), if_neg (by omega), if_pos c2]
      exact Nat.le_refl _
    · rw [if_neg q]
      exact okSt.no
  rw [if_neg c2]
  by_cases c3 : ch s.1 = 64 ∨ ch s.1 = 36
  · rw [if_pos c3]
    by_cases q : 48 ≤ ch (s.1 + 1) ∧ ch (s.1 + 1) ≤ 53
    · rw [if_pos q]
      refine okSt.s (at_ := s.1) (k := s.2.1) (z := ac (ch s.1) (ch (s.1 + 1) - 48) 0 32 0 0 0 0) ⟨Or.inr (Or.inl ⟨c3, by show ch (s.1 + 1) - 48 < 6; omega, rfl, rfl, rfl⟩), rfl, rfl, rfl⟩ ?_
      unfold piece
      rw [show ac (ch s.1) (ch (s.1 + 1) - 48) 0 32 0 0 0 0 0 = ch s.1 from rfl, if_neg (by omega), if_neg (by omega), if_neg (by omega), if_neg (by omega), if_pos c3]
      exact Nat.le_refl _
    · rw [if_neg q]
      exact okSt.no
  rw [if_neg c3]
  by_cases c4 : ch s.1 = 91
  · rw [if_pos c4]
    exact hr _ _ _ (Or.inl ⟨rfl, rfl, rfl⟩)
  rw [if_neg c4]
  by_cases c5 : ch s.1 = 123
  · rw [if_pos c5]
    exact hr _ _ _ (Or.inr ⟨rfl, rfl, rfl⟩)
  rw [if_neg c5]
  exact okSt.no
theorem rLp_t {st : PS → PR} {ch : Nat → Nat} {en d : Nat} (hst : ∀ s, okSt d s (st s)) : ∀ (i : Nat) (s s' : PS), rLp st ch en i s = .inr s' → (tRow s'.2.2 d s.2.1 s'.2.1 ∧ s.1 + (pFl s'.2.2 (s'.2.1 - s.2.1) s.2.1).length ≤ s'.1 ∧ ∀ j, j < s.2.1 → s'.2.2 j = s.2.2 j) ∧ s.2.1 < s'.2.1 ∧ isB (s'.2.2 s.2.1) = true
  | 0, s, s', h => by cases h
  | i + 1, s, s', h => by
    rw [rLp] at h
    cases hx : st s with
    | inl e => rw [hx] at h; cases h
    | inr s1 =>
      have h1 := hst s s1 hx
      rw [hx] at h
      dsimp only at h
      have hl := tPt.lt _ _ _ h1.1
      by_cases c1 : ch s1.1 = en
      · rw [if_pos c1] at h
        rw [← Sum.inr.inj h]
        exact ⟨⟨seqP.cons h1.1 (seqP.nil _), h1.2⟩, hl, h1.1.be.1⟩
      · rw [if_neg c1] at h
        by_cases c2 : ch s1.1 = 59
        · rw [if_pos c2] at h
          obtain ⟨⟨a1, a2, a3⟩, a4, a5⟩ := rLp_t hst i (s1.1 + 1, s1.2) s' h
          dsimp only at a1 a2 a3 a4 a5
          have t1 : tPt s'.2.2 d s.2.1 s1.2.1 := tPt.cg _ _ _ (fun j p1 p2 q _ => by rw [a3 j p2]) h1.1
          refine ⟨⟨seqP.cons t1 a1, ?_, fun j hj => (a3 j (by omega)).trans (h1.2.2 j hj)⟩, by omega, t1.be.1⟩
          rw [pFl_st t1 a4 a5, List.length_append, List.length_cons, show pFl s'.2.2 (s1.2.1 - s.2.1) s.2.1 = pFl s1.2.2 (s1.2.1 - s.2.1) s.2.1 from pFl_cg _ _ (fun j p1 p2 q _ => by rw [a3 j (by omega)])]
          have := h1.2.1
          omega
        · rw [if_neg c2] at h
          cases h
theorem rRw_t {ch : Nat → Nat} : ∀ (d en : Nat) (s : PS), d ≤ 6 → okW d s (rRw ch (d + 2) en (6 - d) s)
  | d, en, s, hd => by
    intro s' h
    rw [rRw] at h
    by_cases c : ch s.1 = en
    · rw [if_pos c] at h
      rw [← Sum.inr.inj h]
      refine ⟨seqP.nil _, ?_, fun j _ => rfl⟩
      rw [Nat.sub_self]
      exact Nat.le_refl _
    · rw [if_neg c] at h
      refine (rLp_t (d := d) (fun s => rStm_t (fun bc mc ec hc => ?_)) 60 s s' h).1
      cases d with
      | zero =>
        intro s1 q
        unfold rBrk at q
        rw [if_pos (by omega)] at q
        cases q
      | succ d =>
        refine rBrk_t (fun _ en s => ?_) hc
        rw [show 6 - (d + 1) + 1 = 6 - d by omega]
        exact rRw_t d en s (by omega)
theorem rAll_t {n : Nat} {f : Nat → Nat} {s : PS} (hf : ∀ j, j < n → f j < 65536) (h : rAll n f = .inr s) : tRow s.2.2 6 0 s.2.1 ∧ (pFl s.2.2 s.2.1 0).length ≤ n ∧ s.1 = n := by
  have h1 := rRw_t (ch := chA n f) 6 70000 (0, 0, fun _ _ => 0) (by omega) s h
  have h2 := rRw_b (chA_ok n f) 8 70000 0 (0, 0, fun _ _ => 0) (Nat.zero_le n)
  have h3 := h2.1 s h
  have h4 := h2.2 s h
  dsimp only at h1 h3 h4
  rw [Nat.sub_zero, Nat.zero_add] at h1
  refine ⟨h1.1, by omega, ?_⟩
  by_cases q : s.1 < n
  · have := hf s.1 q
    unfold chA at h4
    rw [if_pos q] at h4
    omega
  · omega
/-! the way back -/
def flS (s : Nat) : Nat := if s = 43 then 45 else if s = 45 then 43 else if s = 33 then 63 else if s = 63 then 33 else if s = 64 then 36 else if s = 36 then 64 else if s = 91 then 93 else if s = 93 then 91 else if s = 123 then 125 else if s = 125 then 123 else s
def brS (s : Nat) : Bool := decide (s = 91 ∨ s = 93 ∨ s = 123 ∨ s = 125 ∨ s = 124 ∨ s = 47)
def fl1 (K : Nat) (a : Nat → Nat) : Nat → Nat := if brS (a 0) = true then ac (flS (a 0)) (a 1) (a 2) (a 3) (a 4) (K - 1 - a 7) (K - 1 - a 6) (K - 1 - a 5) else ac (flS (a 0)) (a 1) (a 2) (a 3) (a 4) 0 0 0
def flp (x : Nat → Nat → Nat) (K : Nat) : Nat → Nat → Nat := fun j => fl1 K (x (K - 1 - j))
theorem fl1_0 (K : Nat) (a : Nat → Nat) : fl1 K a 0 = flS (a 0) ∧ fl1 K a 1 = a 1 ∧ fl1 K a 2 = a 2 ∧ fl1 K a 3 = a 3 ∧ fl1 K a 4 = a 4 := by
  unfold fl1
  split <;> exact ⟨rfl, rfl, rfl, rfl, rfl⟩
theorem flS_c (s : Nat) : (flS s = 91 ↔ s = 93) ∧ (flS s = 93 ↔ s = 91) ∧ (flS s = 123 ↔ s = 125) ∧ (flS s = 125 ↔ s = 123) ∧ (flS s = 124 ↔ s = 124) ∧ (flS s = 47 ↔ s = 47) ∧ (flS s = 33 ∨ flS s = 63 ↔ s = 33 ∨ s = 63) ∧ (flS s = 64 ∨ flS s = 36 ↔ s = 64 ∨ s = 36) := by
  unfold flS
  repeat' split
  all_goals omega
theorem fl_isB (K : Nat) (a : Nat → Nat) : isB (fl1 K a) = isE a := by
  unfold isB isE
  rw [(fl1_0 K a).1]
  have := flS_c (a 0)
  exact decide_eq_decide.mpr (by omega)
theorem fl_isE (K : Nat) (a : Nat → Nat) : isE (fl1 K a) = isB a := by
  unfold isB isE
  rw [(fl1_0 K a).1]
  have := flS_c (a 0)
  exact decide_eq_decide.mpr (by omega)
theorem fl_pSum (K : Nat) (a : Nat → Nat) : pSum (fl1 K a) = pSum a := by
  unfold pSum
  obtain ⟨_, _, h2, h3, h4⟩ := fl1_0 K a
  rw [h2, h3, h4]
theorem fl_len (K : Nat) (a : Nat → Nat) : (piece (fl1 K a)).length = (piece a).length := by
  unfold piece
  rw [fl_pSum]
  obtain ⟨h0, h1, _⟩ := fl1_0 K a
  have c := flS_c (a 0)
  rw [h0, h1]
  by_cases c1 : a 0 = 91 ∨ a 0 = 123
  · rw [if_neg (by omega), if_neg (by omega), if_pos (by omega), if_pos c1]
    simp only [List.length_cons, List.length_append, List.length_nil]
  · rw [if_neg (c := a 0 = 91 ∨ a 0 = 123) c1]
    by_cases c2 : a 0 = 124 ∨ a 0 = 47
    · rw [if_neg (by omega), if_pos (by omega), if_pos c2]
    · rw [if_neg (c := a 0 = 124 ∨ a 0 = 47) c2]
      by_cases c3 : a 0 = 93 ∨ a 0 = 125
      · rw [if_pos (by omega), if_pos c3]
        simp only [List.length_cons, List.length_append, List.length_nil]
      · rw [if_neg (c := a 0 = 93 ∨ a 0 = 125) c3, if_neg (by omega), if_neg (by omega), if_neg (by omega)]
        by_cases c4 : a 0 = 33 ∨ a 0 = 63
        · rw [if_pos (by omega), if_pos c4]
          rfl
        · rw [if_neg (by omega), if_neg (c := a 0 = 33 ∨ a 0 = 63) c4]
          by_cases c5 : a 0 = 64 ∨ a 0 = 36
          · rw [if_pos (by omega), if_pos c5]
            rfl
          · rw [if_neg (by omega), if_neg c5]
            rfl
theorem spc_fl (K : Nat) (a b : Nat → Nat) : spc (fl1 K b) (fl1 K a) = spc a b := by
  unfold spc
  rw [fl_isE, fl_isB]
  by_cases q : isE a = true ∧ isB b = true
  · rw [if_pos q, if_pos ⟨q.2, q.1⟩]
  · rw [if_neg q, if_neg (fun h => q ⟨h.2, h.1⟩)]
theorem pFl_fl {x : Nat → Nat → Nat} {K : Nat} : ∀ (n k : Nat), k + n ≤ K → (pFl (flp x K) n (K - (k + n))).length = (pFl x n k).length
  | 0, _, _ => rfl
  | 1, k, h => by
    show (piece (flp x K (K - (k + 1)))).length = (piece (x k)).length
    unfold flp
    rw [show K - 1 - (K - (k + 1)) = k by omega]
    exact fl_len K _
  | n + 2, k, h => by
    have e := pFl_sp x 0 n k
    have ih := pFl_fl (x := x) (K := K) (n + 1) k (by omega)
    rw [show n + 1 + (0 + 1) = n + 2 by omega] at e
    rw [pFl, e, show K - (k + (n + 2)) + 1 = K - (k + (n + 1)) by omega]
    simp only [List.length_append]
    rw [ih, show pFl x (0 + 1) (k + n + 1) = piece (x (k + n + 1)) from rfl, show flp x K (K - (k + (n + 2))) = fl1 K (x (k + n + 1)) by unfold flp; rw [show K - 1 - (K - (k + (n + 2))) = k + n + 1 by omega], show flp x K (K - (k + (n + 1))) = fl1 K (x (k + n)) by unfold flp; rw [show K - 1 - (K - (k + (n + 1))) = k + n by omega], fl_len, spc_fl]
    omega
theorem brS_f {s : Nat} (h : s = 33 ∨ s = 63 ∨ s = 64 ∨ s = 36 ∨ s = 126 ∨ s = 43 ∨ s = 45 ∨ s = 94) : ¬ brS s = true := fun q => by
  have := of_decide_eq_true q
  omega
theorem brS_t {s : Nat} (h : s = 91 ∨ s = 93 ∨ s = 123 ∨ s = 125 ∨ s = 124 ∨ s = 47) : brS s = true := decide_eq_true h
theorem sOk_fl {K : Nat} {a : Nat → Nat} (h : sOk a) : sOk (fl1 K a) := by
  have hb : ¬ brS (a 0) = true := brS_f (by have := h.1; omega)
  refine ⟨?_, by unfold fl1; rw [if_neg hb]; exact ⟨rfl, rfl, rfl⟩⟩
  obtain ⟨h0, h1, h2, h3, h4⟩ := fl1_0 K a
  rw [h0, h1, h2, h3, h4]
  have hf : ((a 0 = 33 ∨ a 0 = 63) → (flS (a 0) = 33 ∨ flS (a 0) = 63)) ∧ ((a 0 = 64 ∨ a 0 = 36) → (flS (a 0) = 64 ∨ flS (a 0) = 36)) ∧ (a 0 = 126 → flS (a 0) = 126) ∧ ((a 0 = 43 ∨ a 0 = 45 ∨ a 0 = 94) → (flS (a 0) = 43 ∨ flS (a 0) = 45 ∨ flS (a 0) = 94)) := by
    unfold flS
    repeat' split
    all_goals omega
  rcases h.1 with ⟨g, r⟩ | ⟨g, r⟩ | ⟨g, r⟩ | ⟨g, r⟩
  · exact Or.inl ⟨hf.1 g, r⟩
  · exact Or.inr (Or.inl ⟨hf.2.1 g, r⟩)
  · exact Or.inr (Or.inr (Or.inl ⟨hf.2.2.1 g, r⟩))
  · exact Or.inr (Or.inr (Or.inr ⟨hf.2.2.2 g, r⟩))
theorem fl1_br {K : Nat} {a : Nat → Nat} {k m e : Nat} (h : brS (a 0) = true) (hl : lnk a k m e) : lnk (fl1 K a) (K - 1 - e) (K - 1 - m) (K - 1 - k) := by
  unfold fl1
  rw [if_pos h]
  obtain ⟨h5, h6, h7⟩ := hl
  exact ⟨by rw [← h7]; rfl, by rw [← h6]; rfl, by rw [← h5]; rfl⟩
theorem tst_fl {K : Nat} {a : Nat → Nat} (h : tst a) : tst (fl1 K a) := by
  obtain ⟨_, _, h2, h3, h4⟩ := fl1_0 K a
  unfold tst
  rw [h2, h3, h4]
  exact h
theorem bOk_fl {x : Nat → Nat → Nat} {K k m e : Nat} (h : bOk x k m e) (h1 : k < m) (h2 : m < e) (h3 : e < K) : bOk (flp x K) (K - 1 - e) (K - 1 - m) (K - 1 - k) := by
  have ek : flp x K (K - 1 - e) = fl1 K (x e) := by unfold flp; rw [show K - 1 - (K - 1 - e) = e by omega]
  have em : flp x K (K - 1 - m) = fl1 K (x m) := by unfold flp; rw [show K - 1 - (K - 1 - m) = m by omega]
  have ee : flp x K (K - 1 - k) = fl1 K (x k) := by unfold flp; rw [show K - 1 - (K - 1 - k) = k by omega]
  obtain ⟨b1, b2, b3, b4, b5, b6, b7, b8, b9⟩ := h
  unfold bOk
  rw [ek, em, ee]
  obtain ⟨e0, e1, _⟩ := fl1_0 K (x e)
  obtain ⟨k0, k1, _⟩ := fl1_0 K (x k)
  obtain ⟨m0, m1, m2, m3, m4⟩ := fl1_0 K (x m)
  refine ⟨?_, tst_fl b3, tst_fl b2, e1.trans b5, k1.trans b4, ⟨m1.trans b6.1, m2.trans b6.2.1, m3.trans b6.2.2.1, m4.trans b6.2.2.2⟩, fl1_br (brS_t (by clear b2 b3; omega)) b9, fl1_br (brS_t (by clear b2 b3; omega)) b8, fl1_br (brS_t (by clear b2 b3; omega)) b7⟩
  rw [e0, k0, m0]
  rcases b1 with ⟨q1, q2, q3⟩ | ⟨q1, q2, q3⟩
  · rw [q1, q2, q3]
    exact Or.inl ⟨rfl, rfl, rfl⟩
  · rw [q1, q2, q3]
    exact Or.inr ⟨rfl, rfl, rfl⟩
theorem seqP.rev {P Q : Nat → Nat → Prop} {K k k' : Nat} (hp : ∀ a b, P a b → a < b) (h : ∀ a b, P a b → b ≤ K → Q (K - b) (K - a)) (hk : k' ≤ K) : seqP P k k' → seqP Q (K - k') (K - k)
  | ⟨c, ks, h0, hc, hj⟩ => ⟨c, fun j => K - ks (c - j), by show K - ks (c - 0) = _; rw [Nat.sub_zero, hc], by show K - ks (c - c) = _; rw [Nat.sub_self, h0], fun j hh => by
      have hi := ks_in hp hj (j := c - (j + 1)) (by omega)
      have := h _ _ (hj (c - (j + 1)) (by omega)) (by omega)
      rw [show c - (j + 1) + 1 = c - j by omega] at this
      exact this⟩
theorem tPt_fl {x : Nat → Nat → Nat} {K : Nat} : ∀ (d a b : Nat), tPt x d a b → b ≤ K → tPt (flp x K) d (K - b) (K - a)
  | 0, a, b, t, h => by
    obtain ⟨t, rfl⟩ := t
    refine ⟨?_, by omega⟩
    rw [show flp x K (K - (a + 1)) = fl1 K (x a) by unfold flp; rw [show K - 1 - (K - (a + 1)) = a by omega]]
    exact sOk_fl t
  | d + 1, a, b, t, h => by
    rcases t with ⟨t, rfl⟩ | ⟨m, e, rfl, hb, r1, r2⟩
    · refine Or.inl ⟨?_, by omega⟩
      rw [show flp x K (K - (a + 1)) = fl1 K (x a) by unfold flp; rw [show K - 1 - (K - (a + 1)) = a by omega]]
      exact sOk_fl t
    · have ls := tPt.lts rfl r1 r2
      refine Or.inr ⟨K - 1 - m, K - 1 - a, by omega, ?_, ?_, ?_⟩
      · rw [show K - (e + 1) = K - 1 - e by omega]
        exact bOk_fl hb ls.1 ls.2.1 (by omega)
      · have := seqP.rev (fun a b => tPt.lt d a b) (fun a b t h => tPt_fl d a b t h) (show e ≤ K by omega) r2
        rw [show K - e = K - (e + 1) + 1 by omega, show K - (m + 1) = K - 1 - m by omega] at this
        exact this
      · have := seqP.rev (fun a b => tPt.lt d a b) (fun a b t h => tPt_fl d a b t h) (show m ≤ K by omega) r1
        rw [show K - m = K - 1 - m + 1 by omega, show K - (a + 1) = K - 1 - a by omega] at this
        exact this
theorem tRow_fl {x : Nat → Nat → Nat} {K d k k' : Nat} (h : tRow x d k k') (hk : k' ≤ K) : tRow (flp x K) d (K - k') (K - k) := seqP.rev (fun a b => tPt.lt d a b) (fun a b t h => tPt_fl d a b t h) hk h
