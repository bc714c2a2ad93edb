/-! Pebbles: the breadth-first search, as numbers. -/
def bcu (x c : Int32) : Int32 := (x.toUInt32 >>> (c.toUInt32 &&& Int32.toUInt32 31)).toInt32
def bc1 (x : Int32) : Int32 := x - (bcu x (nI 1) &&& nI 1431655765)
def bc2 (x : Int32) : Int32 := (x &&& nI 858993459) + (bcu x (nI 2) &&& nI 858993459)
def bc3 (x : Int32) : Int32 := (x + bcu x (nI 4)) &&& nI 252645135
def bc4 (x : Int32) : Int32 := x + bcu x (nI 8)
def bc5 (x : Int32) : Int32 := x + bcu x (nI 16)
/-- Integer.bitCount -/
def bc (x : Int32) : Int32 := bc5 (bc4 (bc3 (bc2 (bc1 x)))) &&& nI 63
def pbE (o : Option Nat) : Int32 := match o with
  | none => nI 4294967295
  | some d => nI d
/-- far, queue, size -/
abbrev pb_S : Type := (Nat → Option Nat) × (Nat → Nat) × Nat
def pbk (q now pl : Nat) : Bool := (pl == 0 || now.testBit (pl - 1)) && decide (bc (nI (now ^^^ 2 ^ pl)) ≤ nI q)
def pbS (q now pl : Nat) (s : pb_S) : pb_S := if pbk q now pl = true ∧ s.1 (now ^^^ 2 ^ pl) = none then (vf_upd s.1 (now ^^^ 2 ^ pl) (some ((s.1 now).getD 0 + 1)), vf_upd s.2.1 s.2.2 (now ^^^ 2 ^ pl), s.2.2 + 1) else s
def pbI (q now : Nat) : Nat → Nat → pb_S → pb_S
  | 0, _, s => s
  | r + 1, pl, s => pbI q now r (pl + 1) (pbS q now pl s)
def pbO (p q : Nat) : Nat → Nat → pb_S → pb_S
  | 0, _, s => s
  | f + 1, i, s => if i < s.2.2 then pbO p q f (i + 1) (pbI q (s.2.1 i) p 0 s) else s
def pbZ : pb_S := (vf_upd (fun _ => none) 0 (some 0), vf_upd (fun _ => 0) 0 0, 1)
def pbF (p q : Nat) : pb_S := pbO p q (2 ^ p + 1) 0 pbZ
/-- the fewest moves -/
def pbR (p q : Nat) : Option Nat := (pbF p q).1 (2 ^ (p - 1))
/-! by looking at all -/
theorem pb_all {P : Nat → Nat → Bool} (h : ((List.range 1024).all fun a => (List.range 10).all fun b => P a b) = true) {a b : Nat} (ha : a < 1024) (hb : b < 10) : P a b = true :=
  List.all_eq_true.mp (List.all_eq_true.mp h a (List.mem_range.mpr ha)) b (List.mem_range.mpr hb)
theorem pb_x {a b : Nat} (ha : a < 1024) (hb : b < 10) : nI a ^^^ (nI 1 <<< (nI b &&& 31)) = nI (a ^^^ 2 ^ b) :=
  of_decide_eq_true (pb_all (P := fun a b => decide (nI a ^^^ (nI 1 <<< (nI b &&& 31)) = nI (a ^^^ 2 ^ b))) (by decide +kernel) ha hb)
theorem pb_m {a b : Nat} (ha : a < 1024) (hb : b < 10) : decide (nI a &&& (nI 1 <<< (nI b &&& 31)) = 0) = !a.testBit b :=
  of_decide_eq_true (pb_all (P := fun a b => decide (decide (nI a &&& (nI 1 <<< (nI b &&& 31)) = 0) = !a.testBit b)) (by decide +kernel) ha hb)
theorem pb_m2 {a b : Nat} (ha : a < 1024) (hb : b < 10) : (nI a >>> (nI b &&& 31)) &&& nI 1 = if a.testBit b then nI 1 else nI 0 :=
  of_decide_eq_true (pb_all (P := fun a b => decide ((nI a >>> (nI b &&& 31)) &&& nI 1 = if a.testBit b then nI 1 else nI 0)) (by decide +kernel) ha hb)
theorem pb_p {b : Nat} (hb : b < 11) : nI 1 <<< (nI b &&& 31) = nI (2 ^ b) :=
  of_decide_eq_true (List.all_eq_true.mp (show ((List.range 11).all fun b => decide (nI 1 <<< (nI b &&& 31) = nI (2 ^ b))) = true by decide +kernel) b (List.mem_range.mpr hb))
theorem pb_2 {p : Nat} (hp : p ≤ 10) : 2 ^ p ≤ 1024 := Nat.pow_le_pow_right (by decide) hp
/-! what holds of the search -/
def pbV (p : Nat) (s : pb_S) : Prop := s.2.2 = (List.range (2 ^ p)).countP (fun x => (s.1 x).isSome) ∧ (∀ x, (s.1 x).isSome = true → x < 2 ^ p) ∧ (∀ x d, s.1 x = some d → d < s.2.2) ∧ ∀ i, i < s.2.2 → s.2.1 i < 2 ^ p ∧ (s.1 (s.2.1 i)).isSome = true
theorem pbV_n {p : Nat} {s : pb_S} (h : pbV p s) : s.2.2 ≤ 2 ^ p := by
  rw [h.1]
  exact Nat.le_trans List.countP_le_length (by rw [List.length_range]; exact Nat.le_refl _)
theorem cnt_upd {f : Nat → Option Nat} {x d : Nat} (hx : f x = none) : ∀ N, (List.range N).countP (fun y => (vf_upd f x (some d) y).isSome) = (List.range N).countP (fun y => (f y).isSome) + if x < N then 1 else 0
  | 0 => rfl
  | N + 1 => by
    rw [List.range_succ, List.countP_append, List.countP_append, cnt_upd hx N, List.countP_singleton, List.countP_singleton]
    unfold vf_upd
    by_cases h1 : N = x
    · subst h1
      rw [if_pos rfl, hx]
      simp
    · rw [if_neg h1]
      by_cases h2 : x < N
      · have e1 : (if x < N + 1 then 1 else 0 : Nat) = 1 := if_pos (by omega)
        rw [if_pos h2, e1]
        omega
      · have e1 : (if x < N + 1 then 1 else 0 : Nat) = 0 := if_neg (by omega)
        rw [if_neg h2, e1]
        omega
theorem cnt_lt {f : Nat → Option Nat} {N x : Nat} (hx : x < N) (hf : f x = none) : (List.range N).countP (fun y => (f y).isSome) < N := by
  have h := cnt_upd (d := 0) hf N
  rw [if_pos hx] at h
  have h2 : (List.range N).countP (fun y => (vf_upd f x (some 0) y).isSome) ≤ N := Nat.le_trans List.countP_le_length (by rw [List.length_range]; exact Nat.le_refl _)
  omega
theorem xor_lt {a b p : Nat} (ha : a < 2 ^ p) (hb : b < p) : a ^^^ 2 ^ b < 2 ^ p := Nat.xor_lt_two_pow ha (Nat.pow_lt_pow_right (by decide) hb)
theorem pbS_V {p q now pl : Nat} {s : pb_S} (h : pbV p s) (hn : now < 2 ^ p) (hf : (s.1 now).isSome = true) (hl : pl < p) : pbV p (pbS q now pl s) := by
  unfold pbS
  split
  · rename_i hc
    have hx := xor_lt hn hl
    obtain ⟨h1, h2, h3, h4⟩ := h
    refine ⟨?_, ?_, ?_, ?_⟩
    · show s.2.2 + 1 = _
      rw [cnt_upd hc.2, if_pos hx, ← h1]
    · intro x hx2
      unfold vf_upd at hx2
      dsimp only at hx2
      by_cases q1 : x = now ^^^ 2 ^ pl
      · rw [q1]; exact hx
      · rw [if_neg q1] at hx2
        exact h2 x hx2
    · intro x d hx2
      unfold vf_upd at hx2
      dsimp only at hx2 ⊢
      by_cases q1 : x = now ^^^ 2 ^ pl
      · rw [if_pos q1] at hx2
        cases hx2
        obtain ⟨d0, hd0⟩ := Option.isSome_iff_exists.mp hf
        rw [hd0]
        have := h3 now d0 hd0
        show d0 + 1 < _
        omega
      · rw [if_neg q1] at hx2
        have := h3 x d hx2
        omega
    · intro i hi
      dsimp only at hi ⊢
      unfold vf_upd
      try dsimp only
      by_cases q1 : i = s.2.2
      · rw [if_pos q1]
        exact ⟨hx, by rw [if_pos rfl]; rfl⟩
      · rw [if_neg q1]
        have := h4 i (by omega)
        refine ⟨this.1, ?_⟩
        by_cases q2 : s.2.1 i = now ^^^ 2 ^ pl
        · rw [if_pos q2]; rfl
        · rw [if_neg q2]; exact this.2
  · exact h
/-- what is found stays found, and the queue stays -/
def pbL (s t : pb_S) : Prop := s.2.2 ≤ t.2.2 ∧ (∀ x, (s.1 x).isSome = true → (t.1 x).isSome = true) ∧ ∀ i, i < s.2.2 → t.2.1 i = s.2.1 i
theorem pbL.rf (s : pb_S) : pbL s s := ⟨Nat.le_refl _, fun _ h => h, fun _ _ => rfl⟩
theorem pbL.tr {s t u : pb_S} (h : pbL s t) (g : pbL t u) : pbL s u := ⟨Nat.le_trans h.1 g.1, fun x q => g.2.1 x (h.2.1 x q), fun i q => (g.2.2 i (Nat.lt_of_lt_of_le q h.1)).trans (h.2.2 i q)⟩
theorem pbS_L {q now pl : Nat} {s : pb_S} : pbL s (pbS q now pl s) := by
  unfold pbS
  split
  · refine ⟨by show s.2.2 ≤ s.2.2 + 1; omega, fun x hx => ?_, fun i hi => ?_⟩
    · unfold vf_upd
      try dsimp only
      by_cases q1 : x = now ^^^ 2 ^ pl
      · rw [if_pos q1]; rfl
      · rw [if_neg q1]; exact hx
    · unfold vf_upd
      try dsimp only
      rw [if_neg (by omega)]
  · exact pbL.rf s
theorem pbI_VL {p q now : Nat} (hn : now < 2 ^ p) : ∀ (r pl : Nat) (s : pb_S), pl + r = p → pbV p s → (s.1 now).isSome = true → pbV p (pbI q now r pl s) ∧ pbL s (pbI q now r pl s)
  | 0, pl, s, _, hV, _ => ⟨hV, pbL.rf s⟩
  | r + 1, pl, s, hp, hV, hf => by
    have h1 := pbS_V (q := q) hV hn hf (pl := pl) (by omega)
    have h2 := pbI_VL (q := q) hn r (pl + 1) (pbS q now pl s) (by omega) h1 (pbS_L.2.1 _ hf)
    exact ⟨h2.1, pbS_L.tr h2.2⟩
theorem pbZ_V (p : Nat) : pbV p pbZ := by
  have hp : 0 < 2 ^ p := Nat.two_pow_pos p
  refine ⟨?_, ?_, ?_, ?_⟩
  · show 1 = _
    show 1 = (List.range (2 ^ p)).countP (fun x => (vf_upd (fun _ => none) 0 (some 0) x).isSome)
    rw [cnt_upd rfl, if_pos hp]
    have : (List.range (2 ^ p)).countP (fun (_ : Nat) => (none : Option Nat).isSome) = 0 := by
      rw [List.countP_eq_zero]
      intro a _ h
      cases h
    rw [this]
  · intro x hx
    unfold pbZ vf_upd at hx
    dsimp only at hx
    by_cases q1 : x = 0
    · rw [q1]; exact hp
    · rw [if_neg q1] at hx; cases hx
  · intro x d hx
    unfold pbZ vf_upd at hx
    dsimp only at hx
    show d < 1
    by_cases q1 : x = 0
    · rw [if_pos q1] at hx; cases hx; omega
    · rw [if_neg q1] at hx; cases hx
  · intro i hi
    have hi : i < 1 := hi
    obtain rfl : i = 0 := by omega
    exact ⟨hp, rfl⟩
