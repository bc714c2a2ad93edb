/-! The reference's search: all levels. -/
theorem y_lev {X W k tt : Nat} {d : Int32} {a0 a1 a2 a3 a4 a5 a6 a10 : Value} (bX : X < mj_CB) (bW : W < mj_CB) (htt : LV k tt) : ∀ (m L A V c : Nat) (b fn f2 : Nat → Int32) (xs : Nat → Nat) (l7 : Option Value) (h : mj_H), L + m = k → A < mj_CB → V < mj_CB → A ≠ V → mj_rd h X = some (.inr (17, [a0, a1, a2, a3, a4, a5, a6, .ref W, .ref A, .ref V, a10])) → mj_rd h W = some (.inl (2, (40320, .inl b))) → mj_rd h A = some (.inl (0, (40320, .inl fn))) → mj_rd h V = some (.inl (0, (40320, .inl f2))) → (∀ i, i < c → fn i = nI (xs i)) → lvI L b xs c → c ≤ 40320 → mj_Wp 2 444 (139, [some (.ref X), some (.int (nI tt)), some (.int d), some (.int (nI c)), some (.int (nI L)), some (.int (nI 0)), some (.int (nI 0)), l7], [], h) (mz_V fun r g => r = .int (nI k) ∧ (∃ A' V', (A' = A ∧ V' = V ∨ A' = V ∧ V' = A) ∧ mj_rd g X = some (.inr (17, [a0, a1, a2, a3, a4, a5, a6, .ref W, .ref A', .ref V', a10]))) ∧ ((∃ b' : Nat → Int32, mj_rd g W = some (.inl (2, (40320, .inl b')))) ∧ (∃ f' : Nat → Int32, mj_rd g A = some (.inl (0, (40320, .inl f')))) ∧ ∃ f' : Nat → Int32, mj_rd g V = some (.inl (0, (40320, .inl f')))) ∧ mz_mo [X, W, A, V] 0 0 h g) := by
  intro m
  induction m with
  | zero =>
    intro L A V c b fn f2 xs l7 h hL bA bV hAV hX hW hA hV hf v hc
    have hXn : X ∉ [W, V] := by
      simp only [List.mem_cons, List.not_mem_nil, or_false]
      rintro (q | q)
      · rw [q, hW] at hX; cases hX
      · rw [q, hV] at hX; cases hX
    have hAn : A ∉ [W, V] := by
      simp only [List.mem_cons, List.not_mem_nil, or_false]
      rintro (q | q)
      · rw [q, hW] at hA; cases hA
      · exact hAV q
    refine y_sgO (s0 := (b, fun _ => 0, 0)) (xs := xs) (lv := nI L) hX hA hc (fun i hi => ⟨hf i hi, (v.1 i hi).1.pk.1⟩) htt.1.pk.1 bW bV hXn hAn (fun s9 g i hi e hs9 M => ?_) (fun s' g l7 hno e hs q M => ?_) c 0 (b, fun _ => 0, 0) h l7 (Nat.zero_add c) rfl (fun j hj => absurd hj (Nat.not_lt_zero j)) ⟨hW, f2, hV, fun i hi => absurd hi (Nat.not_lt_zero i)⟩ ⟨fun i hi => absurd hi (Nat.not_lt_zero i), fun i j _ hj => absurd hj (Nat.not_lt_zero j)⟩ (mz_mo.rf _ _ _ _)
    · exact ⟨_, _, rfl, by rw [show L = k by omega], ⟨A, V, Or.inl ⟨rfl, rfl⟩, M.1 _ hXn _ hX⟩, ⟨⟨_, hs9.1⟩, ⟨_, M.1 _ hAn _ hA⟩, by obtain ⟨f9, q9, _⟩ := hs9.2; exact ⟨f9, q9⟩⟩, M.wk (fun y hy => Or.inl (by simp only [List.mem_cons, List.not_mem_nil, or_false] at hy ⊢; omega)) (Nat.le_refl _) (Nat.le_refl _)⟩
    · obtain ⟨i, hi, e2⟩ := v.2.1 tt (by rw [show L = k by omega]; exact htt)
      exact absurd e2 (hno i hi)
  | succ m ih =>
    intro L A V c b fn f2 xs l7 h hL bA bV hAV hX hW hA hV hf v hc
    have hXn : X ∉ [W, V] := by
      simp only [List.mem_cons, List.not_mem_nil, or_false]
      rintro (q | q)
      · rw [q, hW] at hX; cases hX
      · rw [q, hV] at hX; cases hX
    have hAn : A ∉ [W, V] := by
      simp only [List.mem_cons, List.not_mem_nil, or_false]
      rintro (q | q)
      · rw [q, hW] at hA; cases hA
      · exact hAV q
    have hWX : W ≠ X := fun q => by rw [q, hX] at hW; cases hW
    have hAX : A ≠ X := fun q => by rw [q, hX] at hA; cases hA
    have hVX : V ≠ X := fun q => by rw [q, hX] at hV; cases hV
    refine y_sgO (s0 := (b, fun _ => 0, 0)) (xs := xs) (lv := nI L) hX hA hc (fun i hi => ⟨hf i hi, (v.1 i hi).1.pk.1⟩) htt.1.pk.1 bW bV hXn hAn (fun s9 g i hi e hs9 M => ?_) (fun s' g l7 hno e hs q M => ?_) c 0 (b, fun _ => 0, 0) h l7 (Nat.zero_add c) rfl (fun j hj => absurd hj (Nat.not_lt_zero j)) ⟨hW, f2, hV, fun i hi => absurd hi (Nat.not_lt_zero i)⟩ ⟨fun i hi => absurd hi (Nat.not_lt_zero i), fun i j _ hj => absurd hj (Nat.not_lt_zero j)⟩ (mz_mo.rf _ _ _ _)
    · have z := v.1 i hi
      rw [e] at z
      have := z.one htt
      omega
    · have v2 := v.next (ys := fun _ => 0)
      rw [← e] at v2
      obtain ⟨w1, f3, w2, w3⟩ := hs
      have gX := M.1 _ hXn _ hX
      have gA := M.1 _ hAn _ hA
      refine y_swp (c := 0) bX gX (fun l7 => ?_)
      refine (ih (L + 1) V A s'.2.2 s'.1 f3 fn s'.2.1 l7 _ (by omega) bV bA (Ne.symm hAV) (rd_set bX gX) ((rd_setn (Ne.symm hWX)).trans w1) ((rd_setn (Ne.symm hVX)).trans w2) ((rd_setn (Ne.symm hAX)).trans gA) w3 v2 q.c).imp ?_
      rintro _ ⟨r, g2, rfl, e1, ⟨A', V', z1, z2⟩, ⟨z3, z4, z5⟩, M2⟩
      refine ⟨_, _, rfl, e1, ⟨A', V', z1.symm, z2⟩, ⟨z3, z5, z4⟩, ?_⟩
      have M1 : mz_mo [X, W, A, V] 0 0 g (g.set X (.inr (17, [a0, a1, a2, a3, a4, a5, a6, .ref W, .ref V, .ref A, a10]))) := mz_mo.s (mz_mo.rf _ _ _ _) bX gX rfl (Or.inl (by simp))
      have M3 : mz_mo [X, W, A, V] 0 0 _ g2 := M2.wk (fun y hy => Or.inl (by simp only [List.mem_cons, List.not_mem_nil, or_false] at hy ⊢; rcases hy with q | q | q | q <;> simp [q])) (Nat.le_refl _) (Nat.le_refl _)
      exact mo00 (M.wk (fun y hy => Or.inl (by simp only [List.mem_cons, List.not_mem_nil, or_false] at hy ⊢; omega)) (Nat.le_refl _) (Nat.le_refl _)) (mo00 M1 M3)
