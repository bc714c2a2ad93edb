/-! The reference: a world like another one. -/
theorem yWb.fr {h g : mj_H} {L : List Nat} {W : Nat} {s : SV} (a : yWb h W s) (e : mz_fr L h g) (hL : ∀ x, x ∈ L → x < W ∨ W + 8 ≤ x) : yWb g W s := by
  have no : ∀ k, k < 8 → W + k ∉ L := fun k hk hx => by have := hL _ hx; omega
  obtain ⟨⟨cn, d, a0⟩, st, ⟨f3, a3⟩, ⟨f4, a4⟩, ⟨f5, a5, b5⟩, lf, nf, a6, a7⟩ := a
  exact ⟨⟨cn, d, e _ (no 0 (by decide)) _ a0⟩, st.fr e (no 1 (by decide)) (no 2 (by decide)), ⟨f3, e _ (no 3 (by decide)) _ a3⟩, ⟨f4, e _ (no 4 (by decide)) _ a4⟩, ⟨f5, e _ (no 5 (by decide)) _ a5, b5⟩, lf, nf, e _ (no 6 (by decide)) _ a6, e _ (no 7 (by decide)) _ a7⟩
theorem y_lik {h : mj_H} {W N : Nat} {s : SV} (hN : h.length = N) (bN_ : N + 8 < mj_CB) (hWN : W + 8 ≤ N) (hW : yWb h W s) : mj_Wp 3 407 (0, [some (.ref W), none], [], h) (mz_V fun rv h' => rv = .ref N ∧ yWb h' N s ∧ mz_mo [] 8 106 h h') := by
  refine s_new (p' := 3) rfl rfl rfl ?_
  generalize hg1 : h ++ [_] = g1
  have l1 : g1.length = N + 1 := by rw [← hg1, List.length_append, hN]; rfl
  have m1 : mz_mo [] 1 11 h g1 := by rw [← hg1]; exact (mz_mo.rf _ _ _ _ : mz_mo [] 0 0 h h).tr (mz_mo.ap [] _ _) (fun y hy => Or.inl hy) (by omega) (by show 0 + 11 ≤ 11; omega)
  have r1 : mj_rd g1 N = some (.inr (19, [.null, .null, .null, .null, .null, .null, .null, .int 0, .int 0, .int 0, .null])) := by rw [← hg1]; exact rd_nw (Nat.blt_eq.mpr (by omega)) hN
  clear hg1
  rw [hN]
  have w1 := hW.fr m1.1 (fun x hx => absurd hx List.not_mem_nil)
  obtain ⟨⟨cn, dd, a1⟩, _⟩ := id w1
  refine s_sp (p' := 4) (ls' := _) rfl rfl rfl ?_
  refine s_aldn (p' := 5) rfl rfl rfl ?_
  refine s_gf (p' := 8) rfl a1 rfl rfl ?_
  refine s_callEN (p' := 11) (ls0 := [_, _]) rfl rfl rfl rfl rfl (mj_rcv_is r1) rfl (y_wnw l1 bN_ r1) rfl rfl ?_
  rintro g2 ⟨v2, m2, l2⟩
  have w2 := w1.fr m2.1 (fun x hx => by rw [List.mem_singleton] at hx; omega)
  obtain ⟨⟨cm, de, a2⟩, _⟩ := id v2
  refine s_astn (p' := 12) (ls' := [_, _]) rfl rfl rfl rfl ?_
  refine s_aldn (p' := 13) rfl rfl rfl ?_
  refine s_aldn (p' := 14) rfl rfl rfl ?_
  refine s_callEN (p' := 17) (ls0 := [_, _]) rfl rfl rfl rfl rfl (mj_rcv_is a2) rfl (y_tks (by omega) bN_ (Or.inl hWN) w2 v2) rfl rfl ?_
  rintro g3 ⟨v3, _, m3⟩
  refine s_aldn (p' := 18) rfl rfl rfl ?_
  refine s_aret rfl ?_
  have m12 : mz_mo [] 8 106 h g2 := m1.tr m2 (fun y hy => by simp only [List.mem_cons, List.not_mem_nil, or_false] at hy ⊢; omega) (by omega) (by omega)
  exact ⟨_, _, rfl, rfl, v3, m12.tr m3 (fun y hy => by simp only [List.mem_cons, List.not_mem_nil, or_false] at hy ⊢; omega) (by omega) (by omega)⟩
