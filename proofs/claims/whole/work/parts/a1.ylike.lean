/-! The reference: a world takes another one over. -/
theorem y_tks {h : mj_H} {W V : Nat} {s s0 : SV} (bW : W + 8 < mj_CB) (bV : V + 8 < mj_CB) (hd : W + 8 ≤ V ∨ V + 8 ≤ W) (hW : yWb h W s) (hV : yWb h V s0) : mj_Wp 0 408 (0, [some (.ref V), some (.ref W)], [], h) (mz_N fun h' => yWb h' V s ∧ mz_mo [V, V + 1, V + 2] 0 0 h h') := by
  obtain ⟨⟨cn, dd, r0⟩, ⟨⟨vf, v1, v2⟩, ⟨tf, t1, t2⟩, k⟩, _⟩ := hW
  obtain ⟨⟨cm, de, q0⟩, ⟨⟨vg, w1, _⟩, ⟨tg, u1, _⟩, _⟩, ⟨f3, a3⟩, ⟨f4, a4⟩, ⟨f5, a5, b5⟩, lf, nf, a6, a7⟩ := hV
  have A0 := r0
  have B0 := v1
  have C0 := t1
  have D0 := q0
  have E0 := w1
  have F0 := u1
  have m0 : mz_mo [V, V + 1, V + 2] 0 0 h h := mz_mo.rf _ _ _ _
  refine s_aldn (p' := 1) rfl rfl rfl ?_
  refine s_gf (p' := 4) rfl A0 rfl rfl ?_
  refine s_con (p' := 5) rfl rfl ?_
  refine s_aldn (p' := 6) rfl rfl rfl ?_
  refine s_gf (p' := 9) rfl D0 rfl rfl ?_
  refine s_con (p' := 10) rfl rfl ?_
  refine s_bip (p' := 12) rfl rfl ?_
  refine s_primN (p' := 15) (q := 0) rfl rfl rfl rfl rfl rfl (p_cpyI (Nat.blt_eq.mpr (by omega)) (Nat.blt_eq.mpr (by omega)) (mj_rdA_is B0 (by decide)) (mj_rdA_is E0 (by decide)) rfl) rfl ?_
  generalize hg1 : List.set h (V + 1) _ = g1
  have m1 : mz_mo [V, V + 1, V + 2] 0 0 h g1 := by rw [← hg1]; exact mz_mo.s m0 (by omega) E0 rfl (Or.inl (by simp))
  have A1 : mj_rd g1 (W) = some (wrB W s.2.2 cn dd) := by rw [← hg1]; exact (rd_setn (by omega)).trans A0
  have B1 : mj_rd g1 (W + 1) = some (.inl (0, (8, .inl vf))) := by rw [← hg1]; exact (rd_setn (by omega)).trans B0
  have C1 : mj_rd g1 (W + 2) = some (.inl (0, (20, .inl tf))) := by rw [← hg1]; exact (rd_setn (by omega)).trans C0
  have D1 : mj_rd g1 (V) = some (wrB V s0.2.2 cm de) := by rw [← hg1]; exact (rd_setn (by omega)).trans D0
  have E1 : mj_rd g1 (V + 1) = some (.inl (0, (8, .inl (va_cpy vf vg 0 0 8)))) := by rw [← hg1]; exact rd_set (by omega) E0
  have F1 : mj_rd g1 (V + 2) = some (.inl (0, (20, .inl tg))) := by rw [← hg1]; exact (rd_setn (by omega)).trans F0
  clear hg1
  refine s_aldn (p' := 16) rfl rfl rfl ?_
  refine s_gf (p' := 19) rfl A1 rfl rfl ?_
  refine s_con (p' := 20) rfl rfl ?_
  refine s_aldn (p' := 21) rfl rfl rfl ?_
  refine s_gf (p' := 24) rfl D1 rfl rfl ?_
  refine s_con (p' := 25) rfl rfl ?_
  refine s_bip (p' := 27) rfl rfl ?_
  refine s_primN (p' := 30) (q := 0) rfl rfl rfl rfl rfl rfl (p_cpyI (Nat.blt_eq.mpr (by omega)) (Nat.blt_eq.mpr (by omega)) (mj_rdA_is C1 (by decide)) (mj_rdA_is F1 (by decide)) rfl) rfl ?_
  generalize hg2 : List.set g1 (V + 2) _ = g2
  have m2 : mz_mo [V, V + 1, V + 2] 0 0 h g2 := by rw [← hg2]; exact mz_mo.s m1 (by omega) F1 rfl (Or.inl (by simp))
  have A2 : mj_rd g2 (W) = some (wrB W s.2.2 cn dd) := by rw [← hg2]; exact (rd_setn (by omega)).trans A1
  have B2 : mj_rd g2 (W + 1) = some (.inl (0, (8, .inl vf))) := by rw [← hg2]; exact (rd_setn (by omega)).trans B1
  have C2 : mj_rd g2 (W + 2) = some (.inl (0, (20, .inl tf))) := by rw [← hg2]; exact (rd_setn (by omega)).trans C1
  have D2 : mj_rd g2 (V) = some (wrB V s0.2.2 cm de) := by rw [← hg2]; exact (rd_setn (by omega)).trans D1
  have E2 : mj_rd g2 (V + 1) = some (.inl (0, (8, .inl (va_cpy vf vg 0 0 8)))) := by rw [← hg2]; exact (rd_setn (by omega)).trans E1
  have F2 : mj_rd g2 (V + 2) = some (.inl (0, (20, .inl (va_cpy tf tg 0 0 20)))) := by rw [← hg2]; exact rd_set (by omega) F1
  clear hg2
  refine s_aldn (p' := 31) rfl rfl rfl ?_
  refine s_aldn (p' := 32) rfl rfl rfl ?_
  refine s_gf (p' := 35) rfl A2 rfl rfl ?_
  refine s_pf (p' := 38) (fs' := [_, _, _, _, _, _, _, _, _, _, _]) rfl (by omega) D2 (Nat.blt_eq.mp rfl) rfl rfl rfl ?_
  generalize hg3 : List.set g2 V _ = g3
  have m3 : mz_mo [V, V + 1, V + 2] 0 0 h g3 := by rw [← hg3]; exact mz_mo.s m2 (by omega) D2 rfl (Or.inl (by simp))
  have A3 : mj_rd g3 (W) = some (wrB W s.2.2 cn dd) := by rw [← hg3]; exact (rd_setn (by omega)).trans A2
  have B3 : mj_rd g3 (W + 1) = some (.inl (0, (8, .inl vf))) := by rw [← hg3]; exact (rd_setn (by omega)).trans B2
  have C3 : mj_rd g3 (W + 2) = some (.inl (0, (20, .inl tf))) := by rw [← hg3]; exact (rd_setn (by omega)).trans C2
  have D3 : mj_rd g3 (V) = some (wrB V s.2.2 cm de) := by rw [← hg3]; exact rd_set (by omega) D2
  have E3 : mj_rd g3 (V + 1) = some (.inl (0, (8, .inl (va_cpy vf vg 0 0 8)))) := by rw [← hg3]; exact (rd_setn (by omega)).trans E2
  have F3 : mj_rd g3 (V + 2) = some (.inl (0, (20, .inl (va_cpy tf tg 0 0 20)))) := by rw [← hg3]; exact (rd_setn (by omega)).trans F2
  clear hg3
  refine s_ret rfl ?_
  refine ⟨_, rfl, ⟨⟨_, _, D3⟩, ⟨⟨_, E3, fun j hj => ?_⟩, ⟨_, F3, fun j hj => ?_⟩, k⟩, ⟨f3, m3.1 _ (by simp only [List.mem_cons, List.not_mem_nil, or_false]; omega) _ a3⟩, ⟨f4, m3.1 _ (by simp only [List.mem_cons, List.not_mem_nil, or_false]; omega) _ a4⟩, ⟨f5, m3.1 _ (by simp only [List.mem_cons, List.not_mem_nil, or_false]; omega) _ a5, b5⟩, lf, nf, m3.1 _ (by simp only [List.mem_cons, List.not_mem_nil, or_false]; omega) _ a6, m3.1 _ (by simp only [List.mem_cons, List.not_mem_nil, or_false]; omega) _ a7⟩, m3⟩
  · unfold va_cpy
    rw [if_pos ⟨Nat.zero_le j, by omega⟩, Nat.zero_add, Nat.sub_zero]
    exact v2 j hj
  · unfold va_cpy
    rw [if_pos ⟨Nat.zero_le j, by omega⟩, Nat.zero_add, Nat.sub_zero]
    exact t2 j (by omega)
