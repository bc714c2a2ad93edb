/-! The reference: a world takes another one over. -/
theorem y_tks {h : mj_H} {W V : Nat} {s s0 : SV} (bW : W + 8 < mj_CB) (bV : V + 8 < mj_CB) (hd : W + 8 ≤ V ∨ V + 8 ≤ W) (hW : yWb h W s) (hV : yWb h V s0) : mj_Wp 0 408 (0, [some (.ref V), some (.ref W)], [], h) (mz_N fun h' => yWb h' V s ∧ (∀ (cx : Nat) (dx : Int32), mj_rd h V = some (wrB V s0.2.2 cx dx) → mj_rd h' V = some (wrB V s.2.2 cx dx)) ∧ mz_mo [V, V + 1, V + 2] 0 0 h h') := by
  obtain ⟨⟨cn, dd, r0⟩, ⟨⟨vf, v1, v2⟩, ⟨tf, t1, t2⟩, k⟩, _⟩ := hW
  obtain ⟨⟨cm, de, q0⟩, ⟨⟨vg, w1, _⟩, ⟨tg, u1, _⟩, _⟩, ⟨f3, a3⟩, ⟨f4, a4⟩, ⟨f5, a5, b5⟩, lf, nf, a6, a7⟩ := hV
  have A0 := r0
  have B0 := v1
  have C0 := t1
  have D0 := q0
  have E0 := w1
  have F0 := u1
  have m0 : mz_mo [V, V + 1, V + 2] 0 0 h h := mz_mo.rf _ _ _ _
  refine s_aldn (p' := 1) rfl rfl rfl ?_
  refine s_gf (p' := 4) rfl A0 rfl rfl ?_
  refine s_con (p' := 5) rfl rfl ?_
  refine s_aldn (p' := 6) rfl rfl rfl ?_
  refine s_gf (p' := 9) rfl D0 rfl rfl ?_
  refine s_con (p' := 10) rfl rfl ?_
  refine s_bip (p' := 12) rfl rfl ?_
  refine s_primN (p' := 15) (q := 0) rfl rfl rfl rfl rfl rfl (p_cpyI (Nat.blt_eq.mpr (by omega)) (Nat.blt_eq.mpr (by omega)) (mj_rdA_is B0 (by decide)) (mj_rdA_is E0 (by decide)) rfl) rfl ?_
  generalize hg1 : List.set h (V + 1) _ = g1
  have m1 : mz_mo [V, V + 1, V + 2] 0 0 h g1 := by rw [← hg1]; exact mz_mo.s m0 (by omega) E0 rfl (Or.inl (by simp))
  have A1 : mj_rd g1 (W) = some (wrB W s.2.2 cn dd) := by rw [← hg1]; exact (rd_setn (by omega)).trans A0
  have B1 : mj_rd g1 (W + 1) = some (.inl (0, (8, .inl vf))) := by rw [← hg1]; exact (rd_setn (by omega)).trans B0
  have C1 : mj_rd g1 (W + 2) = some (.inl (0, (20, .inl tf))) := by rw [← hg1]; exact (rd_setn (by omega)).trans C0
  have D1 : mj_rd g1 (V) = some (wrB V s0.2.2 cm de) := by rw [← hg1]; exact (rd_setn (by omega)).trans D0
  have E1 : mj_rd g1 (V + 1) = some (.inl (0, (8, .inl (va_cpy vf vg 0 0 8)))) := by rw [← hg1]; exact rd_set (by omega) E0
  have F1 : mj_rd g1 (V + 2) = some (.inl (0, (20, .inl tg))) := by rw [← hg1]; exact (rd_setn (by omega)).trans F0
  clear hg1
  refine s_aldn (p' := 16) rfl rfl rfl ?_
  refine s_gf (p' := 19) rfl A1 rfl rfl ?_
  refine s_con (p' := 20) rfl rfl ?_
  refine s_aldn (p' := 21) rfl rfl rfl ?_
  refine s_gf (p' := 24) rfl D1 rfl rfl ?_
  refine s_con (p' := 25) rfl rfl ?_
  refine s_bip (p' := 27) rfl rfl ?_
  refine s_primN (p' := 30) (q := 0) rfl rfl rfl rfl rfl rfl (p_cpyI (Nat.blt_eq.mpr (by omega)) (Nat.blt_eq.mpr (by omega)) (mj_rdA_is C1 (by decide)) (mj_rdA_is F1 (by decide)) rfl) rfl ?_
  generalize hg2 : List.set g1 (V + 2) _ = g2
  have m2 : mz_mo [V, V + 1, V + 2] 0 0 h g2 := by rw [← hg2]; exact mz_mo.s m1 (by omega) F1 rfl (Or.inl (by simp))
  have A2 : mj_rd g2 (W) = some (wrB W s.2.2 cn dd) := by rw [← hg2]; exact (rd_setn (by omega)).trans A1
  have B2 : mj_rd g2 (W + 1) = some (.inl (0, (8, .inl vf))) := by rw [← hg2]; exact (rd_setn (by omega)).trans B1
  have C2 : mj_rd g2 (W + 2) = some (.inl (0, (20, .inl tf))) := by rw [← hg2]; exact (rd_setn (by omega)).trans C1
  have D2 : mj_rd g2 (V) = some (wrB V s0.2.2 cm de) := by rw [← hg2]; exact (rd_setn (by omega)).trans D1
  have E2 : mj_rd g2 (V + 1) = some (.inl (0, (8, .inl (va_cpy vf vg 0 0 8)))) := by rw [← hg2]; exact (rd_setn (by omega)).trans E1
  have F2 : mj_rd g2 (V + 2) = some (.inl (0, (20, .inl (va_cpy tf tg 0 0 20)))) := by rw [← hg2]; exact rd_set (by omega) F1
  clear hg2
  refine s_aldn (p' := 31) rfl rfl rfl ?_
  refine s_aldn (p' := 32) rfl rfl rfl ?_
  refine s_gf (p' := 35) rfl A2 rfl rfl ?_
  refine s_pf (p' := 38) (fs' := [_, _, _, _, _, _, _, _, _, _, _]) rfl (by omega) D2 (Nat.blt_eq.mp rfl) rfl rfl rfl ?_
  generalize hg3 : List.set g2 V _ = g3
  have m3 : mz_mo [V, V + 1, V + 2] 0 0 h g3 := by rw [← hg3]; exact mz_mo.s m2 (by omega) D2 rfl (Or.inl (by simp))
  have A3 : mj_rd g3 (W) = some (wrB W s.2.2 cn dd) := by rw [← hg3]; exact (rd_setn (by omega)).trans A2
  have B3 : mj_rd g3 (W + 1) = some (.inl (0, (8, .inl vf))) := by rw [← hg3]; exact (rd_setn (by omega)).trans B2
  have C3 : mj_rd g3 (W + 2) = some (.inl (0, (20, .inl tf))) := by rw [← hg3]; exact (rd_setn (by omega)).trans C2
  have D3 : mj_rd g3 (V) = some (wrB V s.2.2 cm de) := by rw [← hg3]; exact rd_set (by omega) D2
  have E3 : mj_rd g3 (V + 1) = some (.inl (0, (8, .inl (va_cpy vf vg 0 0 8)))) := by rw [← hg3]; exact (rd_setn (by omega)).trans E2
  have F3 : mj_rd g3 (V + 2) = some (.inl (0, (20, .inl (va_cpy tf tg 0 0 20)))) := by rw [← hg3]; exact (rd_setn (by omega)).trans F2
  clear hg3
  refine s_ret rfl ?_
  refine ⟨_, rfl, ⟨⟨_, _, D3⟩, ⟨⟨_, E3, fun j hj => ?_⟩, ⟨_, F3, fun j hj => ?_⟩, k⟩, ⟨f3, m3.1 _ (by simp only [List.mem_cons, List.not_mem_nil, or_false]; omega) _ a3⟩, ⟨f4, m3.1 _ (by simp only [List.mem_cons, List.not_mem_nil, or_false]; omega) _ a4⟩, ⟨f5, m3.1 _ (by simp only [List.mem_cons, List.not_mem_nil, or_false]; omega) _ a5, b5⟩, lf, nf, m3.1 _ (by simp only [List.mem_cons, List.not_mem_nil, or_false]; omega) _ a6, m3.1 _ (by simp only [List.mem_cons, List.not_mem_nil, or_false]; omega) _ a7⟩, fun cx dx hx => ?_, m3⟩
  · unfold va_cpy
    rw [if_pos ⟨Nat.zero_le j, by omega⟩, Nat.zero_add, Nat.sub_zero]
    exact v2 j hj
  · unfold va_cpy
    rw [if_pos ⟨Nat.zero_le j, by omega⟩, Nat.zero_add, Nat.sub_zero]
    exact t2 j (by omega)
  · have e := Option.some.inj (q0.symm.trans hx)
    unfold wrB at e
    have e2 := (Prod.mk.inj (Sum.inr.inj e)).2
    simp only [List.cons.injEq, Value.int.injEq, and_true, true_and] at e2
    exact D3.trans (by unfold wrB; rw [e2.1, e2.2])
theorem y_wnw {h : mj_H} {W : Nat} (hl : h.length = W + 1) (bW : W + 8 < mj_CB) (r0 : mj_rd h W = some (.inr (19, [.null, .null, .null, .null, .null, .null, .null, .int 0, .int 0, .int 0, .null]))) : mj_Wp 0 238 (0, [some (.ref W), some (.ref 400)], [], h) (mz_N fun h' => yWb h' W (fun _ => 0, fun _ => 0, 0) ∧ mz_mo [W] 7 95 h h' ∧ h'.length = W + 8) := by
  have A0 := r0
  have l0 := hl
  have m0 : mz_mo [W] 0 0 h h := mz_mo.rf _ _ _ _
  refine s_aldn (p' := 1) rfl rfl rfl ?_
  refine s_aldn (p' := 2) rfl rfl rfl ?_
  refine s_pf (p' := 5) (fs' := [_, _, _, _, _, _, _, _, _, _, _]) rfl (by omega) A0 (Nat.blt_eq.mp rfl) rfl rfl rfl ?_
  generalize hg1 : List.set h W _ = g1
  have l1 : g1.length = W + 1 := by rw [← hg1, List.length_set]; exact l0
  have m1 : mz_mo [W] 0 0 h g1 := by rw [← hg1]; exact mz_mo.s m0 (by omega) A0 rfl (Or.inl (by simp))
  have A1 : mj_rd g1 W = some (.inr (19, [.null, .null, .null, .null, .null, .null, .null, .int 0, .int 0, .int 0, .ref 400])) := by rw [← hg1]; exact rd_set (by omega) A0
  clear hg1 l0 m0 A0
  refine s_aldn (p' := 6) rfl rfl rfl ?_
  refine s_primN (p' := 9) (q := 3) rfl rfl rfl rfl rfl rfl rfl rfl ?_
  refine s_aldn (p' := 10) rfl rfl rfl ?_
  refine s_bip (p' := 12) rfl rfl ?_
  refine s_naz (p' := 14) (a := (W + 1)) (n := 8) rfl l1 rfl rfl ?_
  generalize hg2 : g1 ++ [_] = g2
  have l2 : g2.length = W + 2 := by rw [← hg2, List.length_append, l1]; rfl
  have m2 : mz_mo [W] 1 8 h g2 := by rw [← hg2]; exact m1.tr (mz_mo.ap [W] _ _) (fun y hy => Or.inl hy) (by omega) (by show 0 + 8 ≤ 8; omega)
  have A2 : mj_rd g2 (W) = some (.inr (19, [.null, .null, .null, .null, .null, .null, .null, .int 0, .int 0, .int 0, .ref 400])) := by rw [← hg2]; exact rd_app A1
  have B2 : mj_rd g2 (W + 1) = some (.inl (0, (8, .inl (fun _ => 0)))) := by rw [← hg2]; exact rd_nw (Nat.blt_eq.mpr (by omega)) l1
  clear hg2 l1 m1 A1
  refine s_pf (p' := 17) (fs' := [_, _, _, _, _, _, _, _, _, _, _]) rfl (by omega) A2 (Nat.blt_eq.mp rfl) rfl rfl rfl ?_
  generalize hg3 : List.set g2 W _ = g3
  have l3 : g3.length = W + 2 := by rw [← hg3, List.length_set]; exact l2
  have m3 : mz_mo [W] 1 8 h g3 := by rw [← hg3]; exact mz_mo.s m2 (by omega) A2 rfl (Or.inl (by simp))
  have B3 : mj_rd g3 (W + 1) = some (.inl (0, (8, .inl (fun _ => 0)))) := by rw [← hg3]; exact (rd_setn (by omega)).trans B2
  have A3 : mj_rd g3 W = some (.inr (19, [.ref (W + 1), .null, .null, .null, .null, .null, .null, .int 0, .int 0, .int 0, .ref 400])) := by rw [← hg3]; exact rd_set (by omega) A2
  clear hg3 l2 m2 A2 B2
  refine s_aldn (p' := 18) rfl rfl rfl ?_
  refine s_bip (p' := 20) rfl rfl ?_
  refine s_naz (p' := 22) (a := (W + 2)) (n := 20) rfl l3 rfl rfl ?_
  generalize hg4 : g3 ++ [_] = g4
  have l4 : g4.length = W + 3 := by rw [← hg4, List.length_append, l3]; rfl
  have m4 : mz_mo [W] 2 28 h g4 := by rw [← hg4]; exact m3.tr (mz_mo.ap [W] _ _) (fun y hy => Or.inl hy) (by omega) (by show 8 + 20 ≤ 28; omega)
  have A4 : mj_rd g4 (W) = some (.inr (19, [.ref (W + 1), .null, .null, .null, .null, .null, .null, .int 0, .int 0, .int 0, .ref 400])) := by rw [← hg4]; exact rd_app A3
  have B4 : mj_rd g4 (W + 1) = some (.inl (0, (8, .inl (fun _ => 0)))) := by rw [← hg4]; exact rd_app B3
  have C4 : mj_rd g4 (W + 2) = some (.inl (0, (20, .inl (fun _ => 0)))) := by rw [← hg4]; exact rd_nw (Nat.blt_eq.mpr (by omega)) l3
  clear hg4 l3 m3 A3 B3
  refine s_pf (p' := 25) (fs' := [_, _, _, _, _, _, _, _, _, _, _]) rfl (by omega) A4 (Nat.blt_eq.mp rfl) rfl rfl rfl ?_
  generalize hg5 : List.set g4 W _ = g5
  have l5 : g5.length = W + 3 := by rw [← hg5, List.length_set]; exact l4
  have m5 : mz_mo [W] 2 28 h g5 := by rw [← hg5]; exact mz_mo.s m4 (by omega) A4 rfl (Or.inl (by simp))
  have B5 : mj_rd g5 (W + 1) = some (.inl (0, (8, .inl (fun _ => 0)))) := by rw [← hg5]; exact (rd_setn (by omega)).trans B4
  have C5 : mj_rd g5 (W + 2) = some (.inl (0, (20, .inl (fun _ => 0)))) := by rw [← hg5]; exact (rd_setn (by omega)).trans C4
  have A5 : mj_rd g5 W = some (.inr (19, [.ref (W + 1), .ref (W + 2), .null, .null, .null, .null, .null, .int 0, .int 0, .int 0, .ref 400])) := by rw [← hg5]; exact rd_set (by omega) A4
  clear hg5 l4 m4 A4 B4 C4
  refine s_aldn (p' := 26) rfl rfl rfl ?_
  refine s_bip (p' := 28) rfl rfl ?_
  refine s_naz (p' := 30) (a := (W + 3)) (n := 21) rfl l5 rfl rfl ?_
  generalize hg6 : g5 ++ [_] = g6
  have l6 : g6.length = W + 4 := by rw [← hg6, List.length_append, l5]; rfl
  have m6 : mz_mo [W] 3 49 h g6 := by rw [← hg6]; exact m5.tr (mz_mo.ap [W] _ _) (fun y hy => Or.inl hy) (by omega) (by show 28 + 21 ≤ 49; omega)
  have A6 : mj_rd g6 (W) = some (.inr (19, [.ref (W + 1), .ref (W + 2), .null, .null, .null, .null, .null, .int 0, .int 0, .int 0, .ref 400])) := by rw [← hg6]; exact rd_app A5
  have B6 : mj_rd g6 (W + 1) = some (.inl (0, (8, .inl (fun _ => 0)))) := by rw [← hg6]; exact rd_app B5
  have C6 : mj_rd g6 (W + 2) = some (.inl (0, (20, .inl (fun _ => 0)))) := by rw [← hg6]; exact rd_app C5
  have D6 : mj_rd g6 (W + 3) = some (.inl (0, (21, .inl (fun _ => 0)))) := by rw [← hg6]; exact rd_nw (Nat.blt_eq.mpr (by omega)) l5
  clear hg6 l5 m5 A5 B5 C5
  refine s_pf (p' := 33) (fs' := [_, _, _, _, _, _, _, _, _, _, _]) rfl (by omega) A6 (Nat.blt_eq.mp rfl) rfl rfl rfl ?_
  generalize hg7 : List.set g6 W _ = g7
  have l7 : g7.length = W + 4 := by rw [← hg7, List.length_set]; exact l6
  have m7 : mz_mo [W] 3 49 h g7 := by rw [← hg7]; exact mz_mo.s m6 (by omega) A6 rfl (Or.inl (by simp))
  have B7 : mj_rd g7 (W + 1) = some (.inl (0, (8, .inl (fun _ => 0)))) := by rw [← hg7]; exact (rd_setn (by omega)).trans B6
  have C7 : mj_rd g7 (W + 2) = some (.inl (0, (20, .inl (fun _ => 0)))) := by rw [← hg7]; exact (rd_setn (by omega)).trans C6
  have D7 : mj_rd g7 (W + 3) = some (.inl (0, (21, .inl (fun _ => 0)))) := by rw [← hg7]; exact (rd_setn (by omega)).trans D6
  have A7 : mj_rd g7 W = some (.inr (19, [.ref (W + 1), .ref (W + 2), .ref (W + 3), .null, .null, .null, .null, .int 0, .int 0, .int 0, .ref 400])) := by rw [← hg7]; exact rd_set (by omega) A6
  clear hg7 l6 m6 A6 B6 C6 D6
  refine s_aldn (p' := 34) rfl rfl rfl ?_
  refine s_bip (p' := 36) rfl rfl ?_
  refine s_naz (p' := 38) (a := (W + 4)) (n := 21) rfl l7 rfl rfl ?_
  generalize hg8 : g7 ++ [_] = g8
  have l8 : g8.length = W + 5 := by rw [← hg8, List.length_append, l7]; rfl
  have m8 : mz_mo [W] 4 70 h g8 := by rw [← hg8]; exact m7.tr (mz_mo.ap [W] _ _) (fun y hy => Or.inl hy) (by omega) (by show 49 + 21 ≤ 70; omega)
  have A8 : mj_rd g8 (W) = some (.inr (19, [.ref (W + 1), .ref (W + 2), .ref (W + 3), .null, .null, .null, .null, .int 0, .int 0, .int 0, .ref 400])) := by rw [← hg8]; exact rd_app A7
  have B8 : mj_rd g8 (W + 1) = some (.inl (0, (8, .inl (fun _ => 0)))) := by rw [← hg8]; exact rd_app B7
  have C8 : mj_rd g8 (W + 2) = some (.inl (0, (20, .inl (fun _ => 0)))) := by rw [← hg8]; exact rd_app C7
  have D8 : mj_rd g8 (W + 3) = some (.inl (0, (21, .inl (fun _ => 0)))) := by rw [← hg8]; exact rd_app D7
  have E8 : mj_rd g8 (W + 4) = some (.inl (0, (21, .inl (fun _ => 0)))) := by rw [← hg8]; exact rd_nw (Nat.blt_eq.mpr (by omega)) l7
  clear hg8 l7 m7 A7 B7 C7 D7
  refine s_pf (p' := 41) (fs' := [_, _, _, _, _, _, _, _, _, _, _]) rfl (by omega) A8 (Nat.blt_eq.mp rfl) rfl rfl rfl ?_
  generalize hg9 : List.set g8 W _ = g9
  have l9 : g9.length = W + 5 := by rw [← hg9, List.length_set]; exact l8
  have m9 : mz_mo [W] 4 70 h g9 := by rw [← hg9]; exact mz_mo.s m8 (by omega) A8 rfl (Or.inl (by simp))
  have B9 : mj_rd g9 (W + 1) = some (.inl (0, (8, .inl (fun _ => 0)))) := by rw [← hg9]; exact (rd_setn (by omega)).trans B8
  have C9 : mj_rd g9 (W + 2) = some (.inl (0, (20, .inl (fun _ => 0)))) := by rw [← hg9]; exact (rd_setn (by omega)).trans C8
  have D9 : mj_rd g9 (W + 3) = some (.inl (0, (21, .inl (fun _ => 0)))) := by rw [← hg9]; exact (rd_setn (by omega)).trans D8
  have E9 : mj_rd g9 (W + 4) = some (.inl (0, (21, .inl (fun _ => 0)))) := by rw [← hg9]; exact (rd_setn (by omega)).trans E8
  have A9 : mj_rd g9 W = some (.inr (19, [.ref (W + 1), .ref (W + 2), .ref (W + 3), .ref (W + 4), .null, .null, .null, .int 0, .int 0, .int 0, .ref 400])) := by rw [← hg9]; exact rd_set (by omega) A8
  clear hg9 l8 m8 A8 B8 C8 D8 E8
  refine s_aldn (p' := 42) rfl rfl rfl ?_
  refine s_bip (p' := 44) rfl rfl ?_
  refine s_naz (p' := 46) (a := (W + 5)) (n := 21) rfl l9 rfl rfl ?_
  generalize hg10 : g9 ++ [_] = g10
  have l10 : g10.length = W + 6 := by rw [← hg10, List.length_append, l9]; rfl
  have m10 : mz_mo [W] 5 91 h g10 := by rw [← hg10]; exact m9.tr (mz_mo.ap [W] _ _) (fun y hy => Or.inl hy) (by omega) (by show 70 + 21 ≤ 91; omega)
  have A10 : mj_rd g10 (W) = some (.inr (19, [.ref (W + 1), .ref (W + 2), .ref (W + 3), .ref (W + 4), .null, .null, .null, .int 0, .int 0, .int 0, .ref 400])) := by rw [← hg10]; exact rd_app A9
  have B10 : mj_rd g10 (W + 1) = some (.inl (0, (8, .inl (fun _ => 0)))) := by rw [← hg10]; exact rd_app B9
  have C10 : mj_rd g10 (W + 2) = some (.inl (0, (20, .inl (fun _ => 0)))) := by rw [← hg10]; exact rd_app C9
  have D10 : mj_rd g10 (W + 3) = some (.inl (0, (21, .inl (fun _ => 0)))) := by rw [← hg10]; exact rd_app D9
  have E10 : mj_rd g10 (W + 4) = some (.inl (0, (21, .inl (fun _ => 0)))) := by rw [← hg10]; exact rd_app E9
  have F10 : mj_rd g10 (W + 5) = some (.inl (2, (21, .inl (fun _ => 0)))) := by rw [← hg10]; exact rd_nw (Nat.blt_eq.mpr (by omega)) l9
  clear hg10 l9 m9 A9 B9 C9 D9 E9
  refine s_pf (p' := 49) (fs' := [_, _, _, _, _, _, _, _, _, _, _]) rfl (by omega) A10 (Nat.blt_eq.mp rfl) rfl rfl rfl ?_
  generalize hg11 : List.set g10 W _ = g11
  have l11 : g11.length = W + 6 := by rw [← hg11, List.length_set]; exact l10
  have m11 : mz_mo [W] 5 91 h g11 := by rw [← hg11]; exact mz_mo.s m10 (by omega) A10 rfl (Or.inl (by simp))
  have B11 : mj_rd g11 (W + 1) = some (.inl (0, (8, .inl (fun _ => 0)))) := by rw [← hg11]; exact (rd_setn (by omega)).trans B10
  have C11 : mj_rd g11 (W + 2) = some (.inl (0, (20, .inl (fun _ => 0)))) := by rw [← hg11]; exact (rd_setn (by omega)).trans C10
  have D11 : mj_rd g11 (W + 3) = some (.inl (0, (21, .inl (fun _ => 0)))) := by rw [← hg11]; exact (rd_setn (by omega)).trans D10
  have E11 : mj_rd g11 (W + 4) = some (.inl (0, (21, .inl (fun _ => 0)))) := by rw [← hg11]; exact (rd_setn (by omega)).trans E10
  have F11 : mj_rd g11 (W + 5) = some (.inl (2, (21, .inl (fun _ => 0)))) := by rw [← hg11]; exact (rd_setn (by omega)).trans F10
  have A11 : mj_rd g11 W = some (.inr (19, [.ref (W + 1), .ref (W + 2), .ref (W + 3), .ref (W + 4), .ref (W + 5), .null, .null, .int 0, .int 0, .int 0, .ref 400])) := by rw [← hg11]; exact rd_set (by omega) A10
  clear hg11 l10 m10 A10 B10 C10 D10 E10 F10
  refine s_aldn (p' := 50) rfl rfl rfl ?_
  refine s_con (p' := 51) rfl rfl ?_
  refine s_naz (p' := 53) (a := (W + 6)) (n := 2) rfl l11 rfl rfl ?_
  generalize hg12 : g11 ++ [_] = g12
  have l12 : g12.length = W + 7 := by rw [← hg12, List.length_append, l11]; rfl
  have m12 : mz_mo [W] 6 93 h g12 := by rw [← hg12]; exact m11.tr (mz_mo.ap [W] _ _) (fun y hy => Or.inl hy) (by omega) (by show 91 + 2 ≤ 93; omega)
  have A12 : mj_rd g12 (W) = some (.inr (19, [.ref (W + 1), .ref (W + 2), .ref (W + 3), .ref (W + 4), .ref (W + 5), .null, .null, .int 0, .int 0, .int 0, .ref 400])) := by rw [← hg12]; exact rd_app A11
  have B12 : mj_rd g12 (W + 1) = some (.inl (0, (8, .inl (fun _ => 0)))) := by rw [← hg12]; exact rd_app B11
  have C12 : mj_rd g12 (W + 2) = some (.inl (0, (20, .inl (fun _ => 0)))) := by rw [← hg12]; exact rd_app C11
  have D12 : mj_rd g12 (W + 3) = some (.inl (0, (21, .inl (fun _ => 0)))) := by rw [← hg12]; exact rd_app D11
  have E12 : mj_rd g12 (W + 4) = some (.inl (0, (21, .inl (fun _ => 0)))) := by rw [← hg12]; exact rd_app E11
  have F12 : mj_rd g12 (W + 5) = some (.inl (2, (21, .inl (fun _ => 0)))) := by rw [← hg12]; exact rd_app F11
  have G12 : mj_rd g12 (W + 6) = some (.inl (3, (2, .inl (fun _ => 0)))) := by rw [← hg12]; exact rd_nw (Nat.blt_eq.mpr (by omega)) l11
  clear hg12 l11 m11 A11 B11 C11 D11 E11 F11
  refine s_pf (p' := 56) (fs' := [_, _, _, _, _, _, _, _, _, _, _]) rfl (by omega) A12 (Nat.blt_eq.mp rfl) rfl rfl rfl ?_
  generalize hg13 : List.set g12 W _ = g13
  have l13 : g13.length = W + 7 := by rw [← hg13, List.length_set]; exact l12
  have m13 : mz_mo [W] 6 93 h g13 := by rw [← hg13]; exact mz_mo.s m12 (by omega) A12 rfl (Or.inl (by simp))
  have B13 : mj_rd g13 (W + 1) = some (.inl (0, (8, .inl (fun _ => 0)))) := by rw [← hg13]; exact (rd_setn (by omega)).trans B12
  have C13 : mj_rd g13 (W + 2) = some (.inl (0, (20, .inl (fun _ => 0)))) := by rw [← hg13]; exact (rd_setn (by omega)).trans C12
  have D13 : mj_rd g13 (W + 3) = some (.inl (0, (21, .inl (fun _ => 0)))) := by rw [← hg13]; exact (rd_setn (by omega)).trans D12
  have E13 : mj_rd g13 (W + 4) = some (.inl (0, (21, .inl (fun _ => 0)))) := by rw [← hg13]; exact (rd_setn (by omega)).trans E12
  have F13 : mj_rd g13 (W + 5) = some (.inl (2, (21, .inl (fun _ => 0)))) := by rw [← hg13]; exact (rd_setn (by omega)).trans F12
  have G13 : mj_rd g13 (W + 6) = some (.inl (3, (2, .inl (fun _ => 0)))) := by rw [← hg13]; exact (rd_setn (by omega)).trans G12
  have A13 : mj_rd g13 W = some (.inr (19, [.ref (W + 1), .ref (W + 2), .ref (W + 3), .ref (W + 4), .ref (W + 5), .ref (W + 6), .null, .int 0, .int 0, .int 0, .ref 400])) := by rw [← hg13]; exact rd_set (by omega) A12
  clear hg13 l12 m12 A12 B12 C12 D12 E12 F12 G12
  refine s_aldn (p' := 57) rfl rfl rfl ?_
  refine s_con (p' := 58) rfl rfl ?_
  refine s_naz (p' := 60) (a := (W + 7)) (n := 2) rfl l13 rfl rfl ?_
  generalize hg14 : g13 ++ [_] = g14
  have l14 : g14.length = W + 8 := by rw [← hg14, List.length_append, l13]; rfl
  have m14 : mz_mo [W] 7 95 h g14 := by rw [← hg14]; exact m13.tr (mz_mo.ap [W] _ _) (fun y hy => Or.inl hy) (by omega) (by show 93 + 2 ≤ 95; omega)
  have A14 : mj_rd g14 (W) = some (.inr (19, [.ref (W + 1), .ref (W + 2), .ref (W + 3), .ref (W + 4), .ref (W + 5), .ref (W + 6), .null, .int 0, .int 0, .int 0, .ref 400])) := by rw [← hg14]; exact rd_app A13
  have B14 : mj_rd g14 (W + 1) = some (.inl (0, (8, .inl (fun _ => 0)))) := by rw [← hg14]; exact rd_app B13
  have C14 : mj_rd g14 (W + 2) = some (.inl (0, (20, .inl (fun _ => 0)))) := by rw [← hg14]; exact rd_app C13
  have D14 : mj_rd g14 (W + 3) = some (.inl (0, (21, .inl (fun _ => 0)))) := by rw [← hg14]; exact rd_app D13
  have E14 : mj_rd g14 (W + 4) = some (.inl (0, (21, .inl (fun _ => 0)))) := by rw [← hg14]; exact rd_app E13
  have F14 : mj_rd g14 (W + 5) = some (.inl (2, (21, .inl (fun _ => 0)))) := by rw [← hg14]; exact rd_app F13
  have G14 : mj_rd g14 (W + 6) = some (.inl (3, (2, .inl (fun _ => 0)))) := by rw [← hg14]; exact rd_app G13
  have H14 : mj_rd g14 (W + 7) = some (.inl (0, (2, .inl (fun _ => 0)))) := by rw [← hg14]; exact rd_nw (Nat.blt_eq.mpr (by omega)) l13
  clear hg14 l13 m13 A13 B13 C13 D13 E13 F13 G13
  refine s_pf (p' := 63) (fs' := [_, _, _, _, _, _, _, _, _, _, _]) rfl (by omega) A14 (Nat.blt_eq.mp rfl) rfl rfl rfl ?_
  generalize hg15 : List.set g14 W _ = g15
  have l15 : g15.length = W + 8 := by rw [← hg15, List.length_set]; exact l14
  have m15 : mz_mo [W] 7 95 h g15 := by rw [← hg15]; exact mz_mo.s m14 (by omega) A14 rfl (Or.inl (by simp))
  have B15 : mj_rd g15 (W + 1) = some (.inl (0, (8, .inl (fun _ => 0)))) := by rw [← hg15]; exact (rd_setn (by omega)).trans B14
  have C15 : mj_rd g15 (W + 2) = some (.inl (0, (20, .inl (fun _ => 0)))) := by rw [← hg15]; exact (rd_setn (by omega)).trans C14
  have D15 : mj_rd g15 (W + 3) = some (.inl (0, (21, .inl (fun _ => 0)))) := by rw [← hg15]; exact (rd_setn (by omega)).trans D14
  have E15 : mj_rd g15 (W + 4) = some (.inl (0, (21, .inl (fun _ => 0)))) := by rw [← hg15]; exact (rd_setn (by omega)).trans E14
  have F15 : mj_rd g15 (W + 5) = some (.inl (2, (21, .inl (fun _ => 0)))) := by rw [← hg15]; exact (rd_setn (by omega)).trans F14
  have G15 : mj_rd g15 (W + 6) = some (.inl (3, (2, .inl (fun _ => 0)))) := by rw [← hg15]; exact (rd_setn (by omega)).trans G14
  have H15 : mj_rd g15 (W + 7) = some (.inl (0, (2, .inl (fun _ => 0)))) := by rw [← hg15]; exact (rd_setn (by omega)).trans H14
  have A15 : mj_rd g15 W = some (.inr (19, [.ref (W + 1), .ref (W + 2), .ref (W + 3), .ref (W + 4), .ref (W + 5), .ref (W + 6), .ref (W + 7), .int 0, .int 0, .int 0, .ref 400])) := by rw [← hg15]; exact rd_set (by omega) A14
  clear hg15 l14 m14 A14 B14 C14 D14 E14 F14 G14 H14
  refine s_aldn (p' := 64) rfl rfl rfl ?_
  refine s_con (p' := 65) rfl rfl ?_
  refine s_pf (p' := 68) (fs' := [_, _, _, _, _, _, _, _, _, _, _]) rfl (by omega) A15 (Nat.blt_eq.mp rfl) rfl rfl rfl ?_
  generalize hg16 : List.set g15 W _ = g16
  have l16 : g16.length = W + 8 := by rw [← hg16, List.length_set]; exact l15
  have m16 : mz_mo [W] 7 95 h g16 := by rw [← hg16]; exact mz_mo.s m15 (by omega) A15 rfl (Or.inl (by simp))
  have B16 : mj_rd g16 (W + 1) = some (.inl (0, (8, .inl (fun _ => 0)))) := by rw [← hg16]; exact (rd_setn (by omega)).trans B15
  have C16 : mj_rd g16 (W + 2) = some (.inl (0, (20, .inl (fun _ => 0)))) := by rw [← hg16]; exact (rd_setn (by omega)).trans C15
  have D16 : mj_rd g16 (W + 3) = some (.inl (0, (21, .inl (fun _ => 0)))) := by rw [← hg16]; exact (rd_setn (by omega)).trans D15
  have E16 : mj_rd g16 (W + 4) = some (.inl (0, (21, .inl (fun _ => 0)))) := by rw [← hg16]; exact (rd_setn (by omega)).trans E15
  have F16 : mj_rd g16 (W + 5) = some (.inl (2, (21, .inl (fun _ => 0)))) := by rw [← hg16]; exact (rd_setn (by omega)).trans F15
  have G16 : mj_rd g16 (W + 6) = some (.inl (3, (2, .inl (fun _ => 0)))) := by rw [← hg16]; exact (rd_setn (by omega)).trans G15
  have H16 : mj_rd g16 (W + 7) = some (.inl (0, (2, .inl (fun _ => 0)))) := by rw [← hg16]; exact (rd_setn (by omega)).trans H15
  have A16 : mj_rd g16 W = some (.inr (19, [.ref (W + 1), .ref (W + 2), .ref (W + 3), .ref (W + 4), .ref (W + 5), .ref (W + 6), .ref (W + 7), .int 0, .int (nI 4294967295), .int 0, .ref 400])) := by rw [← hg16]; exact rd_set (by omega) A15
  clear hg16 l15 m15 A15 B15 C15 D15 E15 F15 G15 H15
  refine s_ret rfl ?_
  exact ⟨_, rfl, ⟨⟨0, nI 4294967295, A16⟩, ⟨⟨_, B16, fun _ _ => rfl⟩, ⟨_, C16, fun _ _ => rfl⟩, Nat.zero_le 20⟩, ⟨_, D16⟩, ⟨_, E16⟩, ⟨_, F16, fun _ _ => ⟨false, rfl⟩⟩, _, _, G16, H16⟩, m16, l16⟩
