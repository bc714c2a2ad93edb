/-! The reference's search: a row added, the marks cleared. -/
abbrev lr (o : Nat) : Nat := lrk (rwL (vP o) 0 8)
theorem lr_lt (o : Nat) : lr o < 40320 := by
  have := lrk_lt (rwL (vP o) 0 8)
  rw [rwL_len] at this
  exact this
theorem y_rkN {h : mj_H} {o : Nat} (ho : o < 16777216) : mj_run 0 447 (4, [some (.int (nI o)), some (.int (nI 0)), some (.int (nI 0)), none, none], [], h) (.inl (some (.int (nI (lr o)))), h) := by
  refine s_ildn (p' := 5) rfl rfl rfl ?_
  refine s_bip (p' := 7) rfl rfl ?_
  refine s_icmp (p' := 10) false rfl ((ci_ge (by decide) (by decide)).trans (decide_eq_false (by decide))) rfl ?_
  refine s_con (p' := 11) rfl rfl ?_
  refine s_istn (p' := 12) (ls' := [_, _, _, _, _]) rfl rfl rfl rfl ?_
  refine s_ildn (p' := 13) rfl rfl rfl ?_
  refine s_con (p' := 14) rfl rfl ?_
  refine s_sp (p' := 15) (ls' := _) rfl rfl rfl ?_
  rw [mI_add]
  refine s_ist (p' := 17) (ls' := [_, _, _, _, _]) rfl rfl rfl rfl ?_
  have e := y_rkI (h := h) (r := 0) ho (show 0 + 7 = 7 by omega) (fun r' c0 l4 => y_rkO ho 7 1 r' c0 l4 (by omega)) 7 1 0 (by omega)
  rw [Nat.zero_mul, Nat.zero_add, Nat.zero_add] at e
  rw [show lr o = (rwL (vP o) 1 7).countP (fun y => decide (y < vP o 0)) * fc 7 + lrk (rwL (vP o) 1 7) by show lrk (rwL (vP o) 0 8) = _; rw [rwL, lrk, rwL_len]]
  exact e
theorem y_rnk {h : mj_H} {o : Nat} (ho : o < 16777216) : mj_run 0 447 (0, [some (.int (nI o)), none, none, none, none], [], h) (.inl (some (.int (nI (lr o)))), h) := by
  refine s_con (p' := 1) rfl rfl ?_
  refine s_istn (p' := 2) (ls' := [_, _, _, _, _]) rfl rfl rfl rfl ?_
  refine s_con (p' := 3) rfl rfl ?_
  refine s_istn (p' := 4) (ls' := [_, _, _, _, _]) rfl rfl rfl rfl ?_
  have e := y_rkN (h := h) ho
  exact e
theorem y_ads1 {h : mj_H} {X W V c o : Nat} {b f : Nat → Int32} {a0 a1 a2 a3 a4 a5 a6 a8 a10 : Value} (hX : mj_rd h X = some (.inr (17, [a0, a1, a2, a3, a4, a5, a6, .ref W, a8, .ref V, a10]))) (hW : mj_rd h W = some (.inl (2, (40320, .inl b)))) (hV : mj_rd h V = some (.inl (0, (40320, .inl f)))) (bW : W < mj_CB) (bV : V < mj_CB) (ho : o < 16777216) (hb : b (lr o) ≠ 0) : mj_run 1 449 (0, [some (.ref X), some (.int (nI o)), some (.int (nI c)), none], [], h) (.inl (some (.int (nI c))), h) := by
  refine s_ildn (p' := 1) rfl rfl rfl ?_
  refine s_callV (p' := 4) (ls0 := [_, _, _, _, _]) rfl rfl rfl rfl rfl rfl rfl (y_rnk ho) (by first | decide | omega) rfl ?_
  refine s_istn (p' := 5) (ls' := [_, _, _, _]) rfl rfl rfl rfl ?_
  refine s_aldn (p' := 6) rfl rfl rfl ?_
  refine s_gf (p' := 9) rfl hX rfl rfl ?_
  refine s_ildn (p' := 10) rfl rfl rfl ?_
  refine s_bal2 (p' := 11) rfl hW (inb_nI (by have := lr_lt o; omega) (by have := lr_lt o; omega)) rfl ?_
  rw [mI_cl (by have := lr_lt o; omega)]
  refine s_if (p' := 14) false rfl (decide_eq_false hb) rfl ?_
  refine s_ildn (p' := 15) rfl rfl rfl ?_
  exact s_iret rfl rfl rfl
theorem y_ads0 {h : mj_H} {X W V c o : Nat} {b f : Nat → Int32} {a0 a1 a2 a3 a4 a5 a6 a8 a10 : Value} (hX : mj_rd h X = some (.inr (17, [a0, a1, a2, a3, a4, a5, a6, .ref W, a8, .ref V, a10]))) (hW : mj_rd h W = some (.inl (2, (40320, .inl b)))) (hV : mj_rd h V = some (.inl (0, (40320, .inl f)))) (bW : W < mj_CB) (bV : V < mj_CB) (ho : o < 16777216) (hb : b (lr o) = 0) (hc : c < 40320) : mj_run 1 449 (0, [some (.ref X), some (.int (nI o)), some (.int (nI c)), none], [], h) (.inl (some (.int (nI (c + 1)))), (h.set W (.inl (2, (40320, .inl (upd b (lr o) (nI 1)))))).set V (.inl (0, (40320, .inl (upd f c (nI o)))))) := by
  have hWX : W ≠ X := fun e => by rw [e, hX] at hW; cases hW
  have hWV : W ≠ V := fun e => by rw [e, hV] at hW; cases hW
  refine s_ildn (p' := 1) rfl rfl rfl ?_
  refine s_callV (p' := 4) (ls0 := [_, _, _, _, _]) rfl rfl rfl rfl rfl rfl rfl (y_rnk ho) (by first | decide | omega) rfl ?_
  refine s_istn (p' := 5) (ls' := [_, _, _, _]) rfl rfl rfl rfl ?_
  refine s_aldn (p' := 6) rfl rfl rfl ?_
  refine s_gf (p' := 9) rfl hX rfl rfl ?_
  refine s_ildn (p' := 10) rfl rfl rfl ?_
  refine s_bal2 (p' := 11) rfl hW (inb_nI (by have := lr_lt o; omega) (by have := lr_lt o; omega)) rfl ?_
  rw [mI_cl (by have := lr_lt o; omega)]
  refine s_if (p' := 16) true rfl (decide_eq_true hb) rfl ?_
  refine s_aldn (p' := 17) rfl rfl rfl ?_
  refine s_gf (p' := 20) rfl hX rfl rfl ?_
  refine s_ildn (p' := 21) rfl rfl rfl ?_
  refine s_con (p' := 22) rfl rfl ?_
  refine s_bas2 (p' := 23) rfl bW hW (inb_nI (by have := lr_lt o; omega) (by have := lr_lt o; omega)) rfl ?_
  rw [mI_cl (by have := lr_lt o; omega), show vp_nar .boolean (nI 1) = nI 1 from by decide +kernel]
  refine s_aldn (p' := 24) rfl rfl rfl ?_
  refine s_gf (p' := 27) rfl ((rd_setn hWX).trans hX) rfl rfl ?_
  refine s_ildn (p' := 28) rfl rfl rfl ?_
  refine s_ildn (p' := 29) rfl rfl rfl ?_
  refine s_ias (p' := 30) rfl bV ((rd_setn hWV).trans hV) (inb_nI (by omega) (by omega)) rfl ?_
  rw [mI_cl (by omega)]
  refine s_ildn (p' := 31) rfl rfl rfl ?_
  refine s_con (p' := 32) rfl rfl ?_
  refine s_sp (p' := 33) (ls' := _) rfl rfl rfl ?_
  rw [mI_add]
  exact s_iret rfl rfl rfl
theorem y_fiL {h : mj_H} {W : Nat} {b : Nat → Int32} (bW : W < mj_CB) (hW : mj_rd h W = some (.inl (2, (40320, .inl b)))) : ∀ (m i : Nat) (f : Nat → Int32), i + m = 40320 → (∀ j, j < i → f j = 0) → mj_Wp 0 446 (5, [some (.ref W), some (.int (nI 0)), some (.int (nI i)), some (.int (nI 40320))], [], h.set W (.inl (2, (40320, .inl f)))) (mz_N fun g => ∃ f', (∀ j, j < 40320 → f' j = 0) ∧ g = h.set W (.inl (2, (40320, .inl f'))))
  | 0, i, f, he, hz => by
    refine s_ildn (p' := 6) rfl rfl rfl ?_
    refine s_ildn (p' := 7) rfl rfl rfl ?_
    refine s_icmp (p' := 20) true rfl ((ci_ge (by omega) (by decide)).trans (decide_eq_true (by omega))) rfl ?_
    refine s_ret rfl ?_
    exact ⟨_, rfl, f, fun j hj => hz j (by omega), rfl⟩
  | m + 1, i, f, he, hz => by
    refine s_ildn (p' := 6) rfl rfl rfl ?_
    refine s_ildn (p' := 7) rfl rfl rfl ?_
    refine s_icmp (p' := 10) false rfl ((ci_ge (by omega) (by decide)).trans (decide_eq_false (by omega))) rfl ?_
    refine s_aldn (p' := 11) rfl rfl rfl ?_
    refine s_ildn (p' := 12) rfl rfl rfl ?_
    refine s_ildn (p' := 13) rfl rfl rfl ?_
    refine s_bas2 (p' := 14) rfl bW (rd_set bW hW) (inb_nI (by omega) (by omega)) rfl ?_
    rw [List.set_set, mI_cl (by omega)]
    refine s_inc (p' := 17) (ls' := [_, _, _, _]) rfl rfl rfl rfl rfl ?_
    rw [mI_add]
    refine s_goto (p' := 5) rfl rfl ?_
    refine y_fiL bW hW m (i + 1) _ (by omega) (fun j hj => ?_)
    unfold upd
    by_cases q : j = i
    · rw [if_pos q]; decide +kernel
    · rw [if_neg q]; exact hz j (by omega)
theorem y_fiz {h : mj_H} {W : Nat} {b : Nat → Int32} (bW : W < mj_CB) (hW : mj_rd h W = some (.inl (2, (40320, .inl b)))) : mj_Wp 0 446 (0, [some (.ref W), some (.int (nI 0)), none, none], [], h) (mz_N fun g => ∃ f', (∀ j, j < 40320 → f' j = 0) ∧ g = h.set W (.inl (2, (40320, .inl f')))) := by
  refine s_con (p' := 1) rfl rfl ?_
  refine s_istn (p' := 2) (ls' := [_, _, _, _]) rfl rfl rfl rfl ?_
  refine s_aldn (p' := 3) rfl rfl rfl ?_
  refine s_len (p' := 4) rfl (mj_rdA_is hW (by decide)) (by decide) rfl ?_
  refine s_istn (p' := 5) (ls' := [_, _, _, _]) rfl rfl rfl rfl ?_
  have e := y_fiL bW hW 40320 0 b (Nat.zero_add _) (fun j hj => absurd hj (Nat.not_lt_zero j))
  rw [set_id bW hW] at e
  exact e
