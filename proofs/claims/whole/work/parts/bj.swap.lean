/-! The reference's search: the next level. -/
theorem y_swp {h : mj_H} {X W A V c m lv : Nat} {t d n i : Int32} {l7 : Option Value} {a0 a1 a2 a3 a4 a5 a6 a10 : Value} (bX : X < mj_CB) (hX : mj_rd h X = some (.inr (17, [a0, a1, a2, a3, a4, a5, a6, .ref W, .ref A, .ref V, a10]))) {Q : mj_O × mj_H → Prop} (hn : ∀ l7 : Option Value, mj_Wp 2 444 (139, [some (.ref X), some (.int t), some (.int d), some (.int (nI m)), some (.int (nI (lv + 1))), some (.int (nI 0)), some (.int (nI 0)), l7], [], h.set X (.inr (17, [a0, a1, a2, a3, a4, a5, a6, .ref W, .ref V, .ref A, a10]))) Q) : mj_Wp 2 444 (214, [some (.ref X), some (.int t), some (.int d), some (.int n), some (.int (nI lv)), some (.int (nI m)), some (.int i), l7], [], h) Q := by
  refine s_aldn (p' := 215) rfl rfl rfl ?_
  refine s_gf (p' := 218) rfl hX rfl rfl ?_
  refine s_ast (p' := 220) (ls' := [_, _, _, _, _, _, _, _]) rfl rfl rfl rfl ?_
  refine s_aldn (p' := 221) rfl rfl rfl ?_
  refine s_aldn (p' := 222) rfl rfl rfl ?_
  refine s_gf (p' := 225) rfl hX rfl rfl ?_
  refine s_pf (p' := 228) (fs' := [_, _, _, _, _, _, _, _, _, _, _]) rfl bX hX (Nat.blt_eq.mp rfl) rfl rfl rfl ?_
  refine s_aldn (p' := 229) rfl rfl rfl ?_
  refine s_ald (p' := 231) rfl rfl rfl ?_
  refine s_pf (p' := 234) (fs' := [_, _, _, _, _, _, _, _, _, _, _]) rfl bX (rd_set bX hX) (Nat.blt_eq.mp rfl) rfl rfl rfl ?_
  rw [List.set_set]
  refine s_ild (p' := 236) rfl rfl rfl ?_
  refine s_istn (p' := 237) (ls' := [_, _, _, _, _, _, _, _]) rfl rfl rfl rfl ?_
  refine s_inc (p' := 240) (ls' := [_, _, _, _, _, _, _, _]) rfl rfl rfl rfl rfl ?_
  rw [mI_add]
  refine s_goto (p' := 133) rfl rfl ?_
  refine s_con (p' := 134) rfl rfl ?_
  refine s_ist (p' := 136) (ls' := [_, _, _, _, _, _, _, _]) rfl rfl rfl rfl ?_
  refine s_con (p' := 137) rfl rfl ?_
  refine s_ist (p' := 139) (ls' := [_, _, _, _, _, _, _, _]) rfl rfl rfl rfl ?_
  exact hn _
