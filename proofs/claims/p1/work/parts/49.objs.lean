/-! The two objects. -/
theorem mc_run_len (n l s : Nat) : (mc_run n l s).length = 6 := rfl
abbrev mc_tx (n : Nat) : mj_H := [.inr (2, [.ref (n + 1), .int 0]), .inl (3, mj_arr0 3 60)]
abbrev mc_st (n : Nat) : mj_H := [.inr (7, [.ref (n + 1), .ref (n + 2), .int 0]), .inl (0, mj_arr0 0 8), .inl (0, mj_arr0 0 20)]
abbrev mc_ci (n : Nat) : mj_H := [.inr (9, [.ref (n + 1), .ref (n + 2), .ref (n + 3), .int 0, .int 0]), .inl (0, mj_arr0 0 24), .inl (0, mj_arr0 0 8), .inl (0, mj_arr0 0 24)]
/-- an Uncomputery: 400 cells -/
def mc_unc (n : Nat) : mj_H := (.inr (0, [.ref (n + 1), .ref (n + 38), .ref (n + 299), .ref (n + 336), .ref (n + 373), .ref (n + 375), .ref (n + 378), .ref (n + 381), .ref (n + 387), .ref (n + 393), .null, .null, .ref (n + 397), .ref (n + 398), .ref (n + 399), .long 0, .long 0]) :: ((((((((((((mc_proc (n + 1) ++ mc_lib (n + 38) 6) ++ mc_proc (n + 299)) ++ mc_proc (n + 336)) ++ mc_tx (n + 373)) ++ mc_st (n + 375)) ++ mc_st (n + 378)) ++ mc_run (n + 381) (n + 38) (n + 375)) ++ mc_run (n + 387) (n + 38) (n + 378)) ++ mc_ci (n + 393)) ++ [.inl (0, mj_arr0 0 8)]) ++ [.inl (0, mj_arr0 0 16)]) ++ [.inl (0, mj_arr0 0 8)]))
theorem mc_unc_len (n : Nat) : (mc_unc n).length = 400 := by
  unfold mc_unc
  simp only [mc_proc_len, mc_lib_len, mc_run_len, List.length_cons, List.length_append, List.length_nil]
theorem x_unc {h : mj_H} {n : Nat} (hn : h.length = n) (hb : n + 1000 < mj_CB) : mj_run 5 0 (0, [some (.ref n)], [], h ++ [.inr (0, [.null, .null, .null, .null, .null, .null, .null, .null, .null, .null, .null, .null, .null, .null, .null, .long 0, .long 0])]) (.inl none, h ++ mc_unc n) := by
  refine s_aldn (p' := 1) rfl rfl rfl ?_
  refine s_primN (p' := 4) (q := 3) rfl rfl rfl rfl rfl rfl rfl rfl ?_
  refine s_aldn (p' := 5) rfl rfl rfl ?_
  refine s_newz (p' := 8) (a := n + 1) rfl (len_at hn (by simp only [mc_proc_len, mc_lib_len, mc_run_len, List.length_cons, List.length_append, List.length_nil])) rfl rfl ?_
  refine s_sp (p' := 9) (ls' := _) rfl rfl rfl ?_
  refine s_callN (p' := 12) (ls0 := [_]) rfl rfl rfl rfl rfl (mj_rcv_is (rd_a0 (len_at hn (by simp only [mc_proc_len, mc_lib_len, mc_run_len, List.length_cons, List.length_append, List.length_nil])) (by omega))) rfl (x_prinit (h := h ++ [.inr (0, [.null, .null, .null, .null, .null, .null, .null, .null, .null, .null, .null, .null, .null, .null, .null, .long 0, .long 0])]) (n := n + 1) (len_at hn (by simp only [mc_proc_len, mc_lib_len, mc_run_len, List.length_cons, List.length_append, List.length_nil])) (by omega)) (by decide) rfl ?_
  show mj_Wp _ _ (_, _, _, (h ++ [.inr (0, [.null, .null, .null, .null, .null, .null, .null, .null, .null, .null, .null, .null, .null, .null, .null, .long 0, .long 0])]) ++ mc_proc (n + 1)) _
  rw [List.append_assoc, List.cons_append]
  rw [List.nil_append]
  refine s_pf (p' := 15) (fs' := [_, _, _, _, _, _, _, _, _, _, _, _, _, _, _, _, _]) rfl (by omega) (rd_a0 hn (by omega)) (Nat.blt_eq.mp rfl) rfl rfl rfl ?_
  rw [set_a0 hn]
  refine s_aldn (p' := 16) rfl rfl rfl ?_
  refine s_newz (p' := 19) (a := n + 38) rfl (len_at hn (by simp only [mc_proc_len, mc_lib_len, mc_run_len, List.length_cons, List.length_append, List.length_nil])) rfl rfl ?_
  refine s_sp (p' := 20) (ls' := _) rfl rfl rfl ?_
  refine s_callN (p' := 23) (ls0 := [_, _]) rfl rfl rfl rfl rfl (mj_rcv_is (rd_a0 (len_at hn (by simp only [mc_proc_len, mc_lib_len, mc_run_len, List.length_cons, List.length_append, List.length_nil])) (by omega))) rfl (x_linit (h := h ++ (.inr (0, [.ref (n + 1), .null, .null, .null, .null, .null, .null, .null, .null, .null, .null, .null, .null, .null, .null, .long 0, .long 0]) :: mc_proc (n + 1))) (n := n + 38) (len_at hn (by simp only [mc_proc_len, mc_lib_len, mc_run_len, List.length_cons, List.length_append, List.length_nil])) (by omega)) (by decide) rfl ?_
  show mj_Wp _ _ (_, _, _, (h ++ (.inr (0, [.ref (n + 1), .null, .null, .null, .null, .null, .null, .null, .null, .null, .null, .null, .null, .null, .null, .long 0, .long 0]) :: mc_proc (n + 1))) ++ mc_lib (n + 38) 6) _
  rw [List.append_assoc, List.cons_append]
  refine s_pf (p' := 26) (fs' := [_, _, _, _, _, _, _, _, _, _, _, _, _, _, _, _, _]) rfl (by omega) (rd_a0 hn (by omega)) (Nat.blt_eq.mp rfl) rfl rfl rfl ?_
  rw [set_a0 hn]
  refine s_aldn (p' := 27) rfl rfl rfl ?_
  refine s_newz (p' := 30) (a := n + 299) rfl (len_at hn (by simp only [mc_proc_len, mc_lib_len, mc_run_len, List.length_cons, List.length_append, List.length_nil])) rfl rfl ?_
  refine s_sp (p' := 31) (ls' := _) rfl rfl rfl ?_
  refine s_callN (p' := 34) (ls0 := [_]) rfl rfl rfl rfl rfl (mj_rcv_is (rd_a0 (len_at hn (by simp only [mc_proc_len, mc_lib_len, mc_run_len, List.length_cons, List.length_append, List.length_nil])) (by omega))) rfl (x_prinit (h := h ++ (.inr (0, [.ref (n + 1), .ref (n + 38), .null, .null, .null, .null, .null, .null, .null, .null, .null, .null, .null, .null, .null, .long 0, .long 0]) :: (mc_proc (n + 1) ++ mc_lib (n + 38) 6))) (n := n + 299) (len_at hn (by simp only [mc_proc_len, mc_lib_len, mc_run_len, List.length_cons, List.length_append, List.length_nil])) (by omega)) (by decide) rfl ?_
  show mj_Wp _ _ (_, _, _, (h ++ (.inr (0, [.ref (n + 1), .ref (n + 38), .null, .null, .null, .null, .null, .null, .null, .null, .null, .null, .null, .null, .null, .long 0, .long 0]) :: (mc_proc (n + 1) ++ mc_lib (n + 38) 6))) ++ mc_proc (n + 299)) _
  rw [List.append_assoc, List.cons_append]
  refine s_pf (p' := 37) (fs' := [_, _, _, _, _, _, _, _, _, _, _, _, _, _, _, _, _]) rfl (by omega) (rd_a0 hn (by omega)) (Nat.blt_eq.mp rfl) rfl rfl rfl ?_
  rw [set_a0 hn]
  refine s_aldn (p' := 38) rfl rfl rfl ?_
  refine s_newz (p' := 41) (a := n + 336) rfl (len_at hn (by simp only [mc_proc_len, mc_lib_len, mc_run_len, List.length_cons, List.length_append, List.length_nil])) rfl rfl ?_
  refine s_sp (p' := 42) (ls' := _) rfl rfl rfl ?_
  refine s_callN (p' := 45) (ls0 := [_]) rfl rfl rfl rfl rfl (mj_rcv_is (rd_a0 (len_at hn (by simp only [mc_proc_len, mc_lib_len, mc_run_len, List.length_cons, List.length_append, List.length_nil])) (by omega))) rfl (x_prinit (h := h ++ (.inr (0, [.ref (n + 1), .ref (n + 38), .ref (n + 299), .null, .null, .null, .null, .null, .null, .null, .null, .null, .null, .null, .null, .long 0, .long 0]) :: ((mc_proc (n + 1) ++ mc_lib (n + 38) 6) ++ mc_proc (n + 299)))) (n := n + 336) (len_at hn (by simp only [mc_proc_len, mc_lib_len, mc_run_len, List.length_cons, List.length_append, List.length_nil])) (by omega)) (by decide) rfl ?_
  show mj_Wp _ _ (_, _, _, (h ++ (.inr (0, [.ref (n + 1), .ref (n + 38), .ref (n + 299), .null, .null, .null, .null, .null, .null, .null, .null, .null, .null, .null, .null, .long 0, .long 0]) :: ((mc_proc (n + 1) ++ mc_lib (n + 38) 6) ++ mc_proc (n + 299)))) ++ mc_proc (n + 336)) _
  rw [List.append_assoc, List.cons_append]
  refine s_pf (p' := 48) (fs' := [_, _, _, _, _, _, _, _, _, _, _, _, _, _, _, _, _]) rfl (by omega) (rd_a0 hn (by omega)) (Nat.blt_eq.mp rfl) rfl rfl rfl ?_
  rw [set_a0 hn]
  refine s_aldn (p' := 49) rfl rfl rfl ?_
  refine s_newz (p' := 52) (a := n + 373) rfl (len_at hn (by simp only [mc_proc_len, mc_lib_len, mc_run_len, List.length_cons, List.length_append, List.length_nil])) rfl rfl ?_
  refine s_sp (p' := 53) (ls' := _) rfl rfl rfl ?_
  refine s_callN (p' := 56) (ls0 := [_]) rfl rfl rfl rfl rfl (mj_rcv_is (rd_a0 (len_at hn (by simp only [mc_proc_len, mc_lib_len, mc_run_len, List.length_cons, List.length_append, List.length_nil])) (by omega))) rfl (x_tinit (h := h ++ (.inr (0, [.ref (n + 1), .ref (n + 38), .ref (n + 299), .ref (n + 336), .null, .null, .null, .null, .null, .null, .null, .null, .null, .null, .null, .long 0, .long 0]) :: (((mc_proc (n + 1) ++ mc_lib (n + 38) 6) ++ mc_proc (n + 299)) ++ mc_proc (n + 336)))) (n := n + 373) (len_at hn (by simp only [mc_proc_len, mc_lib_len, mc_run_len, List.length_cons, List.length_append, List.length_nil])) (by omega)) (by decide) rfl ?_
  show mj_Wp _ _ (_, _, _, (h ++ (.inr (0, [.ref (n + 1), .ref (n + 38), .ref (n + 299), .ref (n + 336), .null, .null, .null, .null, .null, .null, .null, .null, .null, .null, .null, .long 0, .long 0]) :: (((mc_proc (n + 1) ++ mc_lib (n + 38) 6) ++ mc_proc (n + 299)) ++ mc_proc (n + 336)))) ++ mc_tx (n + 373)) _
  rw [List.append_assoc, List.cons_append]
  refine s_pf (p' := 59) (fs' := [_, _, _, _, _, _, _, _, _, _, _, _, _, _, _, _, _]) rfl (by omega) (rd_a0 hn (by omega)) (Nat.blt_eq.mp rfl) rfl rfl rfl ?_
  rw [set_a0 hn]
  refine s_aldn (p' := 60) rfl rfl rfl ?_
  refine s_newz (p' := 63) (a := n + 375) rfl (len_at hn (by simp only [mc_proc_len, mc_lib_len, mc_run_len, List.length_cons, List.length_append, List.length_nil])) rfl rfl ?_
  refine s_sp (p' := 64) (ls' := _) rfl rfl rfl ?_
  refine s_callN (p' := 67) (ls0 := [_]) rfl rfl rfl rfl rfl (mj_rcv_is (rd_a0 (len_at hn (by simp only [mc_proc_len, mc_lib_len, mc_run_len, List.length_cons, List.length_append, List.length_nil])) (by omega))) rfl (x_sinit (h := h ++ (.inr (0, [.ref (n + 1), .ref (n + 38), .ref (n + 299), .ref (n + 336), .ref (n + 373), .null, .null, .null, .null, .null, .null, .null, .null, .null, .null, .long 0, .long 0]) :: ((((mc_proc (n + 1) ++ mc_lib (n + 38) 6) ++ mc_proc (n + 299)) ++ mc_proc (n + 336)) ++ mc_tx (n + 373)))) (n := n + 375) (len_at hn (by simp only [mc_proc_len, mc_lib_len, mc_run_len, List.length_cons, List.length_append, List.length_nil])) (by omega)) (by decide) rfl ?_
  show mj_Wp _ _ (_, _, _, (h ++ (.inr (0, [.ref (n + 1), .ref (n + 38), .ref (n + 299), .ref (n + 336), .ref (n + 373), .null, .null, .null, .null, .null, .null, .null, .null, .null, .null, .long 0, .long 0]) :: ((((mc_proc (n + 1) ++ mc_lib (n + 38) 6) ++ mc_proc (n + 299)) ++ mc_proc (n + 336)) ++ mc_tx (n + 373)))) ++ mc_st (n + 375)) _
  rw [List.append_assoc, List.cons_append]
  refine s_pf (p' := 70) (fs' := [_, _, _, _, _, _, _, _, _, _, _, _, _, _, _, _, _]) rfl (by omega) (rd_a0 hn (by omega)) (Nat.blt_eq.mp rfl) rfl rfl rfl ?_
  rw [set_a0 hn]
  refine s_aldn (p' := 71) rfl rfl rfl ?_
  refine s_newz (p' := 74) (a := n + 378) rfl (len_at hn (by simp only [mc_proc_len, mc_lib_len, mc_run_len, List.length_cons, List.length_append, List.length_nil])) rfl rfl ?_
  refine s_sp (p' := 75) (ls' := _) rfl rfl rfl ?_
  refine s_callN (p' := 78) (ls0 := [_]) rfl rfl rfl rfl rfl (mj_rcv_is (rd_a0 (len_at hn (by simp only [mc_proc_len, mc_lib_len, mc_run_len, List.length_cons, List.length_append, List.length_nil])) (by omega))) rfl (x_sinit (h := h ++ (.inr (0, [.ref (n + 1), .ref (n + 38), .ref (n + 299), .ref (n + 336), .ref (n + 373), .ref (n + 375), .null, .null, .null, .null, .null, .null, .null, .null, .null, .long 0, .long 0]) :: (((((mc_proc (n + 1) ++ mc_lib (n + 38) 6) ++ mc_proc (n + 299)) ++ mc_proc (n + 336)) ++ mc_tx (n + 373)) ++ mc_st (n + 375)))) (n := n + 378) (len_at hn (by simp only [mc_proc_len, mc_lib_len, mc_run_len, List.length_cons, List.length_append, List.length_nil])) (by omega)) (by decide) rfl ?_
  show mj_Wp _ _ (_, _, _, (h ++ (.inr (0, [.ref (n + 1), .ref (n + 38), .ref (n + 299), .ref (n + 336), .ref (n + 373), .ref (n + 375), .null, .null, .null, .null, .null, .null, .null, .null, .null, .long 0, .long 0]) :: (((((mc_proc (n + 1) ++ mc_lib (n + 38) 6) ++ mc_proc (n + 299)) ++ mc_proc (n + 336)) ++ mc_tx (n + 373)) ++ mc_st (n + 375)))) ++ mc_st (n + 378)) _
  rw [List.append_assoc, List.cons_append]
  refine s_pf (p' := 81) (fs' := [_, _, _, _, _, _, _, _, _, _, _, _, _, _, _, _, _]) rfl (by omega) (rd_a0 hn (by omega)) (Nat.blt_eq.mp rfl) rfl rfl rfl ?_
  rw [set_a0 hn]
  refine s_aldn (p' := 82) rfl rfl rfl ?_
  refine s_newz (p' := 85) (a := n + 381) rfl (len_at hn (by simp only [mc_proc_len, mc_lib_len, mc_run_len, List.length_cons, List.length_append, List.length_nil])) rfl rfl ?_
  refine s_sp (p' := 86) (ls' := _) rfl rfl rfl ?_
  refine s_aldn (p' := 87) rfl rfl rfl ?_
  refine s_gf (p' := 90) rfl (rd_app (rd_a0 hn (by omega))) rfl rfl ?_
  refine s_aldn (p' := 91) rfl rfl rfl ?_
  refine s_gf (p' := 94) rfl (rd_app (rd_a0 hn (by omega))) rfl rfl ?_
  refine s_callN (p' := 97) (ls0 := [_, _, _]) rfl rfl rfl rfl rfl (mj_rcv_is (rd_a0 (len_at hn (by simp only [mc_proc_len, mc_lib_len, mc_run_len, List.length_cons, List.length_append, List.length_nil])) (by omega))) rfl (x_runinit (h := h ++ (.inr (0, [.ref (n + 1), .ref (n + 38), .ref (n + 299), .ref (n + 336), .ref (n + 373), .ref (n + 375), .ref (n + 378), .null, .null, .null, .null, .null, .null, .null, .null, .long 0, .long 0]) :: ((((((mc_proc (n + 1) ++ mc_lib (n + 38) 6) ++ mc_proc (n + 299)) ++ mc_proc (n + 336)) ++ mc_tx (n + 373)) ++ mc_st (n + 375)) ++ mc_st (n + 378)))) (n := n + 381) (len_at hn (by simp only [mc_proc_len, mc_lib_len, mc_run_len, List.length_cons, List.length_append, List.length_nil])) (by omega)) (by decide) rfl ?_
  show mj_Wp _ _ (_, _, _, (h ++ (.inr (0, [.ref (n + 1), .ref (n + 38), .ref (n + 299), .ref (n + 336), .ref (n + 373), .ref (n + 375), .ref (n + 378), .null, .null, .null, .null, .null, .null, .null, .null, .long 0, .long 0]) :: ((((((mc_proc (n + 1) ++ mc_lib (n + 38) 6) ++ mc_proc (n + 299)) ++ mc_proc (n + 336)) ++ mc_tx (n + 373)) ++ mc_st (n + 375)) ++ mc_st (n + 378)))) ++ mc_run (n + 381) (n + 38) (n + 375)) _
  rw [List.append_assoc, List.cons_append]
  refine s_pf (p' := 100) (fs' := [_, _, _, _, _, _, _, _, _, _, _, _, _, _, _, _, _]) rfl (by omega) (rd_a0 hn (by omega)) (Nat.blt_eq.mp rfl) rfl rfl rfl ?_
  rw [set_a0 hn]
  refine s_aldn (p' := 101) rfl rfl rfl ?_
  refine s_newz (p' := 104) (a := n + 387) rfl (len_at hn (by simp only [mc_proc_len, mc_lib_len, mc_run_len, List.length_cons, List.length_append, List.length_nil])) rfl rfl ?_
  refine s_sp (p' := 105) (ls' := _) rfl rfl rfl ?_
  refine s_aldn (p' := 106) rfl rfl rfl ?_
  refine s_gf (p' := 109) rfl (rd_app (rd_a0 hn (by omega))) rfl rfl ?_
  refine s_aldn (p' := 110) rfl rfl rfl ?_
  refine s_gf (p' := 113) rfl (rd_app (rd_a0 hn (by omega))) rfl rfl ?_
  refine s_callN (p' := 116) (ls0 := [_, _, _]) rfl rfl rfl rfl rfl (mj_rcv_is (rd_a0 (len_at hn (by simp only [mc_proc_len, mc_lib_len, mc_run_len, List.length_cons, List.length_append, List.length_nil])) (by omega))) rfl (x_runinit (h := h ++ (.inr (0, [.ref (n + 1), .ref (n + 38), .ref (n + 299), .ref (n + 336), .ref (n + 373), .ref (n + 375), .ref (n + 378), .ref (n + 381), .null, .null, .null, .null, .null, .null, .null, .long 0, .long 0]) :: (((((((mc_proc (n + 1) ++ mc_lib (n + 38) 6) ++ mc_proc (n + 299)) ++ mc_proc (n + 336)) ++ mc_tx (n + 373)) ++ mc_st (n + 375)) ++ mc_st (n + 378)) ++ mc_run (n + 381) (n + 38) (n + 375)))) (n := n + 387) (len_at hn (by simp only [mc_proc_len, mc_lib_len, mc_run_len, List.length_cons, List.length_append, List.length_nil])) (by omega)) (by decide) rfl ?_
  show mj_Wp _ _ (_, _, _, (h ++ (.inr (0, [.ref (n + 1), .ref (n + 38), .ref (n + 299), .ref (n + 336), .ref (n + 373), .ref (n + 375), .ref (n + 378), .ref (n + 381), .null, .null, .null, .null, .null, .null, .null, .long 0, .long 0]) :: (((((((mc_proc (n + 1) ++ mc_lib (n + 38) 6) ++ mc_proc (n + 299)) ++ mc_proc (n + 336)) ++ mc_tx (n + 373)) ++ mc_st (n + 375)) ++ mc_st (n + 378)) ++ mc_run (n + 381) (n + 38) (n + 375)))) ++ mc_run (n + 387) (n + 38) (n + 378)) _
  rw [List.append_assoc, List.cons_append]
  refine s_pf (p' := 119) (fs' := [_, _, _, _, _, _, _, _, _, _, _, _, _, _, _, _, _]) rfl (by omega) (rd_a0 hn (by omega)) (Nat.blt_eq.mp rfl) rfl rfl rfl ?_
  rw [set_a0 hn]
  refine s_aldn (p' := 120) rfl rfl rfl ?_
  refine s_newz (p' := 123) (a := n + 393) rfl (len_at hn (by simp only [mc_proc_len, mc_lib_len, mc_run_len, List.length_cons, List.length_append, List.length_nil])) rfl rfl ?_
  refine s_sp (p' := 124) (ls' := _) rfl rfl rfl ?_
  refine s_callN (p' := 127) (ls0 := [_]) rfl rfl rfl rfl rfl (mj_rcv_is (rd_a0 (len_at hn (by simp only [mc_proc_len, mc_lib_len, mc_run_len, List.length_cons, List.length_append, List.length_nil])) (by omega))) rfl (x_cinit (h := h ++ (.inr (0, [.ref (n + 1), .ref (n + 38), .ref (n + 299), .ref (n + 336), .ref (n + 373), .ref (n + 375), .ref (n + 378), .ref (n + 381), .ref (n + 387), .null, .null, .null, .null, .null, .null, .long 0, .long 0]) :: ((((((((mc_proc (n + 1) ++ mc_lib (n + 38) 6) ++ mc_proc (n + 299)) ++ mc_proc (n + 336)) ++ mc_tx (n + 373)) ++ mc_st (n + 375)) ++ mc_st (n + 378)) ++ mc_run (n + 381) (n + 38) (n + 375)) ++ mc_run (n + 387) (n + 38) (n + 378)))) (n := n + 393) (len_at hn (by simp only [mc_proc_len, mc_lib_len, mc_run_len, List.length_cons, List.length_append, List.length_nil])) (by omega)) (by decide) rfl ?_
  show mj_Wp _ _ (_, _, _, (h ++ (.inr (0, [.ref (n + 1), .ref (n + 38), .ref (n + 299), .ref (n + 336), .ref (n + 373), .ref (n + 375), .ref (n + 378), .ref (n + 381), .ref (n + 387), .null, .null, .null, .null, .null, .null, .long 0, .long 0]) :: ((((((((mc_proc (n + 1) ++ mc_lib (n + 38) 6) ++ mc_proc (n + 299)) ++ mc_proc (n + 336)) ++ mc_tx (n + 373)) ++ mc_st (n + 375)) ++ mc_st (n + 378)) ++ mc_run (n + 381) (n + 38) (n + 375)) ++ mc_run (n + 387) (n + 38) (n + 378)))) ++ mc_ci (n + 393)) _
  rw [List.append_assoc, List.cons_append]
  refine s_pf (p' := 130) (fs' := [_, _, _, _, _, _, _, _, _, _, _, _, _, _, _, _, _]) rfl (by omega) (rd_a0 hn (by omega)) (Nat.blt_eq.mp rfl) rfl rfl rfl ?_
  rw [set_a0 hn]
  refine s_aldn (p' := 131) rfl rfl rfl ?_
  refine s_bip (p' := 133) rfl rfl ?_
  refine s_naz (p' := 135) (a := n + 397) (n := 8) rfl (len_at hn (by simp only [mc_proc_len, mc_lib_len, mc_run_len, List.length_cons, List.length_append, List.length_nil])) rfl rfl ?_
  show mj_Wp _ _ (_, _, _, (h ++ (.inr (0, [.ref (n + 1), .ref (n + 38), .ref (n + 299), .ref (n + 336), .ref (n + 373), .ref (n + 375), .ref (n + 378), .ref (n + 381), .ref (n + 387), .ref (n + 393), .null, .null, .null, .null, .null, .long 0, .long 0]) :: (((((((((mc_proc (n + 1) ++ mc_lib (n + 38) 6) ++ mc_proc (n + 299)) ++ mc_proc (n + 336)) ++ mc_tx (n + 373)) ++ mc_st (n + 375)) ++ mc_st (n + 378)) ++ mc_run (n + 381) (n + 38) (n + 375)) ++ mc_run (n + 387) (n + 38) (n + 378)) ++ mc_ci (n + 393)))) ++ [.inl (0, mj_arr0 0 8)]) _
  rw [List.append_assoc, List.cons_append]
  refine s_pf (p' := 138) (fs' := [_, _, _, _, _, _, _, _, _, _, _, _, _, _, _, _, _]) rfl (by omega) (rd_a0 hn (by omega)) (Nat.blt_eq.mp rfl) rfl rfl rfl ?_
  rw [set_a0 hn]
  refine s_aldn (p' := 139) rfl rfl rfl ?_
  refine s_bip (p' := 141) rfl rfl ?_
  refine s_naz (p' := 143) (a := n + 398) (n := 16) rfl (len_at hn (by simp only [mc_proc_len, mc_lib_len, mc_run_len, List.length_cons, List.length_append, List.length_nil])) rfl rfl ?_
  show mj_Wp _ _ (_, _, _, (h ++ (.inr (0, [.ref (n + 1), .ref (n + 38), .ref (n + 299), .ref (n + 336), .ref (n + 373), .ref (n + 375), .ref (n + 378), .ref (n + 381), .ref (n + 387), .ref (n + 393), .null, .null, .ref (n + 397), .null, .null, .long 0, .long 0]) :: ((((((((((mc_proc (n + 1) ++ mc_lib (n + 38) 6) ++ mc_proc (n + 299)) ++ mc_proc (n + 336)) ++ mc_tx (n + 373)) ++ mc_st (n + 375)) ++ mc_st (n + 378)) ++ mc_run (n + 381) (n + 38) (n + 375)) ++ mc_run (n + 387) (n + 38) (n + 378)) ++ mc_ci (n + 393)) ++ [.inl (0, mj_arr0 0 8)]))) ++ [.inl (0, mj_arr0 0 16)]) _
  rw [List.append_assoc, List.cons_append]
  refine s_pf (p' := 146) (fs' := [_, _, _, _, _, _, _, _, _, _, _, _, _, _, _, _, _]) rfl (by omega) (rd_a0 hn (by omega)) (Nat.blt_eq.mp rfl) rfl rfl rfl ?_
  rw [set_a0 hn]
  refine s_aldn (p' := 147) rfl rfl rfl ?_
  refine s_bip (p' := 149) rfl rfl ?_
  refine s_naz (p' := 151) (a := n + 399) (n := 8) rfl (len_at hn (by simp only [mc_proc_len, mc_lib_len, mc_run_len, List.length_cons, List.length_append, List.length_nil])) rfl rfl ?_
  show mj_Wp _ _ (_, _, _, (h ++ (.inr (0, [.ref (n + 1), .ref (n + 38), .ref (n + 299), .ref (n + 336), .ref (n + 373), .ref (n + 375), .ref (n + 378), .ref (n + 381), .ref (n + 387), .ref (n + 393), .null, .null, .ref (n + 397), .ref (n + 398), .null, .long 0, .long 0]) :: (((((((((((mc_proc (n + 1) ++ mc_lib (n + 38) 6) ++ mc_proc (n + 299)) ++ mc_proc (n + 336)) ++ mc_tx (n + 373)) ++ mc_st (n + 375)) ++ mc_st (n + 378)) ++ mc_run (n + 381) (n + 38) (n + 375)) ++ mc_run (n + 387) (n + 38) (n + 378)) ++ mc_ci (n + 393)) ++ [.inl (0, mj_arr0 0 8)]) ++ [.inl (0, mj_arr0 0 16)]))) ++ [.inl (0, mj_arr0 0 8)]) _
  rw [List.append_assoc, List.cons_append]
  refine s_pf (p' := 154) (fs' := [_, _, _, _, _, _, _, _, _, _, _, _, _, _, _, _, _]) rfl (by omega) (rd_a0 hn (by omega)) (Nat.blt_eq.mp rfl) rfl rfl rfl ?_
  rw [set_a0 hn]
  exact s_ret rfl rfl
/-- a World: 8 cells -/
def mc_wld (n m : Nat) : mj_H := [.inr (19, [.ref (n + 1), .ref (n + 2), .ref (n + 3), .ref (n + 4), .ref (n + 5), .ref (n + 6), .ref (n + 7), .int 0, .int (nI 4294967295), .int 0, .ref m]), .inl (0, mj_arr0 0 8), .inl (0, mj_arr0 0 20), .inl (0, mj_arr0 0 21), .inl (0, mj_arr0 0 21), .inl (2, mj_arr0 2 21), .inl (3, mj_arr0 3 2), .inl (0, mj_arr0 0 2)]
theorem x_winit {h : mj_H} {n m : Nat} (hn : h.length = n) (hb : n + 10 < mj_CB) : mj_run 2 238 (0, [some (.ref n), some (.ref m)], [], h ++ [.inr (19, [.null, .null, .null, .null, .null, .null, .null, .int 0, .int 0, .int 0, .null])]) (.inl none, h ++ mc_wld n m) := by
  refine s_aldn (p' := 1) rfl rfl rfl ?_
  refine s_aldn (p' := 2) rfl rfl rfl ?_
  refine s_pf (p' := 5) (fs' := [_, _, _, _, _, _, _, _, _, _, _]) rfl (by omega) (rd_a0 hn (by omega)) (Nat.blt_eq.mp rfl) rfl rfl rfl ?_
  rw [set_a0 hn]
  refine s_aldn (p' := 6) rfl rfl rfl ?_
  refine s_primN (p' := 9) (q := 3) rfl rfl rfl rfl rfl rfl rfl rfl ?_
  refine s_aldn (p' := 10) rfl rfl rfl ?_
  refine s_bip (p' := 12) rfl rfl ?_
  refine s_naz (p' := 14) (a := n + 1) (n := 8) rfl (len_at hn rfl) rfl rfl ?_
  rw [app_1]
  dsimp only [List.cons_append, List.nil_append, List.set]
  refine s_pf (p' := 17) (fs' := [_, _, _, _, _, _, _, _, _, _, _]) rfl (by omega) (rd_a0 hn (by omega)) (Nat.blt_eq.mp rfl) rfl rfl rfl ?_
  rw [set_a0 hn]
  refine s_aldn (p' := 18) rfl rfl rfl ?_
  refine s_bip (p' := 20) rfl rfl ?_
  refine s_naz (p' := 22) (a := n + 2) (n := 20) rfl (len_at hn rfl) rfl rfl ?_
  rw [app_1]
  dsimp only [List.cons_append, List.nil_append, List.set]
  refine s_pf (p' := 25) (fs' := [_, _, _, _, _, _, _, _, _, _, _]) rfl (by omega) (rd_a0 hn (by omega)) (Nat.blt_eq.mp rfl) rfl rfl rfl ?_
  rw [set_a0 hn]
  refine s_aldn (p' := 26) rfl rfl rfl ?_
  refine s_bip (p' := 28) rfl rfl ?_
  refine s_naz (p' := 30) (a := n + 3) (n := 21) rfl (len_at hn rfl) rfl rfl ?_
  rw [app_1]
  dsimp only [List.cons_append, List.nil_append, List.set]
  refine s_pf (p' := 33) (fs' := [_, _, _, _, _, _, _, _, _, _, _]) rfl (by omega) (rd_a0 hn (by omega)) (Nat.blt_eq.mp rfl) rfl rfl rfl ?_
  rw [set_a0 hn]
  refine s_aldn (p' := 34) rfl rfl rfl ?_
  refine s_bip (p' := 36) rfl rfl ?_
  refine s_naz (p' := 38) (a := n + 4) (n := 21) rfl (len_at hn rfl) rfl rfl ?_
  rw [app_1]
  dsimp only [List.cons_append, List.nil_append, List.set]
  refine s_pf (p' := 41) (fs' := [_, _, _, _, _, _, _, _, _, _, _]) rfl (by omega) (rd_a0 hn (by omega)) (Nat.blt_eq.mp rfl) rfl rfl rfl ?_
  rw [set_a0 hn]
  refine s_aldn (p' := 42) rfl rfl rfl ?_
  refine s_bip (p' := 44) rfl rfl ?_
  refine s_naz (p' := 46) (a := n + 5) (n := 21) rfl (len_at hn rfl) rfl rfl ?_
  rw [app_1]
  dsimp only [List.cons_append, List.nil_append, List.set]
  refine s_pf (p' := 49) (fs' := [_, _, _, _, _, _, _, _, _, _, _]) rfl (by omega) (rd_a0 hn (by omega)) (Nat.blt_eq.mp rfl) rfl rfl rfl ?_
  rw [set_a0 hn]
  refine s_aldn (p' := 50) rfl rfl rfl ?_
  refine s_con (p' := 51) rfl rfl ?_
  refine s_naz (p' := 53) (a := n + 6) (n := 2) rfl (len_at hn rfl) rfl rfl ?_
  rw [app_1]
  dsimp only [List.cons_append, List.nil_append, List.set]
  refine s_pf (p' := 56) (fs' := [_, _, _, _, _, _, _, _, _, _, _]) rfl (by omega) (rd_a0 hn (by omega)) (Nat.blt_eq.mp rfl) rfl rfl rfl ?_
  rw [set_a0 hn]
  refine s_aldn (p' := 57) rfl rfl rfl ?_
  refine s_con (p' := 58) rfl rfl ?_
  refine s_naz (p' := 60) (a := n + 7) (n := 2) rfl (len_at hn rfl) rfl rfl ?_
  rw [app_1]
  dsimp only [List.cons_append, List.nil_append, List.set]
  refine s_pf (p' := 63) (fs' := [_, _, _, _, _, _, _, _, _, _, _]) rfl (by omega) (rd_a0 hn (by omega)) (Nat.blt_eq.mp rfl) rfl rfl rfl ?_
  rw [set_a0 hn]
  refine s_aldn (p' := 64) rfl rfl rfl ?_
  refine s_con (p' := 65) rfl rfl ?_
  refine s_pf (p' := 68) (fs' := [_, _, _, _, _, _, _, _, _, _, _]) rfl (by omega) (rd_a0 hn (by omega)) (Nat.blt_eq.mp rfl) rfl rfl rfl ?_
  rw [set_a0 hn]
  exact s_ret rfl rfl
abbrev mc_al : mj_C := .inr (18, [.ref 1000000, .int 0, .int 0])
theorem x_alinit {h : mj_H} {n : Nat} (hn : h.length = n) (hb : n + 1 < mj_CB) : mj_run 3 235 (0, [some (.ref n)], [], h ++ [.inr (18, [.null, .int 0, .int 0])]) (.inl none, h ++ [mc_al]) := by
  refine s_aldn (p' := 1) rfl rfl rfl ?_
  refine c_call (p' := 4) (kc := 2) (ls0 := [_]) rfl rfl rfl rfl rfl (mj_rcv_is (rd_a0 hn (by omega))) rfl rfl rfl ?_
  refine s_aldn (p' := 1) rfl rfl rfl ?_
  refine c_call (p' := 4) (kc := 1) (ls0 := [_]) rfl rfl rfl rfl rfl (mj_rcv_is (rd_a0 hn (by omega))) rfl rfl rfl ?_
  refine s_aldn (p' := 1) rfl rfl rfl ?_
  refine s_primN (p' := 4) (q := 3) rfl rfl rfl rfl rfl rfl rfl rfl ?_
  refine c_ret rfl ?_
  refine s_aldn (p' := 5) rfl rfl rfl ?_
  refine s_con (p' := 6) rfl rfl ?_
  refine s_pf (p' := 9) (fs' := [_, _, _]) rfl (by omega) (rd_a0 hn (by omega)) (Nat.blt_eq.mp rfl) rfl rfl rfl ?_
  rw [set_a0 hn]
  refine c_ret rfl ?_
  refine s_aldn (p' := 5) rfl rfl rfl ?_
  refine s_sh (p' := 8) (ls' := _) (st' := .ref 1000000 :: _) (h' := _) rfl rfl rfl rfl ?_
  refine s_pf (p' := 11) (fs' := [_, _, _]) rfl (by omega) (rd_a0 hn (by omega)) (Nat.blt_eq.mp rfl) rfl rfl rfl ?_
  rw [set_a0 hn]
  exact s_ret rfl rfl
theorem mc_wld_len (n m : Nat) : (mc_wld n m).length = 8 := rfl
/-- a model: 12 cells -/
def mc_mod (n : Nat) : mj_H := (.inr (17, [.int 0, .ref (n + 1), .ref (n + 2), .ref 1000300, .long 0, .long 0, .ref (n + 10), .null, .null, .null, .ref (n + 11)]) :: ((([mc_al] ++ mc_wld (n + 2) n) ++ [mc_al]) ++ [.inl (0, mj_arr0 0 8)]))
theorem x_mod {h : mj_H} {n : Nat} (hn : h.length = n) (hb : n + 100 < mj_CB) : mj_run 5 234 (0, [some (.ref n)], [], h ++ [.inr (17, [.int 0, .null, .null, .null, .long 0, .long 0, .null, .null, .null, .null, .null])]) (.inl none, h ++ mc_mod n) := by
  refine s_aldn (p' := 1) rfl rfl rfl ?_
  refine s_primN (p' := 4) (q := 3) rfl rfl rfl rfl rfl rfl rfl rfl ?_
  refine s_aldn (p' := 5) rfl rfl rfl ?_
  refine s_newz (p' := 8) (a := n + 1) rfl (len_at hn (by simp only [mc_wld_len, List.length_cons, List.length_append, List.length_nil])) rfl rfl ?_
  refine s_sp (p' := 9) (ls' := _) rfl rfl rfl ?_
  refine s_callN (p' := 12) (ls0 := [_]) rfl rfl rfl rfl rfl (mj_rcv_is (rd_a0 (len_at hn (by simp only [mc_wld_len, List.length_cons, List.length_append, List.length_nil])) (by omega))) rfl (x_alinit (h := h ++ [.inr (17, [.int 0, .null, .null, .null, .long 0, .long 0, .null, .null, .null, .null, .null])]) (n := n + 1) (len_at hn (by simp only [mc_wld_len, List.length_cons, List.length_append, List.length_nil])) (by omega)) (by decide) rfl ?_
  show mj_Wp _ _ (_, _, _, (h ++ [.inr (17, [.int 0, .null, .null, .null, .long 0, .long 0, .null, .null, .null, .null, .null])]) ++ [mc_al]) _
  rw [List.append_assoc, List.cons_append]
  rw [List.nil_append]
  refine s_pf (p' := 15) (fs' := [_, _, _, _, _, _, _, _, _, _, _]) rfl (by omega) (rd_a0 hn (by omega)) (Nat.blt_eq.mp rfl) rfl rfl rfl ?_
  rw [set_a0 hn]
  refine s_aldn (p' := 16) rfl rfl rfl ?_
  refine s_newz (p' := 19) (a := n + 2) rfl (len_at hn (by simp only [mc_wld_len, List.length_cons, List.length_append, List.length_nil])) rfl rfl ?_
  refine s_sp (p' := 20) (ls' := _) rfl rfl rfl ?_
  refine s_aldn (p' := 21) rfl rfl rfl ?_
  refine s_callN (p' := 24) (ls0 := [_, _]) rfl rfl rfl rfl rfl (mj_rcv_is (rd_a0 (len_at hn (by simp only [mc_wld_len, List.length_cons, List.length_append, List.length_nil])) (by omega))) rfl (x_winit (m := n) (h := h ++ (.inr (17, [.int 0, .ref (n + 1), .null, .null, .long 0, .long 0, .null, .null, .null, .null, .null]) :: [mc_al])) (n := n + 2) (len_at hn (by simp only [mc_wld_len, List.length_cons, List.length_append, List.length_nil])) (by omega)) (by decide) rfl ?_
  show mj_Wp _ _ (_, _, _, (h ++ (.inr (17, [.int 0, .ref (n + 1), .null, .null, .long 0, .long 0, .null, .null, .null, .null, .null]) :: [mc_al])) ++ mc_wld (n + 2) n) _
  rw [List.append_assoc, List.cons_append]
  refine s_pf (p' := 27) (fs' := [_, _, _, _, _, _, _, _, _, _, _]) rfl (by omega) (rd_a0 hn (by omega)) (Nat.blt_eq.mp rfl) rfl rfl rfl ?_
  rw [set_a0 hn]
  refine s_aldn (p' := 28) rfl rfl rfl ?_
  refine s_sh (p' := 30) (ls' := _) (st' := .ref 1000300 :: _) (h' := _) rfl rfl rfl rfl ?_
  refine s_pf (p' := 33) (fs' := [_, _, _, _, _, _, _, _, _, _, _]) rfl (by omega) (rd_a0 hn (by omega)) (Nat.blt_eq.mp rfl) rfl rfl rfl ?_
  rw [set_a0 hn]
  refine s_aldn (p' := 34) rfl rfl rfl ?_
  refine s_newz (p' := 37) (a := n + 10) rfl (len_at hn (by simp only [mc_wld_len, List.length_cons, List.length_append, List.length_nil])) rfl rfl ?_
  refine s_sp (p' := 38) (ls' := _) rfl rfl rfl ?_
  refine s_callN (p' := 41) (ls0 := [_]) rfl rfl rfl rfl rfl (mj_rcv_is (rd_a0 (len_at hn (by simp only [mc_wld_len, List.length_cons, List.length_append, List.length_nil])) (by omega))) rfl (x_alinit (h := h ++ (.inr (17, [.int 0, .ref (n + 1), .ref (n + 2), .ref 1000300, .long 0, .long 0, .null, .null, .null, .null, .null]) :: ([mc_al] ++ mc_wld (n + 2) n))) (n := n + 10) (len_at hn (by simp only [mc_wld_len, List.length_cons, List.length_append, List.length_nil])) (by omega)) (by decide) rfl ?_
  show mj_Wp _ _ (_, _, _, (h ++ (.inr (17, [.int 0, .ref (n + 1), .ref (n + 2), .ref 1000300, .long 0, .long 0, .null, .null, .null, .null, .null]) :: ([mc_al] ++ mc_wld (n + 2) n))) ++ [mc_al]) _
  rw [List.append_assoc, List.cons_append]
  refine s_pf (p' := 44) (fs' := [_, _, _, _, _, _, _, _, _, _, _]) rfl (by omega) (rd_a0 hn (by omega)) (Nat.blt_eq.mp rfl) rfl rfl rfl ?_
  rw [set_a0 hn]
  refine s_aldn (p' := 45) rfl rfl rfl ?_
  refine s_bip (p' := 47) rfl rfl ?_
  refine s_naz (p' := 49) (a := n + 11) (n := 8) rfl (len_at hn (by simp only [mc_wld_len, List.length_cons, List.length_append, List.length_nil])) rfl rfl ?_
  show mj_Wp _ _ (_, _, _, (h ++ (.inr (17, [.int 0, .ref (n + 1), .ref (n + 2), .ref 1000300, .long 0, .long 0, .ref (n + 10), .null, .null, .null, .null]) :: (([mc_al] ++ mc_wld (n + 2) n) ++ [mc_al]))) ++ [.inl (0, mj_arr0 0 8)]) _
  rw [List.append_assoc, List.cons_append]
  refine s_pf (p' := 52) (fs' := [_, _, _, _, _, _, _, _, _, _, _]) rfl (by omega) (rd_a0 hn (by omega)) (Nat.blt_eq.mp rfl) rfl rfl rfl ?_
  rw [set_a0 hn]
  exact s_ret rfl rfl
