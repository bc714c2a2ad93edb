/-! What the constructors lay: cells behind those that stood. -/
theorem x_tinit {h : mj_H} {n : Nat} (hn : h.length = n) (hb : n + 2 < mj_CB) : mj_run 1 3 (0, [some (.ref n)], [], h ++ [.inr (2, [.null, .int 0])]) (.inl none, h ++ [.inr (2, [.ref (n + 1), .int 0]), .inl (3, mj_arr0 3 60)]) := by
  refine s_aldn (p' := 1) rfl rfl rfl ?_
  refine s_primN (p' := 4) (q := 3) rfl rfl rfl rfl rfl rfl rfl rfl ?_
  refine s_aldn (p' := 5) rfl rfl rfl ?_
  refine s_bip (p' := 7) rfl rfl ?_
  refine s_naz (p' := 9) (a := n + 1) (n := 60) rfl (len_at hn rfl) rfl rfl ?_
  rw [app_1]
  dsimp only [List.cons_append, List.nil_append, List.set]
  refine s_pf (p' := 12) (fs' := [_, _]) rfl (by omega) (rd_a0 hn (by omega)) (Nat.blt_eq.mp rfl) rfl rfl rfl ?_
  rw [set_a0 hn]
  exact s_ret rfl rfl
theorem x_sinit {h : mj_H} {n : Nat} (hn : h.length = n) (hb : n + 3 < mj_CB) : mj_run 1 8 (0, [some (.ref n)], [], h ++ [.inr (7, [.null, .null, .int 0])]) (.inl none, h ++ [.inr (7, [.ref (n + 1), .ref (n + 2), .int 0]), .inl (0, mj_arr0 0 8), .inl (0, mj_arr0 0 20)]) := by
  refine s_aldn (p' := 1) rfl rfl rfl ?_
  refine s_primN (p' := 4) (q := 3) rfl rfl rfl rfl rfl rfl rfl rfl ?_
  refine s_aldn (p' := 5) rfl rfl rfl ?_
  refine s_bip (p' := 7) rfl rfl ?_
  refine s_naz (p' := 9) (a := n + 1) (n := 8) rfl (len_at hn rfl) rfl rfl ?_
  rw [app_1]
  dsimp only [List.cons_append, List.nil_append, List.set]
  refine s_pf (p' := 12) (fs' := [_, _, _]) rfl (by omega) (rd_a0 hn (by omega)) (Nat.blt_eq.mp rfl) rfl rfl rfl ?_
  rw [set_a0 hn]
  refine s_aldn (p' := 13) rfl rfl rfl ?_
  refine s_bip (p' := 15) rfl rfl ?_
  refine s_naz (p' := 17) (a := n + 2) (n := 20) rfl (len_at hn rfl) rfl rfl ?_
  rw [app_1]
  dsimp only [List.cons_append, List.nil_append, List.set]
  refine s_pf (p' := 20) (fs' := [_, _, _]) rfl (by omega) (rd_a0 hn (by omega)) (Nat.blt_eq.mp rfl) rfl rfl rfl ?_
  rw [set_a0 hn]
  exact s_ret rfl rfl
theorem x_cinit {h : mj_H} {n : Nat} (hn : h.length = n) (hb : n + 4 < mj_CB) : mj_run 1 10 (0, [some (.ref n)], [], h ++ [.inr (9, [.null, .null, .null, .int 0, .int 0])]) (.inl none, h ++ [.inr (9, [.ref (n + 1), .ref (n + 2), .ref (n + 3), .int 0, .int 0]), .inl (0, mj_arr0 0 24), .inl (0, mj_arr0 0 8), .inl (0, mj_arr0 0 24)]) := by
  refine s_aldn (p' := 1) rfl rfl rfl ?_
  refine s_primN (p' := 4) (q := 3) rfl rfl rfl rfl rfl rfl rfl rfl ?_
  refine s_aldn (p' := 5) rfl rfl rfl ?_
  refine s_bip (p' := 7) rfl rfl ?_
  refine s_naz (p' := 9) (a := n + 1) (n := 24) rfl (len_at hn rfl) rfl rfl ?_
  rw [app_1]
  dsimp only [List.cons_append, List.nil_append, List.set]
  refine s_pf (p' := 12) (fs' := [_, _, _, _, _]) rfl (by omega) (rd_a0 hn (by omega)) (Nat.blt_eq.mp rfl) rfl rfl rfl ?_
  rw [set_a0 hn]
  refine s_aldn (p' := 13) rfl rfl rfl ?_
  refine s_bip (p' := 15) rfl rfl ?_
  refine s_naz (p' := 17) (a := n + 2) (n := 8) rfl (len_at hn rfl) rfl rfl ?_
  rw [app_1]
  dsimp only [List.cons_append, List.nil_append, List.set]
  refine s_pf (p' := 20) (fs' := [_, _, _, _, _]) rfl (by omega) (rd_a0 hn (by omega)) (Nat.blt_eq.mp rfl) rfl rfl rfl ?_
  rw [set_a0 hn]
  refine s_aldn (p' := 21) rfl rfl rfl ?_
  refine s_bip (p' := 23) rfl rfl ?_
  refine s_naz (p' := 25) (a := n + 3) (n := 24) rfl (len_at hn rfl) rfl rfl ?_
  rw [app_1]
  dsimp only [List.cons_append, List.nil_append, List.set]
  refine s_pf (p' := 28) (fs' := [_, _, _, _, _]) rfl (by omega) (rd_a0 hn (by omega)) (Nat.blt_eq.mp rfl) rfl rfl rfl ?_
  rw [set_a0 hn]
  exact s_ret rfl rfl
theorem x_ginit {h : mj_H} {n : Nat} (hn : h.length = n) (hb : n + 2 < mj_CB) : mj_run 1 42 (0, [some (.ref n)], [], h ++ [.inr (10, [.null])]) (.inl none, h ++ [.inr (10, [.ref (n + 1)]), .inl (0, mj_arr0 0 8192)]) := by
  refine s_aldn (p' := 1) rfl rfl rfl ?_
  refine s_primN (p' := 4) (q := 3) rfl rfl rfl rfl rfl rfl rfl rfl ?_
  refine s_aldn (p' := 5) rfl rfl rfl ?_
  refine s_sip (p' := 8) rfl rfl ?_
  refine s_naz (p' := 10) (a := n + 1) (n := 8192) rfl (len_at hn rfl) rfl rfl ?_
  rw [app_1]
  dsimp only [List.cons_append, List.nil_append, List.set]
  refine s_pf (p' := 13) (fs' := [_]) rfl (by omega) (rd_a0 hn (by omega)) (Nat.blt_eq.mp rfl) rfl rfl rfl ?_
  rw [set_a0 hn]
  exact s_ret rfl rfl
theorem x_plinit {h : mj_H} {n : Nat} (hn : h.length = n) (hb : n + 3 < mj_CB) : mj_run 1 225 (0, [some (.ref n)], [], h ++ [.inr (16, [.null, .null, .int 0])]) (.inl none, h ++ [.inr (16, [.ref (n + 1), .ref (n + 2), .int 0]), .inl (0, mj_arr0 0 1024), .inl (0, mj_arr0 0 1024)]) := by
  refine s_aldn (p' := 1) rfl rfl rfl ?_
  refine s_primN (p' := 4) (q := 3) rfl rfl rfl rfl rfl rfl rfl rfl ?_
  refine s_aldn (p' := 5) rfl rfl rfl ?_
  refine s_sip (p' := 8) rfl rfl ?_
  refine s_naz (p' := 10) (a := n + 1) (n := 1024) rfl (len_at hn rfl) rfl rfl ?_
  rw [app_1]
  dsimp only [List.cons_append, List.nil_append, List.set]
  refine s_pf (p' := 13) (fs' := [_, _, _]) rfl (by omega) (rd_a0 hn (by omega)) (Nat.blt_eq.mp rfl) rfl rfl rfl ?_
  rw [set_a0 hn]
  refine s_aldn (p' := 14) rfl rfl rfl ?_
  refine s_sip (p' := 17) rfl rfl ?_
  refine s_naz (p' := 19) (a := n + 2) (n := 1024) rfl (len_at hn rfl) rfl rfl ?_
  rw [app_1]
  dsimp only [List.cons_append, List.nil_append, List.set]
  refine s_pf (p' := 22) (fs' := [_, _, _]) rfl (by omega) (rd_a0 hn (by omega)) (Nat.blt_eq.mp rfl) rfl rfl rfl ?_
  rw [set_a0 hn]
  exact s_ret rfl rfl
abbrev mc_ins : mj_C := .inr (4, [.int (nI 32), .int 0, .int 0, .int (nI 32), .int 0, .int 0, .int 0, .int 0])
theorem x_iinit {h : mj_H} {n : Nat} (hn : h.length = n) (hb : n + 1 < mj_CB) : mj_run 1 5 (0, [some (.ref n)], [], h ++ [.inr (4, [.int 0, .int 0, .int 0, .int 0, .int 0, .int 0, .int 0, .int 0])]) (.inl none, h ++ [mc_ins]) := by
  refine s_aldn (p' := 1) rfl rfl rfl ?_
  refine s_primN (p' := 4) (q := 3) rfl rfl rfl rfl rfl rfl rfl rfl ?_
  refine s_aldn (p' := 5) rfl rfl rfl ?_
  refine s_bip (p' := 7) rfl rfl ?_
  refine s_pf (p' := 10) (fs' := [_, _, _, _, _, _, _, _]) rfl (by omega) (rd_a0 hn (by omega)) (Nat.blt_eq.mp rfl) rfl rfl rfl ?_
  rw [set_a0 hn]
  refine s_aldn (p' := 11) rfl rfl rfl ?_
  refine s_bip (p' := 13) rfl rfl ?_
  refine s_pf (p' := 16) (fs' := [_, _, _, _, _, _, _, _]) rfl (by omega) (rd_a0 hn (by omega)) (Nat.blt_eq.mp rfl) rfl rfl rfl ?_
  rw [set_a0 hn]
  exact s_ret rfl rfl
theorem x_rdinit {h : mj_H} {n : Nat} (hn : h.length = n) (hb : n + 1 < mj_CB) {t c : Nat} : mj_run 1 6 (0, [some (.ref n), some (.ref t), some (.ref c)], [], h ++ [.inr (5, [.null, .null, .int 0, .int 0, .int 0, .int 0])]) (.inl none, h ++ [.inr (5, [.ref t, .ref c, .int 0, .int 0, .int (nI 32), .int 0])]) := by
  refine s_aldn (p' := 1) rfl rfl rfl ?_
  refine s_primN (p' := 4) (q := 3) rfl rfl rfl rfl rfl rfl rfl rfl ?_
  refine s_aldn (p' := 5) rfl rfl rfl ?_
  refine s_bip (p' := 7) rfl rfl ?_
  refine s_pf (p' := 10) (fs' := [_, _, _, _, _, _]) rfl (by omega) (rd_a0 hn (by omega)) (Nat.blt_eq.mp rfl) rfl rfl rfl ?_
  rw [set_a0 hn]
  refine s_aldn (p' := 11) rfl rfl rfl ?_
  refine s_aldn (p' := 12) rfl rfl rfl ?_
  refine s_pf (p' := 15) (fs' := [_, _, _, _, _, _]) rfl (by omega) (rd_a0 hn (by omega)) (Nat.blt_eq.mp rfl) rfl rfl rfl ?_
  rw [set_a0 hn]
  refine s_aldn (p' := 16) rfl rfl rfl ?_
  refine s_aldn (p' := 17) rfl rfl rfl ?_
  refine s_pf (p' := 20) (fs' := [_, _, _, _, _, _]) rfl (by omega) (rd_a0 hn (by omega)) (Nat.blt_eq.mp rfl) rfl rfl rfl ?_
  rw [set_a0 hn]
  exact s_ret rfl rfl
def mc_run (n l s : Nat) : mj_H := [.inr (8, [.ref l, .ref s, .ref (n + 1), .ref (n + 2), .ref (n + 3), .ref (n + 4), .ref (n + 5), .int 0, .int 0, .int 0, .int 0, .int 0, .int 0]), .inl (0, mj_arr0 0 20), .inl (0, mj_arr0 0 20), .inl (2, mj_arr0 2 20), .inl (3, mj_arr0 3 2), .inl (0, mj_arr0 0 2)]
theorem x_runinit {h : mj_H} {n : Nat} (hn : h.length = n) (hb : n + 6 < mj_CB) {l s : Nat} : mj_run 1 9 (0, [some (.ref n), some (.ref l), some (.ref s)], [], h ++ [.inr (8, [.null, .null, .null, .null, .null, .null, .null, .int 0, .int 0, .int 0, .int 0, .int 0, .int 0])]) (.inl none, h ++ mc_run n l s) := by
  refine s_aldn (p' := 1) rfl rfl rfl ?_
  refine s_primN (p' := 4) (q := 3) rfl rfl rfl rfl rfl rfl rfl rfl ?_
  refine s_aldn (p' := 5) rfl rfl rfl ?_
  refine s_bip (p' := 7) rfl rfl ?_
  refine s_naz (p' := 9) (a := n + 1) (n := 20) rfl (len_at hn rfl) rfl rfl ?_
  rw [app_1]
  dsimp only [List.cons_append, List.nil_append, List.set]
  refine s_pf (p' := 12) (fs' := [_, _, _, _, _, _, _, _, _, _, _, _, _]) rfl (by omega) (rd_a0 hn (by omega)) (Nat.blt_eq.mp rfl) rfl rfl rfl ?_
  rw [set_a0 hn]
  refine s_aldn (p' := 13) rfl rfl rfl ?_
  refine s_bip (p' := 15) rfl rfl ?_
  refine s_naz (p' := 17) (a := n + 2) (n := 20) rfl (len_at hn rfl) rfl rfl ?_
  rw [app_1]
  dsimp only [List.cons_append, List.nil_append, List.set]
  refine s_pf (p' := 20) (fs' := [_, _, _, _, _, _, _, _, _, _, _, _, _]) rfl (by omega) (rd_a0 hn (by omega)) (Nat.blt_eq.mp rfl) rfl rfl rfl ?_
  rw [set_a0 hn]
  refine s_aldn (p' := 21) rfl rfl rfl ?_
  refine s_bip (p' := 23) rfl rfl ?_
  refine s_naz (p' := 25) (a := n + 3) (n := 20) rfl (len_at hn rfl) rfl rfl ?_
  rw [app_1]
  dsimp only [List.cons_append, List.nil_append, List.set]
  refine s_pf (p' := 28) (fs' := [_, _, _, _, _, _, _, _, _, _, _, _, _]) rfl (by omega) (rd_a0 hn (by omega)) (Nat.blt_eq.mp rfl) rfl rfl rfl ?_
  rw [set_a0 hn]
  refine s_aldn (p' := 29) rfl rfl rfl ?_
  refine s_con (p' := 30) rfl rfl ?_
  refine s_naz (p' := 32) (a := n + 4) (n := 2) rfl (len_at hn rfl) rfl rfl ?_
  rw [app_1]
  dsimp only [List.cons_append, List.nil_append, List.set]
  refine s_pf (p' := 35) (fs' := [_, _, _, _, _, _, _, _, _, _, _, _, _]) rfl (by omega) (rd_a0 hn (by omega)) (Nat.blt_eq.mp rfl) rfl rfl rfl ?_
  rw [set_a0 hn]
  refine s_aldn (p' := 36) rfl rfl rfl ?_
  refine s_con (p' := 37) rfl rfl ?_
  refine s_naz (p' := 39) (a := n + 5) (n := 2) rfl (len_at hn rfl) rfl rfl ?_
  rw [app_1]
  dsimp only [List.cons_append, List.nil_append, List.set]
  refine s_pf (p' := 42) (fs' := [_, _, _, _, _, _, _, _, _, _, _, _, _]) rfl (by omega) (rd_a0 hn (by omega)) (Nat.blt_eq.mp rfl) rfl rfl rfl ?_
  rw [set_a0 hn]
  refine s_aldn (p' := 43) rfl rfl rfl ?_
  refine s_aldn (p' := 44) rfl rfl rfl ?_
  refine s_pf (p' := 47) (fs' := [_, _, _, _, _, _, _, _, _, _, _, _, _]) rfl (by omega) (rd_a0 hn (by omega)) (Nat.blt_eq.mp rfl) rfl rfl rfl ?_
  rw [set_a0 hn]
  refine s_aldn (p' := 48) rfl rfl rfl ?_
  refine s_aldn (p' := 49) rfl rfl rfl ?_
  refine s_pf (p' := 52) (fs' := [_, _, _, _, _, _, _, _, _, _, _, _, _]) rfl (by omega) (rd_a0 hn (by omega)) (Nat.blt_eq.mp rfl) rfl rfl rfl ?_
  rw [set_a0 hn]
  exact s_ret rfl rfl
