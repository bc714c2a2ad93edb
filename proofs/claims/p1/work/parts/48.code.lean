/-! Code, Procedure, Library. -/
def mc_af (n i : Nat) : Nat → Option Nat := fun j => if j < i then some (n + (j + 3)) else none
theorem mc_af_up (n i : Nat) : va_up (mc_af n i) i (some (n + (i + 3))) = mc_af n (i + 1) := by
  funext j
  unfold va_up mc_af
  by_cases h1 : j = i
  · subst h1
    rw [if_pos rfl, if_pos (by omega)]
  · rw [if_neg h1]
    by_cases h2 : j < i
    · rw [if_pos h2, if_pos (by omega)]
    · rw [if_neg h2, if_neg (by omega)]
theorem mc_af_0 (n : Nat) : (fun _ => none) = mc_af n 0 := by
  funext j
  unfold mc_af
  rw [if_neg (by omega)]
abbrev mc_cd (n : Nat) : mj_C := .inr (3, [.ref (n + 1), .ref (n + 2), .int 0])
abbrev mc_ar (n i : Nat) : mj_C := .inl (7, (30, .inr (.inr (.inr (.inr (mc_af n i))))))
theorem rep_get {a b c d : mj_C} {i : Nat} : (a :: b :: c :: List.replicate (i + 1) d)[i + 3]? = some d := by
  show (List.replicate (i + 1) d)[i]? = some d
  rw [List.getElem?_replicate, if_pos (by omega)]
theorem x_cloop {h : mj_H} {n : Nat} (hn : h.length = n) (hb : n + 40 < mj_CB) : ∀ (r i : Nat), i + r = 30 → mj_run 2 4 (26, [some (.ref n), some (.int (nI i))], [], h ++ (mc_cd n :: mc_ar n i :: mc_ins :: List.replicate i mc_ins)) (.inl none, h ++ (mc_cd n :: mc_ar n 30 :: mc_ins :: List.replicate 30 mc_ins))
  | 0, i, hi => by
    obtain rfl : i = 30 := by omega
    refine s_ildn (p' := 27) rfl rfl rfl ?_
    refine s_aldn (p' := 28) rfl rfl rfl ?_
    refine s_gf (p' := 31) rfl (rd_a0 hn (by omega)) rfl rfl ?_
    refine s_len (p' := 32) rfl (mj_rdA_is (rd_at (j := 1) hn (by omega) rfl) (by decide)) (by decide) rfl ?_
    refine s_icmp (p' := 54) true rfl ((ci_ge (by omega) (by omega)).trans (decide_eq_true (by omega))) rfl ?_
    exact s_ret rfl rfl
  | r + 1, i, hi => by
    have ih := fun i => x_cloop hn hb r i
    refine s_ildn (p' := 27) rfl rfl rfl ?_
    refine s_aldn (p' := 28) rfl rfl rfl ?_
    refine s_gf (p' := 31) rfl (rd_a0 hn (by omega)) rfl rfl ?_
    refine s_len (p' := 32) rfl (mj_rdA_is (rd_at (j := 1) hn (by omega) rfl) (by decide)) (by decide) rfl ?_
    refine s_icmp (p' := 35) false rfl ((ci_ge (by omega) (by omega)).trans (decide_eq_false (by omega))) rfl ?_
    refine s_aldn (p' := 36) rfl rfl rfl ?_
    refine s_gf (p' := 39) rfl (rd_a0 hn (by omega)) rfl rfl ?_
    refine s_ildn (p' := 40) rfl rfl rfl ?_
    refine s_newz (p' := 43) (a := n + (i + 3)) rfl (len_at hn (by simp)) rfl rfl ?_
    refine s_sp (p' := 44) (ls' := _) rfl rfl rfl ?_
    refine s_callN (p' := 47) (ls0 := [_]) rfl rfl rfl rfl rfl (mj_rcv_is (rd_a0 (len_at hn (by simp)) (by omega))) rfl (x_iinit (h := h ++ (mc_cd n :: mc_ar n i :: mc_ins :: List.replicate i mc_ins)) (n := n + (i + 3)) (len_at hn (by simp)) (by omega)) (by decide) rfl ?_
    rw [app_1]
    dsimp only [List.cons_append, List.nil_append, List.set]
    rw [← List.replicate_succ']
    refine s_aas (p' := 48) rfl (by omega) (rd_at (j := 1) hn (by omega) rfl) (by decide) (inb_nI (by omega) (by omega)) (rd_at (j := i + 3) hn (by omega) rep_get) rfl rfl ?_
    rw [set_at (j := 1) hn, mI_cl (by omega), mc_af_up]
    dsimp only [List.cons_append, List.nil_append, List.set]
    refine s_inc (p' := 51) (ls' := [_, _]) rfl rfl rfl rfl rfl ?_
    rw [mI_add]
    refine s_goto (p' := 26) rfl rfl ?_
    exact ih (i + 1) (by omega)
theorem x_cdinit {h : mj_H} {n : Nat} (hn : h.length = n) (hb : n + 40 < mj_CB) : mj_run 2 4 (0, [some (.ref n), none], [], h ++ [.inr (3, [.null, .null, .int 0])]) (.inl none, h ++ (mc_cd n :: mc_ar n 30 :: mc_ins :: List.replicate 30 mc_ins)) := by
  refine s_aldn (p' := 1) rfl rfl rfl ?_
  refine s_primN (p' := 4) (q := 3) rfl rfl rfl rfl rfl rfl rfl rfl ?_
  refine s_aldn (p' := 5) rfl rfl rfl ?_
  refine s_bip (p' := 7) rfl rfl ?_
  refine s_anaz (p' := 10) (a := n + 1) (n := 30) rfl (len_at hn rfl) rfl rfl ?_
  rw [app_1]
  dsimp only [List.cons_append, List.nil_append, List.set]
  refine s_pf (p' := 13) (fs' := [_, _, _]) rfl (by omega) (rd_a0 hn (by omega)) (Nat.blt_eq.mp rfl) rfl rfl rfl ?_
  rw [set_a0 hn]
  refine s_aldn (p' := 14) rfl rfl rfl ?_
  refine s_newz (p' := 17) (a := n + 2) rfl (len_at hn rfl) rfl rfl ?_
  refine s_sp (p' := 18) (ls' := _) rfl rfl rfl ?_
  refine s_callN (p' := 21) (ls0 := [_]) rfl rfl rfl rfl rfl (mj_rcv_is (rd_a0 (len_at hn rfl) (by omega))) rfl (x_iinit (h := h ++ [.inr (3, [.ref (n + 1), .null, .int 0]), .inl (7, mj_arr0 7 30)]) (n := n + 2) (len_at hn rfl) (by omega)) (by decide) rfl ?_
  rw [app_1]
  dsimp only [List.cons_append, List.nil_append, List.set]
  refine s_pf (p' := 24) (fs' := [_, _, _]) rfl (by omega) (rd_a0 hn (by omega)) (Nat.blt_eq.mp rfl) rfl rfl rfl ?_
  rw [set_a0 hn]
  refine s_con (p' := 25) rfl rfl ?_
  refine s_istn (p' := 26) (ls' := [_, _]) rfl rfl rfl rfl ?_
  have hz : (Sum.inl (7, mj_arr0 7 30) : mj_C) = mc_ar n 0 := by
    show (Sum.inl (7, (30, .inr (.inr (.inr (.inr (fun _ => none)))))) : mj_C) = _
    rw [mc_af_0 n]
  rw [hz]
  exact x_cloop hn hb 30 0 rfl
/-- a procedure's cells: text, signs, code, row, none, 30 instructions, reader -/
def mc_proc (n : Nat) : mj_H := .inr (1, [.ref (n + 1), .ref (n + 3), .ref (n + 36)]) :: .inr (2, [.ref (n + 2), .int 0]) :: .inl (3, mj_arr0 3 60) :: mc_cd (n + 3) :: mc_ar (n + 3) 30 :: mc_ins :: (List.replicate 30 mc_ins ++ [.inr (5, [.ref (n + 1), .ref (n + 3), .int 0, .int 0, .int (nI 32), .int 0])])
theorem mc_proc_len (n : Nat) : (mc_proc n).length = 37 := rfl
theorem x_prinit {h : mj_H} {n : Nat} (hn : h.length = n) (hb : n + 50 < mj_CB) : mj_run 3 2 (0, [some (.ref n)], [], h ++ [.inr (1, [.null, .null, .null])]) (.inl none, h ++ mc_proc n) := by
  refine s_aldn (p' := 1) rfl rfl rfl ?_
  refine s_primN (p' := 4) (q := 3) rfl rfl rfl rfl rfl rfl rfl rfl ?_
  refine s_aldn (p' := 5) rfl rfl rfl ?_
  refine s_newz (p' := 8) (a := n + 1) rfl (len_at hn rfl) rfl rfl ?_
  refine s_sp (p' := 9) (ls' := _) rfl rfl rfl ?_
  refine s_callN (p' := 12) (ls0 := [_]) rfl rfl rfl rfl rfl (mj_rcv_is (rd_a0 (len_at hn rfl) (by omega))) rfl (x_tinit (h := h ++ [.inr (1, [.null, .null, .null])]) (n := n + 1) (len_at hn rfl) (by omega)) (by decide) rfl ?_
  rw [List.append_assoc]
  dsimp only [List.cons_append, List.nil_append, List.set]
  refine s_pf (p' := 15) (fs' := [_, _, _]) rfl (by omega) (rd_a0 hn (by omega)) (Nat.blt_eq.mp rfl) rfl rfl rfl ?_
  rw [set_a0 hn]
  refine s_aldn (p' := 16) rfl rfl rfl ?_
  refine s_newz (p' := 19) (a := n + 3) rfl (len_at hn rfl) rfl rfl ?_
  refine s_sp (p' := 20) (ls' := _) rfl rfl rfl ?_
  refine s_callN (p' := 23) (ls0 := [_, _]) rfl rfl rfl rfl rfl (mj_rcv_is (rd_a0 (len_at hn rfl) (by omega))) rfl (x_cdinit (h := h ++ [.inr (1, [.ref (n + 1), .null, .null]), .inr (2, [.ref (n + 2), .int 0]), .inl (3, mj_arr0 3 60)]) (n := n + 3) (len_at hn rfl) (by omega)) (by decide) rfl ?_
  rw [List.append_assoc]
  dsimp only [List.cons_append, List.nil_append, List.set]
  refine s_pf (p' := 26) (fs' := [_, _, _]) rfl (by omega) (rd_a0 hn (by omega)) (Nat.blt_eq.mp rfl) rfl rfl rfl ?_
  rw [set_a0 hn]
  refine s_aldn (p' := 27) rfl rfl rfl ?_
  refine s_newz (p' := 30) (a := n + 36) rfl (len_at hn rfl) rfl rfl ?_
  refine s_sp (p' := 31) (ls' := _) rfl rfl rfl ?_
  refine s_aldn (p' := 32) rfl rfl rfl ?_
  refine s_gf (p' := 35) rfl (rd_app (rd_a0 hn (by omega))) rfl rfl ?_
  refine s_aldn (p' := 36) rfl rfl rfl ?_
  refine s_gf (p' := 39) rfl (rd_app (rd_a0 hn (by omega))) rfl rfl ?_
  refine s_callN (p' := 42) (ls0 := [_, _, _]) rfl rfl rfl rfl rfl (mj_rcv_is (rd_a0 (len_at hn rfl) (by omega))) rfl (x_rdinit (h := h ++ (.inr (1, [.ref (n + 1), .ref (n + 3), .null]) :: .inr (2, [.ref (n + 2), .int 0]) :: .inl (3, mj_arr0 3 60) :: mc_cd (n + 3) :: mc_ar (n + 3) 30 :: mc_ins :: List.replicate 30 mc_ins)) (n := n + 36) (len_at hn rfl) (by omega)) (by decide) rfl ?_
  rw [app_1]
  dsimp only [List.cons_append, List.nil_append, List.set]
  refine s_pf (p' := 45) (fs' := [_, _, _]) rfl (by omega) (rd_a0 hn (by omega)) (Nat.blt_eq.mp rfl) rfl rfl rfl ?_
  rw [set_a0 hn]
  exact s_ret rfl rfl
def mc_ps (b : Nat) : Nat → mj_H
  | 0 => []
  | i + 1 => mc_ps b i ++ mc_proc (b + 37 * i)
theorem mc_ps_len (b : Nat) : ∀ i, (mc_ps b i).length = 37 * i
  | 0 => rfl
  | i + 1 => by
    show (mc_ps b i ++ mc_proc (b + 37 * i)).length = _
    rw [List.length_append, mc_ps_len b i, mc_proc_len]
    omega
def mc_lf (n i : Nat) : Nat → Option Nat := fun j => if j < i then some (n + (39 + 37 * j)) else none
theorem mc_lf_up (n i : Nat) : va_up (mc_lf n i) i (some (n + (39 + 37 * i))) = mc_lf n (i + 1) := by
  funext j
  unfold va_up mc_lf
  by_cases h1 : j = i
  · subst h1
    rw [if_pos rfl, if_pos (by omega)]
  · rw [if_neg h1]
    by_cases h2 : j < i
    · rw [if_pos h2, if_pos (by omega)]
    · rw [if_neg h2, if_neg (by omega)]
theorem mc_lf_0 (n : Nat) : (fun _ => none) = mc_lf n 0 := by
  funext j
  unfold mc_lf
  rw [if_neg (by omega)]
abbrev mc_lb (n : Nat) : mj_C := .inr (6, [.ref (n + 1), .ref (n + 2), .int 0])
abbrev mc_lr (n i : Nat) : mj_C := .inl (8, (6, .inr (.inr (.inr (.inr (mc_lf n i))))))
/-- a library's cells: itself, its row, none, six procedures -/
def mc_lib (n i : Nat) : mj_H := mc_lb n :: mc_lr n i :: (mc_proc (n + 2) ++ mc_ps (n + 39) i)
theorem mc_lib_len (n i : Nat) : (mc_lib n i).length = 39 + 37 * i := by
  show (mc_proc (n + 2) ++ mc_ps (n + 39) i).length + 1 + 1 = _
  rw [List.length_append, mc_ps_len, mc_proc_len]
  omega
theorem mc_lib_get (n i : Nat) : (mc_lib n i ++ mc_proc (n + (39 + 37 * i)))[39 + 37 * i]? = some (.inr (1, [.ref (n + (39 + 37 * i) + 1), .ref (n + (39 + 37 * i) + 3), .ref (n + (39 + 37 * i) + 36)])) := by
  rw [List.getElem?_append_right (by rw [mc_lib_len]; omega), mc_lib_len, Nat.sub_self]
  rfl
theorem x_lloop {h : mj_H} {n : Nat} (hn : h.length = n) (hb : n + 400 < mj_CB) : ∀ (r i : Nat), i + r = 6 → mj_run 4 7 (26, [some (.ref n), some (.int (nI i))], [], h ++ mc_lib n i) (.inl none, h ++ mc_lib n 6)
  | 0, i, hi => by
    obtain rfl : i = 6 := by omega
    refine s_ildn (p' := 27) rfl rfl rfl ?_
    refine s_aldn (p' := 28) rfl rfl rfl ?_
    refine s_gf (p' := 31) rfl (rd_a0 hn (by omega)) rfl rfl ?_
    refine s_len (p' := 32) rfl (mj_rdA_is (rd_at (j := 1) hn (by omega) rfl) (by decide)) (by decide) rfl ?_
    refine s_icmp (p' := 54) true rfl ((ci_ge (by omega) (by omega)).trans (decide_eq_true (by omega))) rfl ?_
    exact s_ret rfl rfl
  | r + 1, i, hi => by
    have ih := fun i => x_lloop hn hb r i
    refine s_ildn (p' := 27) rfl rfl rfl ?_
    refine s_aldn (p' := 28) rfl rfl rfl ?_
    refine s_gf (p' := 31) rfl (rd_a0 hn (by omega)) rfl rfl ?_
    refine s_len (p' := 32) rfl (mj_rdA_is (rd_at (j := 1) hn (by omega) rfl) (by decide)) (by decide) rfl ?_
    refine s_icmp (p' := 35) false rfl ((ci_ge (by omega) (by omega)).trans (decide_eq_false (by omega))) rfl ?_
    refine s_aldn (p' := 36) rfl rfl rfl ?_
    refine s_gf (p' := 39) rfl (rd_a0 hn (by omega)) rfl rfl ?_
    refine s_ildn (p' := 40) rfl rfl rfl ?_
    refine s_newz (p' := 43) (a := n + (39 + 37 * i)) rfl (len_at hn (mc_lib_len n i)) rfl rfl ?_
    refine s_sp (p' := 44) (ls' := _) rfl rfl rfl ?_
    refine s_callN (p' := 47) (ls0 := [_]) rfl rfl rfl rfl rfl (mj_rcv_is (rd_a0 (len_at hn (mc_lib_len n i)) (by omega))) rfl (x_prinit (h := h ++ mc_lib n i) (n := n + (39 + 37 * i)) (len_at hn (mc_lib_len n i)) (by omega)) (by decide) rfl ?_
    rw [List.append_assoc]
    refine s_aas (p' := 48) rfl (by omega) (rd_at (j := 1) hn (by omega) rfl) (by decide) (inb_nI (by omega) (by omega)) (rd_at (j := 39 + 37 * i) hn (by omega) (mc_lib_get n i)) rfl rfl ?_
    rw [set_at (j := 1) hn, mI_cl (by omega), mc_lf_up]
    have hz : (mc_lib n i ++ mc_proc (n + (39 + 37 * i))).set 1 (mc_lr n (i + 1)) = mc_lib n (i + 1) := by
      show mc_lb n :: mc_lr n (i + 1) :: ((mc_proc (n + 2) ++ mc_ps (n + 39) i) ++ mc_proc (n + (39 + 37 * i))) = mc_lb n :: mc_lr n (i + 1) :: (mc_proc (n + 2) ++ (mc_ps (n + 39) i ++ mc_proc (n + 39 + 37 * i)))
      rw [List.append_assoc, Nat.add_assoc n 39]
    rw [hz]
    refine s_inc (p' := 51) (ls' := [_, _]) rfl rfl rfl rfl rfl ?_
    rw [mI_add]
    refine s_goto (p' := 26) rfl rfl ?_
    exact ih (i + 1) (by omega)
theorem x_linit {h : mj_H} {n : Nat} (hn : h.length = n) (hb : n + 400 < mj_CB) : mj_run 4 7 (0, [some (.ref n), none], [], h ++ [.inr (6, [.null, .null, .int 0])]) (.inl none, h ++ mc_lib n 6) := by
  refine s_aldn (p' := 1) rfl rfl rfl ?_
  refine s_primN (p' := 4) (q := 3) rfl rfl rfl rfl rfl rfl rfl rfl ?_
  refine s_aldn (p' := 5) rfl rfl rfl ?_
  refine s_bip (p' := 7) rfl rfl ?_
  refine s_anaz (p' := 10) (a := n + 1) (n := 6) rfl (len_at hn rfl) rfl rfl ?_
  rw [app_1]
  dsimp only [List.cons_append, List.nil_append, List.set]
  refine s_pf (p' := 13) (fs' := [_, _, _]) rfl (by omega) (rd_a0 hn (by omega)) (Nat.blt_eq.mp rfl) rfl rfl rfl ?_
  rw [set_a0 hn]
  refine s_aldn (p' := 14) rfl rfl rfl ?_
  refine s_newz (p' := 17) (a := n + 2) rfl (len_at hn rfl) rfl rfl ?_
  refine s_sp (p' := 18) (ls' := _) rfl rfl rfl ?_
  refine s_callN (p' := 21) (ls0 := [_]) rfl rfl rfl rfl rfl (mj_rcv_is (rd_a0 (len_at hn rfl) (by omega))) rfl (x_prinit (h := h ++ [.inr (6, [.ref (n + 1), .null, .int 0]), .inl (8, mj_arr0 8 6)]) (n := n + 2) (len_at hn rfl) (by omega)) (by decide) rfl ?_
  rw [List.append_assoc]
  dsimp only [List.cons_append, List.nil_append, List.set]
  refine s_pf (p' := 24) (fs' := [_, _, _]) rfl (by omega) (rd_a0 hn (by omega)) (Nat.blt_eq.mp rfl) rfl rfl rfl ?_
  rw [set_a0 hn]
  refine s_con (p' := 25) rfl rfl ?_
  refine s_istn (p' := 26) (ls' := [_, _]) rfl rfl rfl rfl ?_
  have hz : h ++ (.inr (6, [.ref (n + 1), .ref (n + 2), .int 0]) :: .inl (8, mj_arr0 8 6) :: mc_proc (n + 2)) = h ++ mc_lib n 0 := by
    have : (Sum.inl (8, mj_arr0 8 6) : mj_C) = mc_lr n 0 := by
      show (Sum.inl (8, (6, .inr (.inr (.inr (.inr (fun _ => none)))))) : mj_C) = _
      rw [mc_lf_0 n]
    rw [this]
    show _ = h ++ (mc_lb n :: mc_lr n 0 :: (mc_proc (n + 2) ++ []))
    rw [List.append_nil]
  rw [hz]
  exact x_lloop hn hb 6 0 rfl
