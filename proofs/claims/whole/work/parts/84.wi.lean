/-! Rounds on any state: wipe. -/
theorem mI_shr0 {a : Nat} (ha : a < 1000) : nI a >>> (nI 0 &&& 31) = nI a :=
  of_decide_eq_true (List.all_eq_true.mp (show ((List.range 1000).all fun a => decide (nI a >>> (nI 0 &&& 31) = nI a)) = true by decide +kernel) a (List.mem_range.mpr ha))
theorem w_1_l {L i N : Nat} {xs : Nat → Int32} {h : mj_H} {l6 l7 l8 l9 : Option Value} {P : mj_H → Prop} (hL : L ≤ 2048) (hi : i + 4 ≤ L) (hN : N + 2000 < mj_CB) (hN0 : 414 ≤ N) (HL : h.length = N) (hk : xs i &&& nI 63 = nI 1) {gs pl ty wa nw nx dp ca mf : Value} {th : Int32} {sd be : Int64} {ou : Nat → Int64} {vf wf sf uf im jm : Nat → Int32} {k g : Nat} (hk20 : k ≤ 20) (hvw : ∀ j, j < 8 → wf j = vf j) (hsu : ∀ j, j < k → uf j = sf j) (him : ∀ j, j < 8 → jm j = im j) {pe pm ge gm : Value} {q : Nat} (hq6 : q ≤ 6) (hg24 : g ≤ 24) {ys : List Value} {Y Yb n : Nat} {yb : Nat → Int32} (hn60 : n ≤ 60) (hY0 : 414 ≤ Y) (hYb0 : 414 ≤ Yb)  (H0 : mj_rd h 0 = some (.inr (0, [.ref 1, .ref 38, .ref 299, .ref 336, .ref 373, .ref 375, .ref 378, .ref 381, .ref 387, .ref 393, gs, pl, .ref 397, .ref 398, .ref 399, .long sd, .long be]))) (H1 : mj_rd h 1 = some (.inr (1, [.ref 2, .ref 4, .ref 37]))) (H2 : mj_rd h 2 = some (.inr (2, [.ref 3, .int (nI n)]))) (H400 : mj_rd h 400 = some (.inr (17, [.int th, .ref 401, .ref 402, .ref Y, .long sd, .long be, .ref 410, wa, nw, nx, .ref 411]))) (HY : mj_rd h Y = some (.inr (21, .ref Yb :: .int (nI 0) :: ys))) (HYb : mj_rd h Yb = some (.inl (1, (n, .inl (yb))))) (hn : ∀ (l6 l7 l8 l9 : Option Value) (h' : mj_H), mj_rd h' 2 = some (.inr (2, [.ref 3, .int (nI 0)])) ∧ mj_rd h' 400 = some (.inr (17, [.int (nI 0), .ref 401, .ref 402, .ref 1000300, .long sd, .long be, .ref 410, wa, nw, nx, .ref 411])) ∧ mz_fr [2, 400] h h' ∧ h'.length ≤ N + 0 ∧ mj_sz h' ≤ mj_sz h + 0 → mj_lrun L xs (28, [some (.retAddr 1), some (.ref 0), some (.ref 400), some (.ref 412), some (.ref 413), some (.int (nI (i + 4))), l6, l7, l8, l9], [], h') P) : mj_lrun L xs (28, [some (.retAddr 1), some (.ref 0), some (.ref 400), some (.ref 412), some (.ref 413), some (.int (nI i)), l6, l7, l8, l9], [], h) P := by
  refine l_ild (p' := 30) rfl rfl rfl rfl ?_
  refine l_alds (p' := 31) rfl rfl rfl rfl ?_
  refine l_lens (p' := 32) rfl rfl rfl ?_
  refine l_con (p' := 33) rfl rfl rfl ?_
  refine l_bz (p' := 34) (z := (nI (L - 4))) rfl rfl rfl rfl rfl (mI_sub (by omega)) ?_
  refine l_icmp (p' := 37) false rfl rfl ((ci_gt (by omega) (by omega)).trans (decide_eq_false (by omega))) rfl ?_
  refine l_alds (p' := 38) rfl rfl rfl rfl ?_
  refine l_ild (p' := 40) rfl rfl rfl rfl ?_
  refine l_ialz (p' := 41) (m := i) (z := (xs i)) rfl rfl (inb_nI (by omega) (by omega)) (mI_cl (by omega)) rfl rfl ?_
  refine l_bip (p' := 43) rfl rfl rfl ?_
  refine l_bz (p' := 44) (z := (nI 1)) rfl rfl rfl rfl rfl hk ?_
  refine l_sp (p' := 318) (ls' := _) rfl rfl rfl rfl rfl ?_
  refine l_aldn (p' := 319) rfl rfl rfl rfl ?_
  refine l_call (p' := 322) (kc := 99) (ls0 := [_, _]) rfl rfl rfl rfl rfl rfl (mj_rcv_is H0) rfl rfl rfl ?_
  refine s_aldn (p' := 1) rfl rfl rfl ?_
  refine s_gf (p' := 4) rfl H0 rfl rfl ?_
  refine s_gf (p' := 7) rfl H1 rfl rfl ?_
  refine c_call (p' := 10) (kc := 98) (ls0 := [_]) rfl rfl rfl rfl rfl (mj_rcv_is H2) rfl rfl rfl ?_
  refine s_aldn (p' := 1) rfl rfl rfl ?_
  refine s_gf (p' := 4) rfl H2 rfl rfl ?_
  refine c_iret rfl rfl ?_
  refine s_istn (p' := 11) (ls' := [_, _]) rfl rfl rfl rfl ?_
  refine s_aldn (p' := 12) rfl rfl rfl ?_
  refine s_gf (p' := 15) rfl H0 rfl rfl ?_
  refine s_gf (p' := 18) rfl H1 rfl rfl ?_
  refine c_call (p' := 21) (kc := 98) (ls0 := [_]) rfl rfl rfl rfl rfl (mj_rcv_is H2) rfl rfl rfl ?_
  refine s_aldn (p' := 1) rfl rfl rfl ?_
  refine s_con (p' := 2) rfl rfl ?_
  refine s_pfz (p' := 5) (fs' := [_, _]) rfl rfl H2 rfl rfl rfl rfl ?_
  refine c_ret rfl ?_
  refine s_ildn (p' := 22) rfl rfl rfl ?_
  refine k_iret rfl rfl ?_
  refine l_aldn (p' := 323) rfl rfl rfl rfl ?_
  refine l_call (p' := 326) (kc := 99) (ls0 := [_, _]) rfl rfl rfl rfl rfl rfl (mj_rcv_is (rd_sn rfl H400)) rfl rfl rfl ?_
  refine s_aldn (p' := 1) rfl rfl rfl ?_
  refine s_con (p' := 2) rfl rfl ?_
  refine s_pfz (p' := 5) (fs' := [_, _, _, _, _, _, _, _, _, _, _]) rfl rfl (rd_sn rfl H400) rfl rfl rfl rfl ?_
  refine s_aldn (p' := 6) rfl rfl rfl ?_
  refine s_gf (p' := 9) rfl (rd_ss rfl (rd_sn rfl H400)) rfl rfl ?_
  refine c_call (p' := 12) (kc := 98) (ls0 := [_]) rfl rfl rfl rfl rfl (mj_rcv_is (rd_sn (beq_eq_false_iff_ne.mpr (by omega)) (rd_sn (beq_eq_false_iff_ne.mpr (by omega)) HY))) rfl rfl rfl ?_
  refine s_aldn (p' := 1) rfl rfl rfl ?_
  refine s_gf (p' := 4) rfl (rd_sn (beq_eq_false_iff_ne.mpr (by omega)) (rd_sn (beq_eq_false_iff_ne.mpr (by omega)) HY)) rfl rfl ?_
  refine s_lenz (p' := 5) rfl (mj_rdA_is (rd_sn (beq_eq_false_iff_ne.mpr (by omega)) (rd_sn (beq_eq_false_iff_ne.mpr (by omega)) HYb)) (by decide)) rfl rfl ?_
  refine s_aldn (p' := 6) rfl rfl rfl ?_
  refine c_call (p' := 9) (kc := 97) (ls0 := [_]) rfl rfl rfl rfl rfl (mj_rcv_is (rd_sn (beq_eq_false_iff_ne.mpr (by omega)) (rd_sn (beq_eq_false_iff_ne.mpr (by omega)) HY))) rfl rfl rfl ?_
  refine s_sh (p' := 3) (ls' := _) (st' := .int (nI 1) :: _) (h' := _) rfl rfl rfl rfl ?_
  refine s_if (p' := 6) false rfl (by decide +kernel) rfl ?_
  refine s_aldn (p' := 7) rfl rfl rfl ?_
  refine s_gf (p' := 10) rfl (rd_sn (beq_eq_false_iff_ne.mpr (by omega)) (rd_sn (beq_eq_false_iff_ne.mpr (by omega)) HY)) rfl rfl ?_
  refine s_goto (p' := 14) rfl rfl ?_
  refine c_iret rfl (by decide +kernel) ?_
  refine s_bz (p' := 10) (z := (nI n)) rfl rfl rfl (mI_shr0 (by omega)) ?_
  refine c_iret rfl rfl ?_
  refine s_istn (p' := 13) (ls' := [_, _]) rfl rfl rfl rfl ?_
  refine s_aldn (p' := 14) rfl rfl rfl ?_
  refine s_sh (p' := 16) (ls' := _) (st' := .ref 1000300 :: _) (h' := _) rfl rfl rfl rfl ?_
  refine s_pfz (p' := 19) (fs' := [_, _, _, _, _, _, _, _, _, _, _]) rfl rfl (rd_ss rfl (rd_sn rfl H400)) rfl rfl rfl rfl ?_
  refine s_ildn (p' := 20) rfl rfl rfl ?_
  refine k_iret rfl rfl ?_
  refine l_icmp (p' := 2541) true rfl rfl (decide_eq_true rfl) rfl ?_
  refine l_incz (p' := 2544) (w := (nI (i + 4))) (ls' := [_, _, _, _, _, _, _, _, _, _]) rfl rfl rfl rfl (mI_add _ _) rfl rfl ?_
  refine l_goto (p' := 28) rfl rfl rfl ?_
  exact hn _ _ _ _ _ ⟨(rd_sn rfl (rd_sn rfl (rd_ss rfl H2))), (rd_ss rfl (rd_ss rfl (rd_sn rfl H400))), (mz_fr.s (by decide) (mz_fr.s (by decide) (mz_fr.s (by decide) (mz_fr.rf _ h)))), (Nat.le_trans (Nat.le_of_eq (len_s (len_s (len_s HL)))) (by omega)), (Nat.le_trans (sz_s rfl (rd_ss rfl (rd_sn rfl H400)) rfl (sz_s rfl (rd_sn rfl H400) rfl (sz_s rfl H2 rfl (Nat.le_refl (mj_sz h))))) (by omega))⟩
theorem w_1_u {L i N : Nat} {xs : Nat → Int32} {h : mj_H} {l6 l7 l8 l9 : Option Value} {P : mj_H → Prop} (hL : L ≤ 2048) (hi : i + 4 ≤ L) (hN : N + 2000 < mj_CB) (hN0 : 414 ≤ N) (HL : h.length = N) (hk : xs i &&& nI 63 = nI 1) {gs pl ty wa nw nx dp ca mf : Value} {th : Int32} {sd be : Int64} {ou : Nat → Int64} {vf wf sf uf im jm : Nat → Int32} {k g : Nat} (hk20 : k ≤ 20) (hvw : ∀ j, j < 8 → wf j = vf j) (hsu : ∀ j, j < k → uf j = sf j) (him : ∀ j, j < 8 → jm j = im j) {pe pm ge gm : Value} {q : Nat} (hq6 : q ≤ 6) (hg24 : g ≤ 24) {ys : List Value} {Y Yb n : Nat} {yb : Nat → Int32} (hn60 : n ≤ 60) (hY0 : 414 ≤ Y) (hYb0 : 414 ≤ Yb)  (H0 : mj_rd h 0 = some (.inr (0, [.ref 1, .ref 38, .ref 299, .ref 336, .ref 373, .ref 375, .ref 378, .ref 381, .ref 387, .ref 393, gs, pl, .ref 397, .ref 398, .ref 399, .long sd, .long be]))) (H1 : mj_rd h 1 = some (.inr (1, [.ref 2, .ref 4, .ref 37]))) (H2 : mj_rd h 2 = some (.inr (2, [.ref 3, .int (nI n)]))) (H400 : mj_rd h 400 = some (.inr (17, [.int th, .ref 401, .ref 402, .ref Y, .long sd, .long be, .ref 410, wa, nw, nx, .ref 411]))) (HY : mj_rd h Y = some (.inr (21, .ref Yb :: .int (nI 1) :: ys))) (HYb : mj_rd h Yb = some (.inl (1, ((2 * n), .inl (yb))))) (hn : ∀ (l6 l7 l8 l9 : Option Value) (h' : mj_H), mj_rd h' 2 = some (.inr (2, [.ref 3, .int (nI 0)])) ∧ mj_rd h' 400 = some (.inr (17, [.int (nI 0), .ref 401, .ref 402, .ref 1000300, .long sd, .long be, .ref 410, wa, nw, nx, .ref 411])) ∧ mz_fr [2, 400] h h' ∧ h'.length ≤ N + 0 ∧ mj_sz h' ≤ mj_sz h + 0 → mj_lrun L xs (28, [some (.retAddr 1), some (.ref 0), some (.ref 400), some (.ref 412), some (.ref 413), some (.int (nI (i + 4))), l6, l7, l8, l9], [], h') P) : mj_lrun L xs (28, [some (.retAddr 1), some (.ref 0), some (.ref 400), some (.ref 412), some (.ref 413), some (.int (nI i)), l6, l7, l8, l9], [], h) P := by
  refine l_ild (p' := 30) rfl rfl rfl rfl ?_
  refine l_alds (p' := 31) rfl rfl rfl rfl ?_
  refine l_lens (p' := 32) rfl rfl rfl ?_
  refine l_con (p' := 33) rfl rfl rfl ?_
  refine l_bz (p' := 34) (z := (nI (L - 4))) rfl rfl rfl rfl rfl (mI_sub (by omega)) ?_
  refine l_icmp (p' := 37) false rfl rfl ((ci_gt (by omega) (by omega)).trans (decide_eq_false (by omega))) rfl ?_
  refine l_alds (p' := 38) rfl rfl rfl rfl ?_
  refine l_ild (p' := 40) rfl rfl rfl rfl ?_
  refine l_ialz (p' := 41) (m := i) (z := (xs i)) rfl rfl (inb_nI (by omega) (by omega)) (mI_cl (by omega)) rfl rfl ?_
  refine l_bip (p' := 43) rfl rfl rfl ?_
  refine l_bz (p' := 44) (z := (nI 1)) rfl rfl rfl rfl rfl hk ?_
  refine l_sp (p' := 318) (ls' := _) rfl rfl rfl rfl rfl ?_
  refine l_aldn (p' := 319) rfl rfl rfl rfl ?_
  refine l_call (p' := 322) (kc := 99) (ls0 := [_, _]) rfl rfl rfl rfl rfl rfl (mj_rcv_is H0) rfl rfl rfl ?_
  refine s_aldn (p' := 1) rfl rfl rfl ?_
  refine s_gf (p' := 4) rfl H0 rfl rfl ?_
  refine s_gf (p' := 7) rfl H1 rfl rfl ?_
  refine c_call (p' := 10) (kc := 98) (ls0 := [_]) rfl rfl rfl rfl rfl (mj_rcv_is H2) rfl rfl rfl ?_
  refine s_aldn (p' := 1) rfl rfl rfl ?_
  refine s_gf (p' := 4) rfl H2 rfl rfl ?_
  refine c_iret rfl rfl ?_
  refine s_istn (p' := 11) (ls' := [_, _]) rfl rfl rfl rfl ?_
  refine s_aldn (p' := 12) rfl rfl rfl ?_
  refine s_gf (p' := 15) rfl H0 rfl rfl ?_
  refine s_gf (p' := 18) rfl H1 rfl rfl ?_
  refine c_call (p' := 21) (kc := 98) (ls0 := [_]) rfl rfl rfl rfl rfl (mj_rcv_is H2) rfl rfl rfl ?_
  refine s_aldn (p' := 1) rfl rfl rfl ?_
  refine s_con (p' := 2) rfl rfl ?_
  refine s_pfz (p' := 5) (fs' := [_, _]) rfl rfl H2 rfl rfl rfl rfl ?_
  refine c_ret rfl ?_
  refine s_ildn (p' := 22) rfl rfl rfl ?_
  refine k_iret rfl rfl ?_
  refine l_aldn (p' := 323) rfl rfl rfl rfl ?_
  refine l_call (p' := 326) (kc := 99) (ls0 := [_, _]) rfl rfl rfl rfl rfl rfl (mj_rcv_is (rd_sn rfl H400)) rfl rfl rfl ?_
  refine s_aldn (p' := 1) rfl rfl rfl ?_
  refine s_con (p' := 2) rfl rfl ?_
  refine s_pfz (p' := 5) (fs' := [_, _, _, _, _, _, _, _, _, _, _]) rfl rfl (rd_sn rfl H400) rfl rfl rfl rfl ?_
  refine s_aldn (p' := 6) rfl rfl rfl ?_
  refine s_gf (p' := 9) rfl (rd_ss rfl (rd_sn rfl H400)) rfl rfl ?_
  refine c_call (p' := 12) (kc := 98) (ls0 := [_]) rfl rfl rfl rfl rfl (mj_rcv_is (rd_sn (beq_eq_false_iff_ne.mpr (by omega)) (rd_sn (beq_eq_false_iff_ne.mpr (by omega)) HY))) rfl rfl rfl ?_
  refine s_aldn (p' := 1) rfl rfl rfl ?_
  refine s_gf (p' := 4) rfl (rd_sn (beq_eq_false_iff_ne.mpr (by omega)) (rd_sn (beq_eq_false_iff_ne.mpr (by omega)) HY)) rfl rfl ?_
  refine s_lenz (p' := 5) rfl (mj_rdA_is (rd_sn (beq_eq_false_iff_ne.mpr (by omega)) (rd_sn (beq_eq_false_iff_ne.mpr (by omega)) HYb)) (by decide)) rfl rfl ?_
  refine s_aldn (p' := 6) rfl rfl rfl ?_
  refine c_call (p' := 9) (kc := 97) (ls0 := [_]) rfl rfl rfl rfl rfl (mj_rcv_is (rd_sn (beq_eq_false_iff_ne.mpr (by omega)) (rd_sn (beq_eq_false_iff_ne.mpr (by omega)) HY))) rfl rfl rfl ?_
  refine s_sh (p' := 3) (ls' := _) (st' := .int (nI 1) :: _) (h' := _) rfl rfl rfl rfl ?_
  refine s_if (p' := 6) false rfl (by decide +kernel) rfl ?_
  refine s_aldn (p' := 7) rfl rfl rfl ?_
  refine s_gf (p' := 10) rfl (rd_sn (beq_eq_false_iff_ne.mpr (by omega)) (rd_sn (beq_eq_false_iff_ne.mpr (by omega)) HY)) rfl rfl ?_
  refine s_goto (p' := 14) rfl rfl ?_
  refine c_iret rfl (by decide +kernel) ?_
  refine s_bz (p' := 10) (z := (nI n)) rfl rfl rfl ((mI_half (by omega)).trans (by rw [Nat.mul_div_cancel_left n (by decide)])) ?_
  refine c_iret rfl rfl ?_
  refine s_istn (p' := 13) (ls' := [_, _]) rfl rfl rfl rfl ?_
  refine s_aldn (p' := 14) rfl rfl rfl ?_
  refine s_sh (p' := 16) (ls' := _) (st' := .ref 1000300 :: _) (h' := _) rfl rfl rfl rfl ?_
  refine s_pfz (p' := 19) (fs' := [_, _, _, _, _, _, _, _, _, _, _]) rfl rfl (rd_ss rfl (rd_sn rfl H400)) rfl rfl rfl rfl ?_
  refine s_ildn (p' := 20) rfl rfl rfl ?_
  refine k_iret rfl rfl ?_
  refine l_icmp (p' := 2541) true rfl rfl (decide_eq_true rfl) rfl ?_
  refine l_incz (p' := 2544) (w := (nI (i + 4))) (ls' := [_, _, _, _, _, _, _, _, _, _]) rfl rfl rfl rfl (mI_add _ _) rfl rfl ?_
  refine l_goto (p' := 28) rfl rfl rfl ?_
  exact hn _ _ _ _ _ ⟨(rd_sn rfl (rd_sn rfl (rd_ss rfl H2))), (rd_ss rfl (rd_ss rfl (rd_sn rfl H400))), (mz_fr.s (by decide) (mz_fr.s (by decide) (mz_fr.s (by decide) (mz_fr.rf _ h)))), (Nat.le_trans (Nat.le_of_eq (len_s (len_s (len_s HL)))) (by omega)), (Nat.le_trans (sz_s rfl (rd_ss rfl (rd_sn rfl H400)) rfl (sz_s rfl (rd_sn rfl H400) rfl (sz_s rfl H2 rfl (Nat.le_refl (mj_sz h))))) (by omega))⟩
