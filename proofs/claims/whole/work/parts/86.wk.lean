/-! Rounds on any state: lengths and sizes of procedures. -/
theorem w_6_n {L i N : Nat} {xs : Nat → Int32} {h : mj_H} {l6 l7 l8 l9 : Option Value} {P : mj_H → Prop} (hL : L ≤ 2048) (hi : i + 4 ≤ L) (hN : N + 2000 < mj_CB) (hN0 : 414 ≤ N) (HL : h.length = N) (hk : xs i &&& nI 63 = nI 6) {gs pl ty wa nw nx dp ca mf : Value} {th : Int32} {sd be : Int64} {ou : Nat → Int64} {vf wf sf uf im jm : Nat → Int32} {k g : Nat} (hk20 : k ≤ 20) (hvw : ∀ j, j < 8 → wf j = vf j) (hsu : ∀ j, j < k → uf j = sf j) (him : ∀ j, j < 8 → jm j = im j) {pe pm ge gm : Value} {q : Nat} (hq6 : q ≤ 6) (hg24 : g ≤ 24) {p : Int32} (hp : p.toInt < 0) (hq1 : 1 ≤ q) (hx1 : xs (i + 1) = p) (H0 : mj_rd h 0 = some (.inr (0, [.ref 1, .ref 38, .ref 299, .ref 336, .ref 373, .ref 375, .ref 378, .ref 381, .ref 387, .ref 393, gs, pl, .ref 397, .ref 398, .ref 399, .long sd, .long be]))) (H38 : mj_rd h 38 = some (.inr (6, [.ref 39, .ref 40, .int (nI q)]))) (H400 : mj_rd h 400 = some (.inr (17, [.int th, .ref 401, .ref 402, ty, .long sd, .long be, .ref 410, wa, nw, nx, .ref 411]))) (H401 : mj_rd h 401 = some (.inr (18, [pe, .int (nI q), pm]))) (hn : ∀ (l6 l7 l8 l9 : Option Value) (h' : mj_H), mj_rd h' 400 = some (.inr (17, [.int (nI 1), .ref 401, .ref 402, ty, .long sd, .long be, .ref 410, wa, nw, nx, .ref 411])) ∧ mz_fr [400] h h' ∧ h'.length ≤ N + 1 ∧ mj_sz h' ≤ mj_sz h + 6 → mj_lrun L xs (28, [some (.retAddr 1), some (.ref 0), some (.ref 400), some (.ref 412), some (.ref 413), some (.int (nI (i + 4))), l6, l7, l8, l9], [], h') P) : mj_lrun L xs (28, [some (.retAddr 1), some (.ref 0), some (.ref 400), some (.ref 412), some (.ref 413), some (.int (nI i)), l6, l7, l8, l9], [], h) P := by
  refine l_ild (p' := 30) rfl rfl rfl rfl ?_
  refine l_alds (p' := 31) rfl rfl rfl rfl ?_
  refine l_lens (p' := 32) rfl rfl rfl ?_
  refine l_con (p' := 33) rfl rfl rfl ?_
  refine l_bz (p' := 34) (z := (nI (L - 4))) rfl rfl rfl rfl rfl (mI_sub (by omega)) ?_
  refine l_icmp (p' := 37) false rfl rfl ((ci_gt (by omega) (by omega)).trans (decide_eq_false (by omega))) rfl ?_
  refine l_alds (p' := 38) rfl rfl rfl rfl ?_
  refine l_ild (p' := 40) rfl rfl rfl rfl ?_
  refine l_ialz (p' := 41) (m := i) (z := (xs i)) rfl rfl (inb_nI (by omega) (by omega)) (mI_cl (by omega)) rfl rfl ?_
  refine l_bip (p' := 43) rfl rfl rfl ?_
  refine l_bz (p' := 44) (z := (nI 6)) rfl rfl rfl rfl rfl hk ?_
  refine l_sp (p' := 519) (ls' := _) rfl rfl rfl rfl rfl ?_
  refine l_aldn (p' := 520) rfl rfl rfl rfl ?_
  refine l_alds (p' := 521) rfl rfl rfl rfl ?_
  refine l_ild (p' := 523) rfl rfl rfl rfl ?_
  refine l_con (p' := 524) rfl rfl rfl ?_
  refine l_bz (p' := 525) (z := (nI (i + 1))) rfl rfl rfl rfl rfl (mI_add _ _) ?_
  refine l_ialz (p' := 526) (m := (i + 1)) (z := p) rfl rfl (inb_nI (by omega) (by omega)) (mI_cl (by omega)) hx1 rfl ?_
  refine l_aldn (p' := 527) rfl rfl rfl rfl ?_
  refine l_call (p' := 530) (kc := 99) (ls0 := [_, _, _, _]) rfl rfl rfl rfl rfl rfl rfl rfl rfl rfl ?_
  refine s_aldn (p' := 1) rfl rfl rfl ?_
  refine s_con (p' := 2) rfl rfl ?_
  refine s_aldn (p' := 3) rfl rfl rfl ?_
  refine s_ildn (p' := 4) rfl rfl rfl ?_
  refine c_call (p' := 7) (kc := 98) (ls0 := [_, _]) rfl rfl rfl rfl rfl (mj_rcv_is H0) rfl rfl rfl ?_
  refine s_aldn (p' := 1) rfl rfl rfl ?_
  refine s_gf (p' := 4) rfl H0 rfl rfl ?_
  refine s_ildn (p' := 5) rfl rfl rfl ?_
  refine c_call (p' := 8) (kc := 97) (ls0 := [_, _]) rfl rfl rfl rfl rfl (mj_rcv_is H38) rfl rfl rfl ?_
  refine s_ildn (p' := 1) rfl rfl rfl ?_
  refine s_if (p' := 16) true rfl ((cg_lt (w := 0) (by decide +kernel)).trans (decide_eq_true (by omega))) rfl ?_
  refine s_con (p' := 17) rfl rfl ?_
  refine c_iret rfl (by decide +kernel) ?_
  refine s_if (p' := 11) false rfl (by decide +kernel) rfl ?_
  refine s_thrz (q := N) rfl HL rfl ?_
  refine K_c (hp := 12) (Nat.blt_eq.mpr (by omega)) (mj_ocl_is (rd_nw (Nat.blt_eq.mpr (by omega)) HL)) rfl ?_
  refine s_astn (p' := 13) (ls' := [_, _, _, _]) rfl rfl rfl rfl ?_
  refine s_con (p' := 14) rfl rfl ?_
  refine k_iret rfl rfl ?_
  refine l_ist (p' := 532) (ls' := [_, _, _, _, _, _, _, _, _, _]) rfl rfl rfl rfl rfl ?_
  refine l_aldn (p' := 533) rfl rfl rfl rfl ?_
  refine l_alds (p' := 534) rfl rfl rfl rfl ?_
  refine l_ild (p' := 536) rfl rfl rfl rfl ?_
  refine l_con (p' := 537) rfl rfl rfl ?_
  refine l_bz (p' := 538) (z := (nI (i + 1))) rfl rfl rfl rfl rfl (mI_add _ _) ?_
  refine l_ialz (p' := 539) (m := (i + 1)) (z := p) rfl rfl (inb_nI (by omega) (by omega)) (mI_cl (by omega)) hx1 rfl ?_
  refine l_call (p' := 542) (kc := 99) (ls0 := [_, _]) rfl rfl rfl rfl rfl rfl (mj_rcv_is (rd_app H400)) rfl rfl rfl ?_
  refine s_aldn (p' := 1) rfl rfl rfl ?_
  refine s_aldn (p' := 2) rfl rfl rfl ?_
  refine s_ildn (p' := 3) rfl rfl rfl ?_
  refine c_call (p' := 6) (kc := 98) (ls0 := [_, _]) rfl rfl rfl rfl rfl (mj_rcv_is (rd_app H400)) rfl rfl rfl ?_
  refine s_ildn (p' := 1) rfl rfl rfl ?_
  refine s_con (p' := 2) rfl rfl ?_
  refine s_aldn (p' := 3) rfl rfl rfl ?_
  refine s_gf (p' := 6) rfl (rd_app H400) rfl rfl ?_
  refine c_call (p' := 11) (kc := 97) (ls0 := [_]) rfl rfl rfl rfl rfl (mj_rcv_is (rd_app H401)) rfl rfl rfl ?_
  refine s_aldn (p' := 1) rfl rfl rfl ?_
  refine s_gf (p' := 4) rfl (rd_app H401) rfl rfl ?_
  refine c_iret rfl rfl ?_
  refine s_con (p' := 12) rfl rfl ?_
  refine s_bz (p' := 13) (z := (nI (q - 1))) rfl rfl rfl (mI_sub (by omega)) ?_
  refine c_call (p' := 16) (kc := 97) (ls0 := [_, _, _]) rfl rfl rfl rfl rfl rfl rfl rfl rfl ?_
  refine s_ildn (p' := 1) rfl rfl rfl ?_
  refine s_ildn (p' := 2) rfl rfl rfl ?_
  refine s_icmp (p' := 14) true rfl ((ch_gt (w := 0) (by decide +kernel)).trans (decide_eq_true (by omega))) rfl ?_
  refine s_con (p' := 15) rfl rfl ?_
  refine c_iret rfl (by decide +kernel) ?_
  refine c_iret rfl (by decide +kernel) ?_
  refine s_if (p' := 13) true rfl (by decide +kernel) rfl ?_
  refine s_con (p' := 14) rfl rfl ?_
  refine c_call (p' := 17) (kc := 98) (ls0 := [_, _]) rfl rfl rfl rfl rfl (mj_rcv_is (rd_app H400)) rfl rfl rfl ?_
  refine s_aldn (p' := 1) rfl rfl rfl ?_
  refine s_ildn (p' := 2) rfl rfl rfl ?_
  refine s_pfz (p' := 5) (fs' := [_, _, _, _, _, _, _, _, _, _, _]) rfl rfl (rd_app H400) rfl rfl rfl rfl ?_
  refine s_ildn (p' := 6) rfl rfl rfl ?_
  refine s_if (p' := 9) false rfl (by decide +kernel) rfl ?_
  refine s_con (p' := 10) rfl rfl ?_
  refine s_goto (p' := 14) rfl rfl ?_
  refine c_iret rfl (by decide +kernel) ?_
  refine s_if (p' := 20) false rfl (by decide +kernel) rfl ?_
  refine s_con (p' := 21) rfl rfl ?_
  refine s_goto (p' := 43) rfl rfl ?_
  refine k_iret rfl rfl ?_
  refine l_ist (p' := 544) (ls' := [_, _, _, _, _, _, _, _, _, _]) rfl rfl rfl rfl rfl ?_
  refine l_aldn (p' := 545) rfl rfl rfl rfl ?_
  refine l_call (p' := 548) (kc := 99) (ls0 := [_]) rfl rfl rfl rfl rfl rfl (mj_rcv_is (rd_ss rfl (rd_app H400))) rfl rfl rfl ?_
  refine s_aldn (p' := 1) rfl rfl rfl ?_
  refine s_gf (p' := 4) rfl (rd_ss rfl (rd_app H400)) rfl rfl ?_
  refine k_iret rfl rfl ?_
  refine l_ild (p' := 550) rfl rfl rfl rfl ?_
  refine l_icmp (p' := 555) true rfl rfl (by decide +kernel) rfl ?_
  refine l_ild (p' := 557) rfl rfl rfl rfl ?_
  refine l_if (p' := 572) true rfl rfl (by decide +kernel) rfl ?_
  refine l_goto (p' := 2541) rfl rfl rfl ?_
  refine l_incz (p' := 2544) (w := (nI (i + 4))) (ls' := [_, _, _, _, _, _, _, _, _, _]) rfl rfl rfl rfl (mI_add _ _) rfl rfl ?_
  refine l_goto (p' := 28) rfl rfl rfl ?_
  exact hn _ _ _ _ _ ⟨(rd_ss rfl (rd_app H400)), (mz_fr.s (by decide) (mz_fr.a (mz_fr.rf _ h))), (Nat.le_trans (Nat.le_of_eq (len_s (len_a HL rfl))) (by omega)), (Nat.le_trans (sz_s rfl (rd_app H400) rfl (sz_aa (k := 6) (m := mj_sz h + 6) rfl (by omega) (Nat.le_refl (mj_sz h)))) (by omega))⟩
theorem w_6_m {L i N : Nat} {xs : Nat → Int32} {h : mj_H} {l6 l7 l8 l9 : Option Value} {P : mj_H → Prop} (hL : L ≤ 2048) (hi : i + 4 ≤ L) (hN : N + 2000 < mj_CB) (hN0 : 414 ≤ N) (HL : h.length = N) (hk : xs i &&& nI 63 = nI 6) {gs pl ty wa nw nx dp ca mf : Value} {th : Int32} {sd be : Int64} {ou : Nat → Int64} {vf wf sf uf im jm : Nat → Int32} {k g : Nat} (hk20 : k ≤ 20) (hvw : ∀ j, j < 8 → wf j = vf j) (hsu : ∀ j, j < k → uf j = sf j) (him : ∀ j, j < 8 → jm j = im j) {pe pm ge gm : Value} {q : Nat} (hq6 : q ≤ 6) (hg24 : g ≤ 24) {p : Nat} (hpb : p < 2147483648) (hp : q ≤ p) (hq1 : 1 ≤ q) (hx1 : xs (i + 1) = nI p) (H0 : mj_rd h 0 = some (.inr (0, [.ref 1, .ref 38, .ref 299, .ref 336, .ref 373, .ref 375, .ref 378, .ref 381, .ref 387, .ref 393, gs, pl, .ref 397, .ref 398, .ref 399, .long sd, .long be]))) (H38 : mj_rd h 38 = some (.inr (6, [.ref 39, .ref 40, .int (nI q)]))) (H400 : mj_rd h 400 = some (.inr (17, [.int th, .ref 401, .ref 402, ty, .long sd, .long be, .ref 410, wa, nw, nx, .ref 411]))) (H401 : mj_rd h 401 = some (.inr (18, [pe, .int (nI q), pm]))) (hn : ∀ (l6 l7 l8 l9 : Option Value) (h' : mj_H), mj_rd h' 400 = some (.inr (17, [.int (nI 1), .ref 401, .ref 402, ty, .long sd, .long be, .ref 410, wa, nw, nx, .ref 411])) ∧ mz_fr [400] h h' ∧ h'.length ≤ N + 1 ∧ mj_sz h' ≤ mj_sz h + 6 → mj_lrun L xs (28, [some (.retAddr 1), some (.ref 0), some (.ref 400), some (.ref 412), some (.ref 413), some (.int (nI (i + 4))), l6, l7, l8, l9], [], h') P) : mj_lrun L xs (28, [some (.retAddr 1), some (.ref 0), some (.ref 400), some (.ref 412), some (.ref 413), some (.int (nI i)), l6, l7, l8, l9], [], h) P := by
  refine l_ild (p' := 30) rfl rfl rfl rfl ?_
  refine l_alds (p' := 31) rfl rfl rfl rfl ?_
  refine l_lens (p' := 32) rfl rfl rfl ?_
  refine l_con (p' := 33) rfl rfl rfl ?_
  refine l_bz (p' := 34) (z := (nI (L - 4))) rfl rfl rfl rfl rfl (mI_sub (by omega)) ?_
  refine l_icmp (p' := 37) false rfl rfl ((ci_gt (by omega) (by omega)).trans (decide_eq_false (by omega))) rfl ?_
  refine l_alds (p' := 38) rfl rfl rfl rfl ?_
  refine l_ild (p' := 40) rfl rfl rfl rfl ?_
  refine l_ialz (p' := 41) (m := i) (z := (xs i)) rfl rfl (inb_nI (by omega) (by omega)) (mI_cl (by omega)) rfl rfl ?_
  refine l_bip (p' := 43) rfl rfl rfl ?_
  refine l_bz (p' := 44) (z := (nI 6)) rfl rfl rfl rfl rfl hk ?_
  refine l_sp (p' := 519) (ls' := _) rfl rfl rfl rfl rfl ?_
  refine l_aldn (p' := 520) rfl rfl rfl rfl ?_
  refine l_alds (p' := 521) rfl rfl rfl rfl ?_
  refine l_ild (p' := 523) rfl rfl rfl rfl ?_
  refine l_con (p' := 524) rfl rfl rfl ?_
  refine l_bz (p' := 525) (z := (nI (i + 1))) rfl rfl rfl rfl rfl (mI_add _ _) ?_
  refine l_ialz (p' := 526) (m := (i + 1)) (z := (nI p)) rfl rfl (inb_nI (by omega) (by omega)) (mI_cl (by omega)) hx1 rfl ?_
  refine l_aldn (p' := 527) rfl rfl rfl rfl ?_
  refine l_call (p' := 530) (kc := 99) (ls0 := [_, _, _, _]) rfl rfl rfl rfl rfl rfl rfl rfl rfl rfl ?_
  refine s_aldn (p' := 1) rfl rfl rfl ?_
  refine s_con (p' := 2) rfl rfl ?_
  refine s_aldn (p' := 3) rfl rfl rfl ?_
  refine s_ildn (p' := 4) rfl rfl rfl ?_
  refine c_call (p' := 7) (kc := 98) (ls0 := [_, _]) rfl rfl rfl rfl rfl (mj_rcv_is H0) rfl rfl rfl ?_
  refine s_aldn (p' := 1) rfl rfl rfl ?_
  refine s_gf (p' := 4) rfl H0 rfl rfl ?_
  refine s_ildn (p' := 5) rfl rfl rfl ?_
  refine c_call (p' := 8) (kc := 97) (ls0 := [_, _]) rfl rfl rfl rfl rfl (mj_rcv_is H38) rfl rfl rfl ?_
  refine s_ildn (p' := 1) rfl rfl rfl ?_
  refine s_if (p' := 4) false rfl ((cg_lt (w := 0) (by decide +kernel)).trans (decide_eq_false (by rw [mI_ti (by omega)]; omega))) rfl ?_
  refine s_ildn (p' := 5) rfl rfl rfl ?_
  refine s_aldn (p' := 6) rfl rfl rfl ?_
  refine s_gf (p' := 9) rfl H38 rfl rfl ?_
  refine s_icmp (p' := 16) true rfl ((ci_ge (by omega) (by omega)).trans (decide_eq_true (by omega))) rfl ?_
  refine s_con (p' := 17) rfl rfl ?_
  refine c_iret rfl (by decide +kernel) ?_
  refine s_if (p' := 11) false rfl (by decide +kernel) rfl ?_
  refine s_thrz (q := N) rfl HL rfl ?_
  refine K_c (hp := 12) (Nat.blt_eq.mpr (by omega)) (mj_ocl_is (rd_nw (Nat.blt_eq.mpr (by omega)) HL)) rfl ?_
  refine s_astn (p' := 13) (ls' := [_, _, _, _]) rfl rfl rfl rfl ?_
  refine s_con (p' := 14) rfl rfl ?_
  refine k_iret rfl rfl ?_
  refine l_ist (p' := 532) (ls' := [_, _, _, _, _, _, _, _, _, _]) rfl rfl rfl rfl rfl ?_
  refine l_aldn (p' := 533) rfl rfl rfl rfl ?_
  refine l_alds (p' := 534) rfl rfl rfl rfl ?_
  refine l_ild (p' := 536) rfl rfl rfl rfl ?_
  refine l_con (p' := 537) rfl rfl rfl ?_
  refine l_bz (p' := 538) (z := (nI (i + 1))) rfl rfl rfl rfl rfl (mI_add _ _) ?_
  refine l_ialz (p' := 539) (m := (i + 1)) (z := (nI p)) rfl rfl (inb_nI (by omega) (by omega)) (mI_cl (by omega)) hx1 rfl ?_
  refine l_call (p' := 542) (kc := 99) (ls0 := [_, _]) rfl rfl rfl rfl rfl rfl (mj_rcv_is (rd_app H400)) rfl rfl rfl ?_
  refine s_aldn (p' := 1) rfl rfl rfl ?_
  refine s_aldn (p' := 2) rfl rfl rfl ?_
  refine s_ildn (p' := 3) rfl rfl rfl ?_
  refine c_call (p' := 6) (kc := 98) (ls0 := [_, _]) rfl rfl rfl rfl rfl (mj_rcv_is (rd_app H400)) rfl rfl rfl ?_
  refine s_ildn (p' := 1) rfl rfl rfl ?_
  refine s_con (p' := 2) rfl rfl ?_
  refine s_aldn (p' := 3) rfl rfl rfl ?_
  refine s_gf (p' := 6) rfl (rd_app H400) rfl rfl ?_
  refine c_call (p' := 11) (kc := 97) (ls0 := [_]) rfl rfl rfl rfl rfl (mj_rcv_is (rd_app H401)) rfl rfl rfl ?_
  refine s_aldn (p' := 1) rfl rfl rfl ?_
  refine s_gf (p' := 4) rfl (rd_app H401) rfl rfl ?_
  refine c_iret rfl rfl ?_
  refine s_con (p' := 12) rfl rfl ?_
  refine s_bz (p' := 13) (z := (nI (q - 1))) rfl rfl rfl (mI_sub (by omega)) ?_
  refine c_call (p' := 16) (kc := 97) (ls0 := [_, _, _]) rfl rfl rfl rfl rfl rfl rfl rfl rfl ?_
  refine s_ildn (p' := 1) rfl rfl rfl ?_
  refine s_ildn (p' := 2) rfl rfl rfl ?_
  refine s_icmp (p' := 5) false rfl ((ch_gt (w := 0) (by decide +kernel)).trans (decide_eq_false (by rw [mI_ti (by omega)]; omega))) rfl ?_
  refine s_ildn (p' := 6) rfl rfl rfl ?_
  refine s_ildn (p' := 7) rfl rfl rfl ?_
  refine s_icmp (p' := 14) true rfl ((ci_gt (by omega) (by omega)).trans (decide_eq_true (by omega))) rfl ?_
  refine s_con (p' := 15) rfl rfl ?_
  refine c_iret rfl (by decide +kernel) ?_
  refine c_iret rfl (by decide +kernel) ?_
  refine s_if (p' := 13) true rfl (by decide +kernel) rfl ?_
  refine s_con (p' := 14) rfl rfl ?_
  refine c_call (p' := 17) (kc := 98) (ls0 := [_, _]) rfl rfl rfl rfl rfl (mj_rcv_is (rd_app H400)) rfl rfl rfl ?_
  refine s_aldn (p' := 1) rfl rfl rfl ?_
  refine s_ildn (p' := 2) rfl rfl rfl ?_
  refine s_pfz (p' := 5) (fs' := [_, _, _, _, _, _, _, _, _, _, _]) rfl rfl (rd_app H400) rfl rfl rfl rfl ?_
  refine s_ildn (p' := 6) rfl rfl rfl ?_
  refine s_if (p' := 9) false rfl (by decide +kernel) rfl ?_
  refine s_con (p' := 10) rfl rfl ?_
  refine s_goto (p' := 14) rfl rfl ?_
  refine c_iret rfl (by decide +kernel) ?_
  refine s_if (p' := 20) false rfl (by decide +kernel) rfl ?_
  refine s_con (p' := 21) rfl rfl ?_
  refine s_goto (p' := 43) rfl rfl ?_
  refine k_iret rfl rfl ?_
  refine l_ist (p' := 544) (ls' := [_, _, _, _, _, _, _, _, _, _]) rfl rfl rfl rfl rfl ?_
  refine l_aldn (p' := 545) rfl rfl rfl rfl ?_
  refine l_call (p' := 548) (kc := 99) (ls0 := [_]) rfl rfl rfl rfl rfl rfl (mj_rcv_is (rd_ss rfl (rd_app H400))) rfl rfl rfl ?_
  refine s_aldn (p' := 1) rfl rfl rfl ?_
  refine s_gf (p' := 4) rfl (rd_ss rfl (rd_app H400)) rfl rfl ?_
  refine k_iret rfl rfl ?_
  refine l_ild (p' := 550) rfl rfl rfl rfl ?_
  refine l_icmp (p' := 555) true rfl rfl (by decide +kernel) rfl ?_
  refine l_ild (p' := 557) rfl rfl rfl rfl ?_
  refine l_if (p' := 572) true rfl rfl (by decide +kernel) rfl ?_
  refine l_goto (p' := 2541) rfl rfl rfl ?_
  refine l_incz (p' := 2544) (w := (nI (i + 4))) (ls' := [_, _, _, _, _, _, _, _, _, _]) rfl rfl rfl rfl (mI_add _ _) rfl rfl ?_
  refine l_goto (p' := 28) rfl rfl rfl ?_
  exact hn _ _ _ _ _ ⟨(rd_ss rfl (rd_app H400)), (mz_fr.s (by decide) (mz_fr.a (mz_fr.rf _ h))), (Nat.le_trans (Nat.le_of_eq (len_s (len_a HL rfl))) (by omega)), (Nat.le_trans (sz_s rfl (rd_app H400) rfl (sz_aa (k := 6) (m := mj_sz h + 6) rfl (by omega) (Nat.le_refl (mj_sz h)))) (by omega))⟩
theorem w_7_n {L i N : Nat} {xs : Nat → Int32} {h : mj_H} {l6 l7 l8 l9 : Option Value} {P : mj_H → Prop} (hL : L ≤ 2048) (hi : i + 4 ≤ L) (hN : N + 2000 < mj_CB) (hN0 : 414 ≤ N) (HL : h.length = N) (hk : xs i &&& nI 63 = nI 7) {gs pl ty wa nw nx dp ca mf : Value} {th : Int32} {sd be : Int64} {ou : Nat → Int64} {vf wf sf uf im jm : Nat → Int32} {k g : Nat} (hk20 : k ≤ 20) (hvw : ∀ j, j < 8 → wf j = vf j) (hsu : ∀ j, j < k → uf j = sf j) (him : ∀ j, j < 8 → jm j = im j) {pe pm ge gm : Value} {q : Nat} (hq6 : q ≤ 6) (hg24 : g ≤ 24) {p : Int32} (hp : p.toInt < 0) (hq1 : 1 ≤ q) (hx1 : xs (i + 1) = p) (H0 : mj_rd h 0 = some (.inr (0, [.ref 1, .ref 38, .ref 299, .ref 336, .ref 373, .ref 375, .ref 378, .ref 381, .ref 387, .ref 393, gs, pl, .ref 397, .ref 398, .ref 399, .long sd, .long be]))) (H38 : mj_rd h 38 = some (.inr (6, [.ref 39, .ref 40, .int (nI q)]))) (H400 : mj_rd h 400 = some (.inr (17, [.int th, .ref 401, .ref 402, ty, .long sd, .long be, .ref 410, wa, nw, nx, .ref 411]))) (H401 : mj_rd h 401 = some (.inr (18, [pe, .int (nI q), pm]))) (hn : ∀ (l6 l7 l8 l9 : Option Value) (h' : mj_H), mj_rd h' 400 = some (.inr (17, [.int (nI 1), .ref 401, .ref 402, ty, .long sd, .long be, .ref 410, wa, nw, nx, .ref 411])) ∧ mz_fr [400] h h' ∧ h'.length ≤ N + 1 ∧ mj_sz h' ≤ mj_sz h + 6 → mj_lrun L xs (28, [some (.retAddr 1), some (.ref 0), some (.ref 400), some (.ref 412), some (.ref 413), some (.int (nI (i + 4))), l6, l7, l8, l9], [], h') P) : mj_lrun L xs (28, [some (.retAddr 1), some (.ref 0), some (.ref 400), some (.ref 412), some (.ref 413), some (.int (nI i)), l6, l7, l8, l9], [], h) P := by
  refine l_ild (p' := 30) rfl rfl rfl rfl ?_
  refine l_alds (p' := 31) rfl rfl rfl rfl ?_
  refine l_lens (p' := 32) rfl rfl rfl ?_
  refine l_con (p' := 33) rfl rfl rfl ?_
  refine l_bz (p' := 34) (z := (nI (L - 4))) rfl rfl rfl rfl rfl (mI_sub (by omega)) ?_
  refine l_icmp (p' := 37) false rfl rfl ((ci_gt (by omega) (by omega)).trans (decide_eq_false (by omega))) rfl ?_
  refine l_alds (p' := 38) rfl rfl rfl rfl ?_
  refine l_ild (p' := 40) rfl rfl rfl rfl ?_
  refine l_ialz (p' := 41) (m := i) (z := (xs i)) rfl rfl (inb_nI (by omega) (by omega)) (mI_cl (by omega)) rfl rfl ?_
  refine l_bip (p' := 43) rfl rfl rfl ?_
  refine l_bz (p' := 44) (z := (nI 7)) rfl rfl rfl rfl rfl hk ?_
  refine l_sp (p' := 575) (ls' := _) rfl rfl rfl rfl rfl ?_
  refine l_aldn (p' := 576) rfl rfl rfl rfl ?_
  refine l_alds (p' := 577) rfl rfl rfl rfl ?_
  refine l_ild (p' := 579) rfl rfl rfl rfl ?_
  refine l_con (p' := 580) rfl rfl rfl ?_
  refine l_bz (p' := 581) (z := (nI (i + 1))) rfl rfl rfl rfl rfl (mI_add _ _) ?_
  refine l_ialz (p' := 582) (m := (i + 1)) (z := p) rfl rfl (inb_nI (by omega) (by omega)) (mI_cl (by omega)) hx1 rfl ?_
  refine l_alds (p' := 583) rfl rfl rfl rfl ?_
  refine l_ild (p' := 585) rfl rfl rfl rfl ?_
  refine l_con (p' := 586) rfl rfl rfl ?_
  refine l_bz (p' := 587) (z := (nI (i + 2))) rfl rfl rfl rfl rfl (mI_add _ _) ?_
  refine l_ialz (p' := 588) (m := (i + 2)) (z := (xs (i + 2))) rfl rfl (inb_nI (by omega) (by omega)) (mI_cl (by omega)) rfl rfl ?_
  refine l_aldn (p' := 589) rfl rfl rfl rfl ?_
  refine l_call (p' := 592) (kc := 99) (ls0 := [_, _, _, _, _]) rfl rfl rfl rfl rfl rfl rfl rfl rfl rfl ?_
  refine s_aldn (p' := 1) rfl rfl rfl ?_
  refine s_con (p' := 2) rfl rfl ?_
  refine s_aldn (p' := 3) rfl rfl rfl ?_
  refine s_ildn (p' := 4) rfl rfl rfl ?_
  refine s_ildn (p' := 5) rfl rfl rfl ?_
  refine c_call (p' := 8) (kc := 98) (ls0 := [_, _, _, _]) rfl rfl rfl rfl rfl (mj_rcv_is H0) rfl rfl rfl ?_
  refine s_aldn (p' := 1) rfl rfl rfl ?_
  refine s_gf (p' := 4) rfl H0 rfl rfl ?_
  refine s_ildn (p' := 5) rfl rfl rfl ?_
  refine c_call (p' := 8) (kc := 97) (ls0 := [_, _]) rfl rfl rfl rfl rfl (mj_rcv_is H38) rfl rfl rfl ?_
  refine s_ildn (p' := 1) rfl rfl rfl ?_
  refine s_if (p' := 16) true rfl ((cg_lt (w := 0) (by decide +kernel)).trans (decide_eq_true (by omega))) rfl ?_
  refine s_con (p' := 17) rfl rfl ?_
  refine c_iret rfl (by decide +kernel) ?_
  refine s_if (p' := 11) false rfl (by decide +kernel) rfl ?_
  refine s_thrz (q := N) rfl HL rfl ?_
  refine K_c (hp := 13) (Nat.blt_eq.mpr (by omega)) (mj_ocl_is (rd_nw (Nat.blt_eq.mpr (by omega)) HL)) rfl ?_
  refine s_ast (p' := 15) (ls' := [_, _, _, _, _]) rfl rfl rfl rfl ?_
  refine s_con (p' := 16) rfl rfl ?_
  refine k_iret rfl rfl ?_
  refine l_ist (p' := 594) (ls' := [_, _, _, _, _, _, _, _, _, _]) rfl rfl rfl rfl rfl ?_
  refine l_aldn (p' := 595) rfl rfl rfl rfl ?_
  refine l_alds (p' := 596) rfl rfl rfl rfl ?_
  refine l_ild (p' := 598) rfl rfl rfl rfl ?_
  refine l_con (p' := 599) rfl rfl rfl ?_
  refine l_bz (p' := 600) (z := (nI (i + 1))) rfl rfl rfl rfl rfl (mI_add _ _) ?_
  refine l_ialz (p' := 601) (m := (i + 1)) (z := p) rfl rfl (inb_nI (by omega) (by omega)) (mI_cl (by omega)) hx1 rfl ?_
  refine l_alds (p' := 602) rfl rfl rfl rfl ?_
  refine l_ild (p' := 604) rfl rfl rfl rfl ?_
  refine l_con (p' := 605) rfl rfl rfl ?_
  refine l_bz (p' := 606) (z := (nI (i + 2))) rfl rfl rfl rfl rfl (mI_add _ _) ?_
  refine l_ialz (p' := 607) (m := (i + 2)) (z := (xs (i + 2))) rfl rfl (inb_nI (by omega) (by omega)) (mI_cl (by omega)) rfl rfl ?_
  refine l_call (p' := 610) (kc := 99) (ls0 := [_, _, _]) rfl rfl rfl rfl rfl rfl (mj_rcv_is (rd_app H400)) rfl rfl rfl ?_
  refine s_aldn (p' := 1) rfl rfl rfl ?_
  refine s_aldn (p' := 2) rfl rfl rfl ?_
  refine s_ildn (p' := 3) rfl rfl rfl ?_
  refine c_call (p' := 6) (kc := 98) (ls0 := [_, _]) rfl rfl rfl rfl rfl (mj_rcv_is (rd_app H400)) rfl rfl rfl ?_
  refine s_ildn (p' := 1) rfl rfl rfl ?_
  refine s_con (p' := 2) rfl rfl ?_
  refine s_aldn (p' := 3) rfl rfl rfl ?_
  refine s_gf (p' := 6) rfl (rd_app H400) rfl rfl ?_
  refine c_call (p' := 11) (kc := 97) (ls0 := [_]) rfl rfl rfl rfl rfl (mj_rcv_is (rd_app H401)) rfl rfl rfl ?_
  refine s_aldn (p' := 1) rfl rfl rfl ?_
  refine s_gf (p' := 4) rfl (rd_app H401) rfl rfl ?_
  refine c_iret rfl rfl ?_
  refine s_con (p' := 12) rfl rfl ?_
  refine s_bz (p' := 13) (z := (nI (q - 1))) rfl rfl rfl (mI_sub (by omega)) ?_
  refine c_call (p' := 16) (kc := 97) (ls0 := [_, _, _]) rfl rfl rfl rfl rfl rfl rfl rfl rfl ?_
  refine s_ildn (p' := 1) rfl rfl rfl ?_
  refine s_ildn (p' := 2) rfl rfl rfl ?_
  refine s_icmp (p' := 14) true rfl ((ch_gt (w := 0) (by decide +kernel)).trans (decide_eq_true (by omega))) rfl ?_
  refine s_con (p' := 15) rfl rfl ?_
  refine c_iret rfl (by decide +kernel) ?_
  refine c_iret rfl (by decide +kernel) ?_
  refine s_if (p' := 42) true rfl (by decide +kernel) rfl ?_
  refine s_con (p' := 43) rfl rfl ?_
  refine c_call (p' := 46) (kc := 98) (ls0 := [_, _]) rfl rfl rfl rfl rfl (mj_rcv_is (rd_app H400)) rfl rfl rfl ?_
  refine s_aldn (p' := 1) rfl rfl rfl ?_
  refine s_ildn (p' := 2) rfl rfl rfl ?_
  refine s_pfz (p' := 5) (fs' := [_, _, _, _, _, _, _, _, _, _, _]) rfl rfl (rd_app H400) rfl rfl rfl rfl ?_
  refine s_ildn (p' := 6) rfl rfl rfl ?_
  refine s_if (p' := 9) false rfl (by decide +kernel) rfl ?_
  refine s_con (p' := 10) rfl rfl ?_
  refine s_goto (p' := 14) rfl rfl ?_
  refine c_iret rfl (by decide +kernel) ?_
  refine s_if (p' := 49) false rfl (by decide +kernel) rfl ?_
  refine s_con (p' := 50) rfl rfl ?_
  refine s_goto (p' := 73) rfl rfl ?_
  refine k_iret rfl (by decide +kernel) ?_
  refine l_ist (p' := 612) (ls' := [_, _, _, _, _, _, _, _, _, _]) rfl rfl rfl rfl rfl ?_
  refine l_aldn (p' := 613) rfl rfl rfl rfl ?_
  refine l_call (p' := 616) (kc := 99) (ls0 := [_]) rfl rfl rfl rfl rfl rfl (mj_rcv_is (rd_ss rfl (rd_app H400))) rfl rfl rfl ?_
  refine s_aldn (p' := 1) rfl rfl rfl ?_
  refine s_gf (p' := 4) rfl (rd_ss rfl (rd_app H400)) rfl rfl ?_
  refine k_iret rfl rfl ?_
  refine l_ild (p' := 618) rfl rfl rfl rfl ?_
  refine l_icmp (p' := 623) true rfl rfl (by decide +kernel) rfl ?_
  refine l_ild (p' := 625) rfl rfl rfl rfl ?_
  refine l_if (p' := 640) true rfl rfl (by decide +kernel) rfl ?_
  refine l_goto (p' := 2541) rfl rfl rfl ?_
  refine l_incz (p' := 2544) (w := (nI (i + 4))) (ls' := [_, _, _, _, _, _, _, _, _, _]) rfl rfl rfl rfl (mI_add _ _) rfl rfl ?_
  refine l_goto (p' := 28) rfl rfl rfl ?_
  exact hn _ _ _ _ _ ⟨(rd_ss rfl (rd_app H400)), (mz_fr.s (by decide) (mz_fr.a (mz_fr.rf _ h))), (Nat.le_trans (Nat.le_of_eq (len_s (len_a HL rfl))) (by omega)), (Nat.le_trans (sz_s rfl (rd_app H400) rfl (sz_aa (k := 6) (m := mj_sz h + 6) rfl (by omega) (Nat.le_refl (mj_sz h)))) (by omega))⟩
theorem w_7_m {L i N : Nat} {xs : Nat → Int32} {h : mj_H} {l6 l7 l8 l9 : Option Value} {P : mj_H → Prop} (hL : L ≤ 2048) (hi : i + 4 ≤ L) (hN : N + 2000 < mj_CB) (hN0 : 414 ≤ N) (HL : h.length = N) (hk : xs i &&& nI 63 = nI 7) {gs pl ty wa nw nx dp ca mf : Value} {th : Int32} {sd be : Int64} {ou : Nat → Int64} {vf wf sf uf im jm : Nat → Int32} {k g : Nat} (hk20 : k ≤ 20) (hvw : ∀ j, j < 8 → wf j = vf j) (hsu : ∀ j, j < k → uf j = sf j) (him : ∀ j, j < 8 → jm j = im j) {pe pm ge gm : Value} {q : Nat} (hq6 : q ≤ 6) (hg24 : g ≤ 24) {p : Nat} (hpb : p < 2147483648) (hp : q ≤ p) (hq1 : 1 ≤ q) (hx1 : xs (i + 1) = nI p) (H0 : mj_rd h 0 = some (.inr (0, [.ref 1, .ref 38, .ref 299, .ref 336, .ref 373, .ref 375, .ref 378, .ref 381, .ref 387, .ref 393, gs, pl, .ref 397, .ref 398, .ref 399, .long sd, .long be]))) (H38 : mj_rd h 38 = some (.inr (6, [.ref 39, .ref 40, .int (nI q)]))) (H400 : mj_rd h 400 = some (.inr (17, [.int th, .ref 401, .ref 402, ty, .long sd, .long be, .ref 410, wa, nw, nx, .ref 411]))) (H401 : mj_rd h 401 = some (.inr (18, [pe, .int (nI q), pm]))) (hn : ∀ (l6 l7 l8 l9 : Option Value) (h' : mj_H), mj_rd h' 400 = some (.inr (17, [.int (nI 1), .ref 401, .ref 402, ty, .long sd, .long be, .ref 410, wa, nw, nx, .ref 411])) ∧ mz_fr [400] h h' ∧ h'.length ≤ N + 1 ∧ mj_sz h' ≤ mj_sz h + 6 → mj_lrun L xs (28, [some (.retAddr 1), some (.ref 0), some (.ref 400), some (.ref 412), some (.ref 413), some (.int (nI (i + 4))), l6, l7, l8, l9], [], h') P) : mj_lrun L xs (28, [some (.retAddr 1), some (.ref 0), some (.ref 400), some (.ref 412), some (.ref 413), some (.int (nI i)), l6, l7, l8, l9], [], h) P := by
  refine l_ild (p' := 30) rfl rfl rfl rfl ?_
  refine l_alds (p' := 31) rfl rfl rfl rfl ?_
  refine l_lens (p' := 32) rfl rfl rfl ?_
  refine l_con (p' := 33) rfl rfl rfl ?_
  refine l_bz (p' := 34) (z := (nI (L - 4))) rfl rfl rfl rfl rfl (mI_sub (by omega)) ?_
  refine l_icmp (p' := 37) false rfl rfl ((ci_gt (by omega) (by omega)).trans (decide_eq_false (by omega))) rfl ?_
  refine l_alds (p' := 38) rfl rfl rfl rfl ?_
  refine l_ild (p' := 40) rfl rfl rfl rfl ?_
  refine l_ialz (p' := 41) (m := i) (z := (xs i)) rfl rfl (inb_nI (by omega) (by omega)) (mI_cl (by omega)) rfl rfl ?_
  refine l_bip (p' := 43) rfl rfl rfl ?_
  refine l_bz (p' := 44) (z := (nI 7)) rfl rfl rfl rfl rfl hk ?_
  refine l_sp (p' := 575) (ls' := _) rfl rfl rfl rfl rfl ?_
  refine l_aldn (p' := 576) rfl rfl rfl rfl ?_
  refine l_alds (p' := 577) rfl rfl rfl rfl ?_
  refine l_ild (p' := 579) rfl rfl rfl rfl ?_
  refine l_con (p' := 580) rfl rfl rfl ?_
  refine l_bz (p' := 581) (z := (nI (i + 1))) rfl rfl rfl rfl rfl (mI_add _ _) ?_
  refine l_ialz (p' := 582) (m := (i + 1)) (z := (nI p)) rfl rfl (inb_nI (by omega) (by omega)) (mI_cl (by omega)) hx1 rfl ?_
  refine l_alds (p' := 583) rfl rfl rfl rfl ?_
  refine l_ild (p' := 585) rfl rfl rfl rfl ?_
  refine l_con (p' := 586) rfl rfl rfl ?_
  refine l_bz (p' := 587) (z := (nI (i + 2))) rfl rfl rfl rfl rfl (mI_add _ _) ?_
  refine l_ialz (p' := 588) (m := (i + 2)) (z := (xs (i + 2))) rfl rfl (inb_nI (by omega) (by omega)) (mI_cl (by omega)) rfl rfl ?_
  refine l_aldn (p' := 589) rfl rfl rfl rfl ?_
  refine l_call (p' := 592) (kc := 99) (ls0 := [_, _, _, _, _]) rfl rfl rfl rfl rfl rfl rfl rfl rfl rfl ?_
  refine s_aldn (p' := 1) rfl rfl rfl ?_
  refine s_con (p' := 2) rfl rfl ?_
  refine s_aldn (p' := 3) rfl rfl rfl ?_
  refine s_ildn (p' := 4) rfl rfl rfl ?_
  refine s_ildn (p' := 5) rfl rfl rfl ?_
  refine c_call (p' := 8) (kc := 98) (ls0 := [_, _, _, _]) rfl rfl rfl rfl rfl (mj_rcv_is H0) rfl rfl rfl ?_
  refine s_aldn (p' := 1) rfl rfl rfl ?_
  refine s_gf (p' := 4) rfl H0 rfl rfl ?_
  refine s_ildn (p' := 5) rfl rfl rfl ?_
  refine c_call (p' := 8) (kc := 97) (ls0 := [_, _]) rfl rfl rfl rfl rfl (mj_rcv_is H38) rfl rfl rfl ?_
  refine s_ildn (p' := 1) rfl rfl rfl ?_
  refine s_if (p' := 4) false rfl ((cg_lt (w := 0) (by decide +kernel)).trans (decide_eq_false (by rw [mI_ti (by omega)]; omega))) rfl ?_
  refine s_ildn (p' := 5) rfl rfl rfl ?_
  refine s_aldn (p' := 6) rfl rfl rfl ?_
  refine s_gf (p' := 9) rfl H38 rfl rfl ?_
  refine s_icmp (p' := 16) true rfl ((ci_ge (by omega) (by omega)).trans (decide_eq_true (by omega))) rfl ?_
  refine s_con (p' := 17) rfl rfl ?_
  refine c_iret rfl (by decide +kernel) ?_
  refine s_if (p' := 11) false rfl (by decide +kernel) rfl ?_
  refine s_thrz (q := N) rfl HL rfl ?_
  refine K_c (hp := 13) (Nat.blt_eq.mpr (by omega)) (mj_ocl_is (rd_nw (Nat.blt_eq.mpr (by omega)) HL)) rfl ?_
  refine s_ast (p' := 15) (ls' := [_, _, _, _, _]) rfl rfl rfl rfl ?_
  refine s_con (p' := 16) rfl rfl ?_
  refine k_iret rfl rfl ?_
  refine l_ist (p' := 594) (ls' := [_, _, _, _, _, _, _, _, _, _]) rfl rfl rfl rfl rfl ?_
  refine l_aldn (p' := 595) rfl rfl rfl rfl ?_
  refine l_alds (p' := 596) rfl rfl rfl rfl ?_
  refine l_ild (p' := 598) rfl rfl rfl rfl ?_
  refine l_con (p' := 599) rfl rfl rfl ?_
  refine l_bz (p' := 600) (z := (nI (i + 1))) rfl rfl rfl rfl rfl (mI_add _ _) ?_
  refine l_ialz (p' := 601) (m := (i + 1)) (z := (nI p)) rfl rfl (inb_nI (by omega) (by omega)) (mI_cl (by omega)) hx1 rfl ?_
  refine l_alds (p' := 602) rfl rfl rfl rfl ?_
  refine l_ild (p' := 604) rfl rfl rfl rfl ?_
  refine l_con (p' := 605) rfl rfl rfl ?_
  refine l_bz (p' := 606) (z := (nI (i + 2))) rfl rfl rfl rfl rfl (mI_add _ _) ?_
  refine l_ialz (p' := 607) (m := (i + 2)) (z := (xs (i + 2))) rfl rfl (inb_nI (by omega) (by omega)) (mI_cl (by omega)) rfl rfl ?_
  refine l_call (p' := 610) (kc := 99) (ls0 := [_, _, _]) rfl rfl rfl rfl rfl rfl (mj_rcv_is (rd_app H400)) rfl rfl rfl ?_
  refine s_aldn (p' := 1) rfl rfl rfl ?_
  refine s_aldn (p' := 2) rfl rfl rfl ?_
  refine s_ildn (p' := 3) rfl rfl rfl ?_
  refine c_call (p' := 6) (kc := 98) (ls0 := [_, _]) rfl rfl rfl rfl rfl (mj_rcv_is (rd_app H400)) rfl rfl rfl ?_
  refine s_ildn (p' := 1) rfl rfl rfl ?_
  refine s_con (p' := 2) rfl rfl ?_
  refine s_aldn (p' := 3) rfl rfl rfl ?_
  refine s_gf (p' := 6) rfl (rd_app H400) rfl rfl ?_
  refine c_call (p' := 11) (kc := 97) (ls0 := [_]) rfl rfl rfl rfl rfl (mj_rcv_is (rd_app H401)) rfl rfl rfl ?_
  refine s_aldn (p' := 1) rfl rfl rfl ?_
  refine s_gf (p' := 4) rfl (rd_app H401) rfl rfl ?_
  refine c_iret rfl rfl ?_
  refine s_con (p' := 12) rfl rfl ?_
  refine s_bz (p' := 13) (z := (nI (q - 1))) rfl rfl rfl (mI_sub (by omega)) ?_
  refine c_call (p' := 16) (kc := 97) (ls0 := [_, _, _]) rfl rfl rfl rfl rfl rfl rfl rfl rfl ?_
  refine s_ildn (p' := 1) rfl rfl rfl ?_
  refine s_ildn (p' := 2) rfl rfl rfl ?_
  refine s_icmp (p' := 5) false rfl ((ch_gt (w := 0) (by decide +kernel)).trans (decide_eq_false (by rw [mI_ti (by omega)]; omega))) rfl ?_
  refine s_ildn (p' := 6) rfl rfl rfl ?_
  refine s_ildn (p' := 7) rfl rfl rfl ?_
  refine s_icmp (p' := 14) true rfl ((ci_gt (by omega) (by omega)).trans (decide_eq_true (by omega))) rfl ?_
  refine s_con (p' := 15) rfl rfl ?_
  refine c_iret rfl (by decide +kernel) ?_
  refine c_iret rfl (by decide +kernel) ?_
  refine s_if (p' := 42) true rfl (by decide +kernel) rfl ?_
  refine s_con (p' := 43) rfl rfl ?_
  refine c_call (p' := 46) (kc := 98) (ls0 := [_, _]) rfl rfl rfl rfl rfl (mj_rcv_is (rd_app H400)) rfl rfl rfl ?_
  refine s_aldn (p' := 1) rfl rfl rfl ?_
  refine s_ildn (p' := 2) rfl rfl rfl ?_
  refine s_pfz (p' := 5) (fs' := [_, _, _, _, _, _, _, _, _, _, _]) rfl rfl (rd_app H400) rfl rfl rfl rfl ?_
  refine s_ildn (p' := 6) rfl rfl rfl ?_
  refine s_if (p' := 9) false rfl (by decide +kernel) rfl ?_
  refine s_con (p' := 10) rfl rfl ?_
  refine s_goto (p' := 14) rfl rfl ?_
  refine c_iret rfl (by decide +kernel) ?_
  refine s_if (p' := 49) false rfl (by decide +kernel) rfl ?_
  refine s_con (p' := 50) rfl rfl ?_
  refine s_goto (p' := 73) rfl rfl ?_
  refine k_iret rfl (by decide +kernel) ?_
  refine l_ist (p' := 612) (ls' := [_, _, _, _, _, _, _, _, _, _]) rfl rfl rfl rfl rfl ?_
  refine l_aldn (p' := 613) rfl rfl rfl rfl ?_
  refine l_call (p' := 616) (kc := 99) (ls0 := [_]) rfl rfl rfl rfl rfl rfl (mj_rcv_is (rd_ss rfl (rd_app H400))) rfl rfl rfl ?_
  refine s_aldn (p' := 1) rfl rfl rfl ?_
  refine s_gf (p' := 4) rfl (rd_ss rfl (rd_app H400)) rfl rfl ?_
  refine k_iret rfl rfl ?_
  refine l_ild (p' := 618) rfl rfl rfl rfl ?_
  refine l_icmp (p' := 623) true rfl rfl (by decide +kernel) rfl ?_
  refine l_ild (p' := 625) rfl rfl rfl rfl ?_
  refine l_if (p' := 640) true rfl rfl (by decide +kernel) rfl ?_
  refine l_goto (p' := 2541) rfl rfl rfl ?_
  refine l_incz (p' := 2544) (w := (nI (i + 4))) (ls' := [_, _, _, _, _, _, _, _, _, _]) rfl rfl rfl rfl (mI_add _ _) rfl rfl ?_
  refine l_goto (p' := 28) rfl rfl rfl ?_
  exact hn _ _ _ _ _ ⟨(rd_ss rfl (rd_app H400)), (mz_fr.s (by decide) (mz_fr.a (mz_fr.rf _ h))), (Nat.le_trans (Nat.le_of_eq (len_s (len_a HL rfl))) (by omega)), (Nat.le_trans (sz_s rfl (rd_app H400) rfl (sz_aa (k := 6) (m := mj_sz h + 6) rfl (by omega) (Nat.le_refl (mj_sz h)))) (by omega))⟩
theorem w_8_n {L i N : Nat} {xs : Nat → Int32} {h : mj_H} {l6 l7 l8 l9 : Option Value} {P : mj_H → Prop} (hL : L ≤ 2048) (hi : i + 4 ≤ L) (hN : N + 2000 < mj_CB) (hN0 : 414 ≤ N) (HL : h.length = N) (hk : xs i &&& nI 63 = nI 8) {gs pl ty wa nw nx dp ca mf : Value} {th : Int32} {sd be : Int64} {ou : Nat → Int64} {vf wf sf uf im jm : Nat → Int32} {k g : Nat} (hk20 : k ≤ 20) (hvw : ∀ j, j < 8 → wf j = vf j) (hsu : ∀ j, j < k → uf j = sf j) (him : ∀ j, j < 8 → jm j = im j) {pe pm ge gm : Value} {q : Nat} (hq6 : q ≤ 6) (hg24 : g ≤ 24) {p : Int32} (hp : p.toInt < 0) (hq1 : 1 ≤ q) (hx1 : xs (i + 1) = p) (H0 : mj_rd h 0 = some (.inr (0, [.ref 1, .ref 38, .ref 299, .ref 336, .ref 373, .ref 375, .ref 378, .ref 381, .ref 387, .ref 393, gs, pl, .ref 397, .ref 398, .ref 399, .long sd, .long be]))) (H38 : mj_rd h 38 = some (.inr (6, [.ref 39, .ref 40, .int (nI q)]))) (H400 : mj_rd h 400 = some (.inr (17, [.int th, .ref 401, .ref 402, ty, .long sd, .long be, .ref 410, wa, nw, nx, .ref 411]))) (H401 : mj_rd h 401 = some (.inr (18, [pe, .int (nI q), pm]))) (hn : ∀ (l6 l7 l8 l9 : Option Value) (h' : mj_H), mj_rd h' 400 = some (.inr (17, [.int (nI 1), .ref 401, .ref 402, ty, .long sd, .long be, .ref 410, wa, nw, nx, .ref 411])) ∧ mz_fr [400] h h' ∧ h'.length ≤ N + 1 ∧ mj_sz h' ≤ mj_sz h + 6 → mj_lrun L xs (28, [some (.retAddr 1), some (.ref 0), some (.ref 400), some (.ref 412), some (.ref 413), some (.int (nI (i + 4))), l6, l7, l8, l9], [], h') P) : mj_lrun L xs (28, [some (.retAddr 1), some (.ref 0), some (.ref 400), some (.ref 412), some (.ref 413), some (.int (nI i)), l6, l7, l8, l9], [], h) P := by
  refine l_ild (p' := 30) rfl rfl rfl rfl ?_
  refine l_alds (p' := 31) rfl rfl rfl rfl ?_
  refine l_lens (p' := 32) rfl rfl rfl ?_
  refine l_con (p' := 33) rfl rfl rfl ?_
  refine l_bz (p' := 34) (z := (nI (L - 4))) rfl rfl rfl rfl rfl (mI_sub (by omega)) ?_
  refine l_icmp (p' := 37) false rfl rfl ((ci_gt (by omega) (by omega)).trans (decide_eq_false (by omega))) rfl ?_
  refine l_alds (p' := 38) rfl rfl rfl rfl ?_
  refine l_ild (p' := 40) rfl rfl rfl rfl ?_
  refine l_ialz (p' := 41) (m := i) (z := (xs i)) rfl rfl (inb_nI (by omega) (by omega)) (mI_cl (by omega)) rfl rfl ?_
  refine l_bip (p' := 43) rfl rfl rfl ?_
  refine l_bz (p' := 44) (z := (nI 8)) rfl rfl rfl rfl rfl hk ?_
  refine l_sp (p' := 643) (ls' := _) rfl rfl rfl rfl rfl ?_
  refine l_aldn (p' := 644) rfl rfl rfl rfl ?_
  refine l_alds (p' := 645) rfl rfl rfl rfl ?_
  refine l_ild (p' := 647) rfl rfl rfl rfl ?_
  refine l_con (p' := 648) rfl rfl rfl ?_
  refine l_bz (p' := 649) (z := (nI (i + 1))) rfl rfl rfl rfl rfl (mI_add _ _) ?_
  refine l_ialz (p' := 650) (m := (i + 1)) (z := p) rfl rfl (inb_nI (by omega) (by omega)) (mI_cl (by omega)) hx1 rfl ?_
  refine l_aldn (p' := 651) rfl rfl rfl rfl ?_
  refine l_call (p' := 654) (kc := 99) (ls0 := [_, _, _, _]) rfl rfl rfl rfl rfl rfl rfl rfl rfl rfl ?_
  refine s_aldn (p' := 1) rfl rfl rfl ?_
  refine s_con (p' := 2) rfl rfl ?_
  refine s_aldn (p' := 3) rfl rfl rfl ?_
  refine s_ildn (p' := 4) rfl rfl rfl ?_
  refine c_call (p' := 7) (kc := 98) (ls0 := [_, _]) rfl rfl rfl rfl rfl (mj_rcv_is H0) rfl rfl rfl ?_
  refine s_aldn (p' := 1) rfl rfl rfl ?_
  refine s_gf (p' := 4) rfl H0 rfl rfl ?_
  refine s_ildn (p' := 5) rfl rfl rfl ?_
  refine c_call (p' := 8) (kc := 97) (ls0 := [_, _]) rfl rfl rfl rfl rfl (mj_rcv_is H38) rfl rfl rfl ?_
  refine s_ildn (p' := 1) rfl rfl rfl ?_
  refine s_if (p' := 16) true rfl ((cg_lt (w := 0) (by decide +kernel)).trans (decide_eq_true (by omega))) rfl ?_
  refine s_con (p' := 17) rfl rfl ?_
  refine c_iret rfl (by decide +kernel) ?_
  refine s_if (p' := 11) false rfl (by decide +kernel) rfl ?_
  refine s_thrz (q := N) rfl HL rfl ?_
  refine K_c (hp := 12) (Nat.blt_eq.mpr (by omega)) (mj_ocl_is (rd_nw (Nat.blt_eq.mpr (by omega)) HL)) rfl ?_
  refine s_astn (p' := 13) (ls' := [_, _, _, _]) rfl rfl rfl rfl ?_
  refine s_con (p' := 14) rfl rfl ?_
  refine k_iret rfl rfl ?_
  refine l_ist (p' := 656) (ls' := [_, _, _, _, _, _, _, _, _, _]) rfl rfl rfl rfl rfl ?_
  refine l_aldn (p' := 657) rfl rfl rfl rfl ?_
  refine l_alds (p' := 658) rfl rfl rfl rfl ?_
  refine l_ild (p' := 660) rfl rfl rfl rfl ?_
  refine l_con (p' := 661) rfl rfl rfl ?_
  refine l_bz (p' := 662) (z := (nI (i + 1))) rfl rfl rfl rfl rfl (mI_add _ _) ?_
  refine l_ialz (p' := 663) (m := (i + 1)) (z := p) rfl rfl (inb_nI (by omega) (by omega)) (mI_cl (by omega)) hx1 rfl ?_
  refine l_call (p' := 666) (kc := 99) (ls0 := [_, _]) rfl rfl rfl rfl rfl rfl (mj_rcv_is (rd_app H400)) rfl rfl rfl ?_
  refine s_aldn (p' := 1) rfl rfl rfl ?_
  refine s_aldn (p' := 2) rfl rfl rfl ?_
  refine s_ildn (p' := 3) rfl rfl rfl ?_
  refine c_call (p' := 6) (kc := 98) (ls0 := [_, _]) rfl rfl rfl rfl rfl (mj_rcv_is (rd_app H400)) rfl rfl rfl ?_
  refine s_ildn (p' := 1) rfl rfl rfl ?_
  refine s_con (p' := 2) rfl rfl ?_
  refine s_aldn (p' := 3) rfl rfl rfl ?_
  refine s_gf (p' := 6) rfl (rd_app H400) rfl rfl ?_
  refine c_call (p' := 11) (kc := 97) (ls0 := [_]) rfl rfl rfl rfl rfl (mj_rcv_is (rd_app H401)) rfl rfl rfl ?_
  refine s_aldn (p' := 1) rfl rfl rfl ?_
  refine s_gf (p' := 4) rfl (rd_app H401) rfl rfl ?_
  refine c_iret rfl rfl ?_
  refine s_con (p' := 12) rfl rfl ?_
  refine s_bz (p' := 13) (z := (nI (q - 1))) rfl rfl rfl (mI_sub (by omega)) ?_
  refine c_call (p' := 16) (kc := 97) (ls0 := [_, _, _]) rfl rfl rfl rfl rfl rfl rfl rfl rfl ?_
  refine s_ildn (p' := 1) rfl rfl rfl ?_
  refine s_ildn (p' := 2) rfl rfl rfl ?_
  refine s_icmp (p' := 14) true rfl ((ch_gt (w := 0) (by decide +kernel)).trans (decide_eq_true (by omega))) rfl ?_
  refine s_con (p' := 15) rfl rfl ?_
  refine c_iret rfl (by decide +kernel) ?_
  refine c_iret rfl (by decide +kernel) ?_
  refine s_if (p' := 13) true rfl (by decide +kernel) rfl ?_
  refine s_con (p' := 14) rfl rfl ?_
  refine c_call (p' := 17) (kc := 98) (ls0 := [_, _]) rfl rfl rfl rfl rfl (mj_rcv_is (rd_app H400)) rfl rfl rfl ?_
  refine s_aldn (p' := 1) rfl rfl rfl ?_
  refine s_ildn (p' := 2) rfl rfl rfl ?_
  refine s_pfz (p' := 5) (fs' := [_, _, _, _, _, _, _, _, _, _, _]) rfl rfl (rd_app H400) rfl rfl rfl rfl ?_
  refine s_ildn (p' := 6) rfl rfl rfl ?_
  refine s_if (p' := 9) false rfl (by decide +kernel) rfl ?_
  refine s_con (p' := 10) rfl rfl ?_
  refine s_goto (p' := 14) rfl rfl ?_
  refine c_iret rfl (by decide +kernel) ?_
  refine s_if (p' := 20) false rfl (by decide +kernel) rfl ?_
  refine s_con (p' := 21) rfl rfl ?_
  refine s_goto (p' := 45) rfl rfl ?_
  refine k_iret rfl rfl ?_
  refine l_ist (p' := 668) (ls' := [_, _, _, _, _, _, _, _, _, _]) rfl rfl rfl rfl rfl ?_
  refine l_aldn (p' := 669) rfl rfl rfl rfl ?_
  refine l_call (p' := 672) (kc := 99) (ls0 := [_]) rfl rfl rfl rfl rfl rfl (mj_rcv_is (rd_ss rfl (rd_app H400))) rfl rfl rfl ?_
  refine s_aldn (p' := 1) rfl rfl rfl ?_
  refine s_gf (p' := 4) rfl (rd_ss rfl (rd_app H400)) rfl rfl ?_
  refine k_iret rfl rfl ?_
  refine l_ild (p' := 674) rfl rfl rfl rfl ?_
  refine l_icmp (p' := 679) true rfl rfl (by decide +kernel) rfl ?_
  refine l_ild (p' := 681) rfl rfl rfl rfl ?_
  refine l_if (p' := 696) true rfl rfl (by decide +kernel) rfl ?_
  refine l_goto (p' := 2541) rfl rfl rfl ?_
  refine l_incz (p' := 2544) (w := (nI (i + 4))) (ls' := [_, _, _, _, _, _, _, _, _, _]) rfl rfl rfl rfl (mI_add _ _) rfl rfl ?_
  refine l_goto (p' := 28) rfl rfl rfl ?_
  exact hn _ _ _ _ _ ⟨(rd_ss rfl (rd_app H400)), (mz_fr.s (by decide) (mz_fr.a (mz_fr.rf _ h))), (Nat.le_trans (Nat.le_of_eq (len_s (len_a HL rfl))) (by omega)), (Nat.le_trans (sz_s rfl (rd_app H400) rfl (sz_aa (k := 6) (m := mj_sz h + 6) rfl (by omega) (Nat.le_refl (mj_sz h)))) (by omega))⟩
theorem w_8_m {L i N : Nat} {xs : Nat → Int32} {h : mj_H} {l6 l7 l8 l9 : Option Value} {P : mj_H → Prop} (hL : L ≤ 2048) (hi : i + 4 ≤ L) (hN : N + 2000 < mj_CB) (hN0 : 414 ≤ N) (HL : h.length = N) (hk : xs i &&& nI 63 = nI 8) {gs pl ty wa nw nx dp ca mf : Value} {th : Int32} {sd be : Int64} {ou : Nat → Int64} {vf wf sf uf im jm : Nat → Int32} {k g : Nat} (hk20 : k ≤ 20) (hvw : ∀ j, j < 8 → wf j = vf j) (hsu : ∀ j, j < k → uf j = sf j) (him : ∀ j, j < 8 → jm j = im j) {pe pm ge gm : Value} {q : Nat} (hq6 : q ≤ 6) (hg24 : g ≤ 24) {p : Nat} (hpb : p < 2147483648) (hp : q ≤ p) (hq1 : 1 ≤ q) (hx1 : xs (i + 1) = nI p) (H0 : mj_rd h 0 = some (.inr (0, [.ref 1, .ref 38, .ref 299, .ref 336, .ref 373, .ref 375, .ref 378, .ref 381, .ref 387, .ref 393, gs, pl, .ref 397, .ref 398, .ref 399, .long sd, .long be]))) (H38 : mj_rd h 38 = some (.inr (6, [.ref 39, .ref 40, .int (nI q)]))) (H400 : mj_rd h 400 = some (.inr (17, [.int th, .ref 401, .ref 402, ty, .long sd, .long be, .ref 410, wa, nw, nx, .ref 411]))) (H401 : mj_rd h 401 = some (.inr (18, [pe, .int (nI q), pm]))) (hn : ∀ (l6 l7 l8 l9 : Option Value) (h' : mj_H), mj_rd h' 400 = some (.inr (17, [.int (nI 1), .ref 401, .ref 402, ty, .long sd, .long be, .ref 410, wa, nw, nx, .ref 411])) ∧ mz_fr [400] h h' ∧ h'.length ≤ N + 1 ∧ mj_sz h' ≤ mj_sz h + 6 → mj_lrun L xs (28, [some (.retAddr 1), some (.ref 0), some (.ref 400), some (.ref 412), some (.ref 413), some (.int (nI (i + 4))), l6, l7, l8, l9], [], h') P) : mj_lrun L xs (28, [some (.retAddr 1), some (.ref 0), some (.ref 400), some (.ref 412), some (.ref 413), some (.int (nI i)), l6, l7, l8, l9], [], h) P := by
  refine l_ild (p' := 30) rfl rfl rfl rfl ?_
  refine l_alds (p' := 31) rfl rfl rfl rfl ?_
  refine l_lens (p' := 32) rfl rfl rfl ?_
  refine l_con (p' := 33) rfl rfl rfl ?_
  refine l_bz (p' := 34) (z := (nI (L - 4))) rfl rfl rfl rfl rfl (mI_sub (by omega)) ?_
  refine l_icmp (p' := 37) false rfl rfl ((ci_gt (by omega) (by omega)).trans (decide_eq_false (by omega))) rfl ?_
  refine l_alds (p' := 38) rfl rfl rfl rfl ?_
  refine l_ild (p' := 40) rfl rfl rfl rfl ?_
  refine l_ialz (p' := 41) (m := i) (z := (xs i)) rfl rfl (inb_nI (by omega) (by omega)) (mI_cl (by omega)) rfl rfl ?_
  refine l_bip (p' := 43) rfl rfl rfl ?_
  refine l_bz (p' := 44) (z := (nI 8)) rfl rfl rfl rfl rfl hk ?_
  refine l_sp (p' := 643) (ls' := _) rfl rfl rfl rfl rfl ?_
  refine l_aldn (p' := 644) rfl rfl rfl rfl ?_
  refine l_alds (p' := 645) rfl rfl rfl rfl ?_
  refine l_ild (p' := 647) rfl rfl rfl rfl ?_
  refine l_con (p' := 648) rfl rfl rfl ?_
  refine l_bz (p' := 649) (z := (nI (i + 1))) rfl rfl rfl rfl rfl (mI_add _ _) ?_
  refine l_ialz (p' := 650) (m := (i + 1)) (z := (nI p)) rfl rfl (inb_nI (by omega) (by omega)) (mI_cl (by omega)) hx1 rfl ?_
  refine l_aldn (p' := 651) rfl rfl rfl rfl ?_
  refine l_call (p' := 654) (kc := 99) (ls0 := [_, _, _, _]) rfl rfl rfl rfl rfl rfl rfl rfl rfl rfl ?_
  refine s_aldn (p' := 1) rfl rfl rfl ?_
  refine s_con (p' := 2) rfl rfl ?_
  refine s_aldn (p' := 3) rfl rfl rfl ?_
  refine s_ildn (p' := 4) rfl rfl rfl ?_
  refine c_call (p' := 7) (kc := 98) (ls0 := [_, _]) rfl rfl rfl rfl rfl (mj_rcv_is H0) rfl rfl rfl ?_
  refine s_aldn (p' := 1) rfl rfl rfl ?_
  refine s_gf (p' := 4) rfl H0 rfl rfl ?_
  refine s_ildn (p' := 5) rfl rfl rfl ?_
  refine c_call (p' := 8) (kc := 97) (ls0 := [_, _]) rfl rfl rfl rfl rfl (mj_rcv_is H38) rfl rfl rfl ?_
  refine s_ildn (p' := 1) rfl rfl rfl ?_
  refine s_if (p' := 4) false rfl ((cg_lt (w := 0) (by decide +kernel)).trans (decide_eq_false (by rw [mI_ti (by omega)]; omega))) rfl ?_
  refine s_ildn (p' := 5) rfl rfl rfl ?_
  refine s_aldn (p' := 6) rfl rfl rfl ?_
  refine s_gf (p' := 9) rfl H38 rfl rfl ?_
  refine s_icmp (p' := 16) true rfl ((ci_ge (by omega) (by omega)).trans (decide_eq_true (by omega))) rfl ?_
  refine s_con (p' := 17) rfl rfl ?_
  refine c_iret rfl (by decide +kernel) ?_
  refine s_if (p' := 11) false rfl (by decide +kernel) rfl ?_
  refine s_thrz (q := N) rfl HL rfl ?_
  refine K_c (hp := 12) (Nat.blt_eq.mpr (by omega)) (mj_ocl_is (rd_nw (Nat.blt_eq.mpr (by omega)) HL)) rfl ?_
  refine s_astn (p' := 13) (ls' := [_, _, _, _]) rfl rfl rfl rfl ?_
  refine s_con (p' := 14) rfl rfl ?_
  refine k_iret rfl rfl ?_
  refine l_ist (p' := 656) (ls' := [_, _, _, _, _, _, _, _, _, _]) rfl rfl rfl rfl rfl ?_
  refine l_aldn (p' := 657) rfl rfl rfl rfl ?_
  refine l_alds (p' := 658) rfl rfl rfl rfl ?_
  refine l_ild (p' := 660) rfl rfl rfl rfl ?_
  refine l_con (p' := 661) rfl rfl rfl ?_
  refine l_bz (p' := 662) (z := (nI (i + 1))) rfl rfl rfl rfl rfl (mI_add _ _) ?_
  refine l_ialz (p' := 663) (m := (i + 1)) (z := (nI p)) rfl rfl (inb_nI (by omega) (by omega)) (mI_cl (by omega)) hx1 rfl ?_
  refine l_call (p' := 666) (kc := 99) (ls0 := [_, _]) rfl rfl rfl rfl rfl rfl (mj_rcv_is (rd_app H400)) rfl rfl rfl ?_
  refine s_aldn (p' := 1) rfl rfl rfl ?_
  refine s_aldn (p' := 2) rfl rfl rfl ?_
  refine s_ildn (p' := 3) rfl rfl rfl ?_
  refine c_call (p' := 6) (kc := 98) (ls0 := [_, _]) rfl rfl rfl rfl rfl (mj_rcv_is (rd_app H400)) rfl rfl rfl ?_
  refine s_ildn (p' := 1) rfl rfl rfl ?_
  refine s_con (p' := 2) rfl rfl ?_
  refine s_aldn (p' := 3) rfl rfl rfl ?_
  refine s_gf (p' := 6) rfl (rd_app H400) rfl rfl ?_
  refine c_call (p' := 11) (kc := 97) (ls0 := [_]) rfl rfl rfl rfl rfl (mj_rcv_is (rd_app H401)) rfl rfl rfl ?_
  refine s_aldn (p' := 1) rfl rfl rfl ?_
  refine s_gf (p' := 4) rfl (rd_app H401) rfl rfl ?_
  refine c_iret rfl rfl ?_
  refine s_con (p' := 12) rfl rfl ?_
  refine s_bz (p' := 13) (z := (nI (q - 1))) rfl rfl rfl (mI_sub (by omega)) ?_
  refine c_call (p' := 16) (kc := 97) (ls0 := [_, _, _]) rfl rfl rfl rfl rfl rfl rfl rfl rfl ?_
  refine s_ildn (p' := 1) rfl rfl rfl ?_
  refine s_ildn (p' := 2) rfl rfl rfl ?_
  refine s_icmp (p' := 5) false rfl ((ch_gt (w := 0) (by decide +kernel)).trans (decide_eq_false (by rw [mI_ti (by omega)]; omega))) rfl ?_
  refine s_ildn (p' := 6) rfl rfl rfl ?_
  refine s_ildn (p' := 7) rfl rfl rfl ?_
  refine s_icmp (p' := 14) true rfl ((ci_gt (by omega) (by omega)).trans (decide_eq_true (by omega))) rfl ?_
  refine s_con (p' := 15) rfl rfl ?_
  refine c_iret rfl (by decide +kernel) ?_
  refine c_iret rfl (by decide +kernel) ?_
  refine s_if (p' := 13) true rfl (by decide +kernel) rfl ?_
  refine s_con (p' := 14) rfl rfl ?_
  refine c_call (p' := 17) (kc := 98) (ls0 := [_, _]) rfl rfl rfl rfl rfl (mj_rcv_is (rd_app H400)) rfl rfl rfl ?_
  refine s_aldn (p' := 1) rfl rfl rfl ?_
  refine s_ildn (p' := 2) rfl rfl rfl ?_
  refine s_pfz (p' := 5) (fs' := [_, _, _, _, _, _, _, _, _, _, _]) rfl rfl (rd_app H400) rfl rfl rfl rfl ?_
  refine s_ildn (p' := 6) rfl rfl rfl ?_
  refine s_if (p' := 9) false rfl (by decide +kernel) rfl ?_
  refine s_con (p' := 10) rfl rfl ?_
  refine s_goto (p' := 14) rfl rfl ?_
  refine c_iret rfl (by decide +kernel) ?_
  refine s_if (p' := 20) false rfl (by decide +kernel) rfl ?_
  refine s_con (p' := 21) rfl rfl ?_
  refine s_goto (p' := 45) rfl rfl ?_
  refine k_iret rfl rfl ?_
  refine l_ist (p' := 668) (ls' := [_, _, _, _, _, _, _, _, _, _]) rfl rfl rfl rfl rfl ?_
  refine l_aldn (p' := 669) rfl rfl rfl rfl ?_
  refine l_call (p' := 672) (kc := 99) (ls0 := [_]) rfl rfl rfl rfl rfl rfl (mj_rcv_is (rd_ss rfl (rd_app H400))) rfl rfl rfl ?_
  refine s_aldn (p' := 1) rfl rfl rfl ?_
  refine s_gf (p' := 4) rfl (rd_ss rfl (rd_app H400)) rfl rfl ?_
  refine k_iret rfl rfl ?_
  refine l_ild (p' := 674) rfl rfl rfl rfl ?_
  refine l_icmp (p' := 679) true rfl rfl (by decide +kernel) rfl ?_
  refine l_ild (p' := 681) rfl rfl rfl rfl ?_
  refine l_if (p' := 696) true rfl rfl (by decide +kernel) rfl ?_
  refine l_goto (p' := 2541) rfl rfl rfl ?_
  refine l_incz (p' := 2544) (w := (nI (i + 4))) (ls' := [_, _, _, _, _, _, _, _, _, _]) rfl rfl rfl rfl (mI_add _ _) rfl rfl ?_
  refine l_goto (p' := 28) rfl rfl rfl ?_
  exact hn _ _ _ _ _ ⟨(rd_ss rfl (rd_app H400)), (mz_fr.s (by decide) (mz_fr.a (mz_fr.rf _ h))), (Nat.le_trans (Nat.le_of_eq (len_s (len_a HL rfl))) (by omega)), (Nat.le_trans (sz_s rfl (rd_app H400) rfl (sz_aa (k := 6) (m := mj_sz h + 6) rfl (by omega) (Nat.le_refl (mj_sz h)))) (by omega))⟩
theorem w_9_n {L i N : Nat} {xs : Nat → Int32} {h : mj_H} {l6 l7 l8 l9 : Option Value} {P : mj_H → Prop} (hL : L ≤ 2048) (hi : i + 4 ≤ L) (hN : N + 2000 < mj_CB) (hN0 : 414 ≤ N) (HL : h.length = N) (hk : xs i &&& nI 63 = nI 9) {gs pl ty wa nw nx dp ca mf : Value} {th : Int32} {sd be : Int64} {ou : Nat → Int64} {vf wf sf uf im jm : Nat → Int32} {k g : Nat} (hk20 : k ≤ 20) (hvw : ∀ j, j < 8 → wf j = vf j) (hsu : ∀ j, j < k → uf j = sf j) (him : ∀ j, j < 8 → jm j = im j) {pe pm ge gm : Value} {q : Nat} (hq6 : q ≤ 6) (hg24 : g ≤ 24) {p : Int32} (hp : p.toInt < 0) (hq1 : 1 ≤ q) (hx1 : xs (i + 1) = p) (H0 : mj_rd h 0 = some (.inr (0, [.ref 1, .ref 38, .ref 299, .ref 336, .ref 373, .ref 375, .ref 378, .ref 381, .ref 387, .ref 393, gs, pl, .ref 397, .ref 398, .ref 399, .long sd, .long be]))) (H38 : mj_rd h 38 = some (.inr (6, [.ref 39, .ref 40, .int (nI q)]))) (H400 : mj_rd h 400 = some (.inr (17, [.int th, .ref 401, .ref 402, ty, .long sd, .long be, .ref 410, wa, nw, nx, .ref 411]))) (H401 : mj_rd h 401 = some (.inr (18, [pe, .int (nI q), pm]))) (hn : ∀ (l6 l7 l8 l9 : Option Value) (h' : mj_H), mj_rd h' 400 = some (.inr (17, [.int (nI 1), .ref 401, .ref 402, ty, .long sd, .long be, .ref 410, wa, nw, nx, .ref 411])) ∧ mz_fr [400] h h' ∧ h'.length ≤ N + 1 ∧ mj_sz h' ≤ mj_sz h + 6 → mj_lrun L xs (28, [some (.retAddr 1), some (.ref 0), some (.ref 400), some (.ref 412), some (.ref 413), some (.int (nI (i + 4))), l6, l7, l8, l9], [], h') P) : mj_lrun L xs (28, [some (.retAddr 1), some (.ref 0), some (.ref 400), some (.ref 412), some (.ref 413), some (.int (nI i)), l6, l7, l8, l9], [], h) P := by
  refine l_ild (p' := 30) rfl rfl rfl rfl ?_
  refine l_alds (p' := 31) rfl rfl rfl rfl ?_
  refine l_lens (p' := 32) rfl rfl rfl ?_
  refine l_con (p' := 33) rfl rfl rfl ?_
  refine l_bz (p' := 34) (z := (nI (L - 4))) rfl rfl rfl rfl rfl (mI_sub (by omega)) ?_
  refine l_icmp (p' := 37) false rfl rfl ((ci_gt (by omega) (by omega)).trans (decide_eq_false (by omega))) rfl ?_
  refine l_alds (p' := 38) rfl rfl rfl rfl ?_
  refine l_ild (p' := 40) rfl rfl rfl rfl ?_
  refine l_ialz (p' := 41) (m := i) (z := (xs i)) rfl rfl (inb_nI (by omega) (by omega)) (mI_cl (by omega)) rfl rfl ?_
  refine l_bip (p' := 43) rfl rfl rfl ?_
  refine l_bz (p' := 44) (z := (nI 9)) rfl rfl rfl rfl rfl hk ?_
  refine l_sp (p' := 699) (ls' := _) rfl rfl rfl rfl rfl ?_
  refine l_aldn (p' := 700) rfl rfl rfl rfl ?_
  refine l_alds (p' := 701) rfl rfl rfl rfl ?_
  refine l_ild (p' := 703) rfl rfl rfl rfl ?_
  refine l_con (p' := 704) rfl rfl rfl ?_
  refine l_bz (p' := 705) (z := (nI (i + 1))) rfl rfl rfl rfl rfl (mI_add _ _) ?_
  refine l_ialz (p' := 706) (m := (i + 1)) (z := p) rfl rfl (inb_nI (by omega) (by omega)) (mI_cl (by omega)) hx1 rfl ?_
  refine l_alds (p' := 707) rfl rfl rfl rfl ?_
  refine l_ild (p' := 709) rfl rfl rfl rfl ?_
  refine l_con (p' := 710) rfl rfl rfl ?_
  refine l_bz (p' := 711) (z := (nI (i + 2))) rfl rfl rfl rfl rfl (mI_add _ _) ?_
  refine l_ialz (p' := 712) (m := (i + 2)) (z := (xs (i + 2))) rfl rfl (inb_nI (by omega) (by omega)) (mI_cl (by omega)) rfl rfl ?_
  refine l_aldn (p' := 713) rfl rfl rfl rfl ?_
  refine l_call (p' := 716) (kc := 99) (ls0 := [_, _, _, _, _]) rfl rfl rfl rfl rfl rfl rfl rfl rfl rfl ?_
  refine s_aldn (p' := 1) rfl rfl rfl ?_
  refine s_con (p' := 2) rfl rfl ?_
  refine s_aldn (p' := 3) rfl rfl rfl ?_
  refine s_ildn (p' := 4) rfl rfl rfl ?_
  refine s_ildn (p' := 5) rfl rfl rfl ?_
  refine c_call (p' := 8) (kc := 98) (ls0 := [_, _, _, _]) rfl rfl rfl rfl rfl (mj_rcv_is H0) rfl rfl rfl ?_
  refine s_aldn (p' := 1) rfl rfl rfl ?_
  refine s_gf (p' := 4) rfl H0 rfl rfl ?_
  refine s_ildn (p' := 5) rfl rfl rfl ?_
  refine c_call (p' := 8) (kc := 97) (ls0 := [_, _]) rfl rfl rfl rfl rfl (mj_rcv_is H38) rfl rfl rfl ?_
  refine s_ildn (p' := 1) rfl rfl rfl ?_
  refine s_if (p' := 16) true rfl ((cg_lt (w := 0) (by decide +kernel)).trans (decide_eq_true (by omega))) rfl ?_
  refine s_con (p' := 17) rfl rfl ?_
  refine c_iret rfl (by decide +kernel) ?_
  refine s_if (p' := 11) false rfl (by decide +kernel) rfl ?_
  refine s_thrz (q := N) rfl HL rfl ?_
  refine K_c (hp := 13) (Nat.blt_eq.mpr (by omega)) (mj_ocl_is (rd_nw (Nat.blt_eq.mpr (by omega)) HL)) rfl ?_
  refine s_ast (p' := 15) (ls' := [_, _, _, _, _]) rfl rfl rfl rfl ?_
  refine s_con (p' := 16) rfl rfl ?_
  refine k_iret rfl rfl ?_
  refine l_ist (p' := 718) (ls' := [_, _, _, _, _, _, _, _, _, _]) rfl rfl rfl rfl rfl ?_
  refine l_aldn (p' := 719) rfl rfl rfl rfl ?_
  refine l_alds (p' := 720) rfl rfl rfl rfl ?_
  refine l_ild (p' := 722) rfl rfl rfl rfl ?_
  refine l_con (p' := 723) rfl rfl rfl ?_
  refine l_bz (p' := 724) (z := (nI (i + 1))) rfl rfl rfl rfl rfl (mI_add _ _) ?_
  refine l_ialz (p' := 725) (m := (i + 1)) (z := p) rfl rfl (inb_nI (by omega) (by omega)) (mI_cl (by omega)) hx1 rfl ?_
  refine l_alds (p' := 726) rfl rfl rfl rfl ?_
  refine l_ild (p' := 728) rfl rfl rfl rfl ?_
  refine l_con (p' := 729) rfl rfl rfl ?_
  refine l_bz (p' := 730) (z := (nI (i + 2))) rfl rfl rfl rfl rfl (mI_add _ _) ?_
  refine l_ialz (p' := 731) (m := (i + 2)) (z := (xs (i + 2))) rfl rfl (inb_nI (by omega) (by omega)) (mI_cl (by omega)) rfl rfl ?_
  refine l_call (p' := 734) (kc := 99) (ls0 := [_, _, _]) rfl rfl rfl rfl rfl rfl (mj_rcv_is (rd_app H400)) rfl rfl rfl ?_
  refine s_aldn (p' := 1) rfl rfl rfl ?_
  refine s_aldn (p' := 2) rfl rfl rfl ?_
  refine s_ildn (p' := 3) rfl rfl rfl ?_
  refine c_call (p' := 6) (kc := 98) (ls0 := [_, _]) rfl rfl rfl rfl rfl (mj_rcv_is (rd_app H400)) rfl rfl rfl ?_
  refine s_ildn (p' := 1) rfl rfl rfl ?_
  refine s_con (p' := 2) rfl rfl ?_
  refine s_aldn (p' := 3) rfl rfl rfl ?_
  refine s_gf (p' := 6) rfl (rd_app H400) rfl rfl ?_
  refine c_call (p' := 11) (kc := 97) (ls0 := [_]) rfl rfl rfl rfl rfl (mj_rcv_is (rd_app H401)) rfl rfl rfl ?_
  refine s_aldn (p' := 1) rfl rfl rfl ?_
  refine s_gf (p' := 4) rfl (rd_app H401) rfl rfl ?_
  refine c_iret rfl rfl ?_
  refine s_con (p' := 12) rfl rfl ?_
  refine s_bz (p' := 13) (z := (nI (q - 1))) rfl rfl rfl (mI_sub (by omega)) ?_
  refine c_call (p' := 16) (kc := 97) (ls0 := [_, _, _]) rfl rfl rfl rfl rfl rfl rfl rfl rfl ?_
  refine s_ildn (p' := 1) rfl rfl rfl ?_
  refine s_ildn (p' := 2) rfl rfl rfl ?_
  refine s_icmp (p' := 14) true rfl ((ch_gt (w := 0) (by decide +kernel)).trans (decide_eq_true (by omega))) rfl ?_
  refine s_con (p' := 15) rfl rfl ?_
  refine c_iret rfl (by decide +kernel) ?_
  refine c_iret rfl (by decide +kernel) ?_
  refine s_if (p' := 44) true rfl (by decide +kernel) rfl ?_
  refine s_con (p' := 45) rfl rfl ?_
  refine c_call (p' := 48) (kc := 98) (ls0 := [_, _]) rfl rfl rfl rfl rfl (mj_rcv_is (rd_app H400)) rfl rfl rfl ?_
  refine s_aldn (p' := 1) rfl rfl rfl ?_
  refine s_ildn (p' := 2) rfl rfl rfl ?_
  refine s_pfz (p' := 5) (fs' := [_, _, _, _, _, _, _, _, _, _, _]) rfl rfl (rd_app H400) rfl rfl rfl rfl ?_
  refine s_ildn (p' := 6) rfl rfl rfl ?_
  refine s_if (p' := 9) false rfl (by decide +kernel) rfl ?_
  refine s_con (p' := 10) rfl rfl ?_
  refine s_goto (p' := 14) rfl rfl ?_
  refine c_iret rfl (by decide +kernel) ?_
  refine s_if (p' := 51) false rfl (by decide +kernel) rfl ?_
  refine s_con (p' := 52) rfl rfl ?_
  refine s_goto (p' := 83) rfl rfl ?_
  refine k_iret rfl (by decide +kernel) ?_
  refine l_ist (p' := 736) (ls' := [_, _, _, _, _, _, _, _, _, _]) rfl rfl rfl rfl rfl ?_
  refine l_aldn (p' := 737) rfl rfl rfl rfl ?_
  refine l_call (p' := 740) (kc := 99) (ls0 := [_]) rfl rfl rfl rfl rfl rfl (mj_rcv_is (rd_ss rfl (rd_app H400))) rfl rfl rfl ?_
  refine s_aldn (p' := 1) rfl rfl rfl ?_
  refine s_gf (p' := 4) rfl (rd_ss rfl (rd_app H400)) rfl rfl ?_
  refine k_iret rfl rfl ?_
  refine l_ild (p' := 742) rfl rfl rfl rfl ?_
  refine l_icmp (p' := 747) true rfl rfl (by decide +kernel) rfl ?_
  refine l_ild (p' := 749) rfl rfl rfl rfl ?_
  refine l_if (p' := 764) true rfl rfl (by decide +kernel) rfl ?_
  refine l_goto (p' := 2541) rfl rfl rfl ?_
  refine l_incz (p' := 2544) (w := (nI (i + 4))) (ls' := [_, _, _, _, _, _, _, _, _, _]) rfl rfl rfl rfl (mI_add _ _) rfl rfl ?_
  refine l_goto (p' := 28) rfl rfl rfl ?_
  exact hn _ _ _ _ _ ⟨(rd_ss rfl (rd_app H400)), (mz_fr.s (by decide) (mz_fr.a (mz_fr.rf _ h))), (Nat.le_trans (Nat.le_of_eq (len_s (len_a HL rfl))) (by omega)), (Nat.le_trans (sz_s rfl (rd_app H400) rfl (sz_aa (k := 6) (m := mj_sz h + 6) rfl (by omega) (Nat.le_refl (mj_sz h)))) (by omega))⟩
theorem w_9_m {L i N : Nat} {xs : Nat → Int32} {h : mj_H} {l6 l7 l8 l9 : Option Value} {P : mj_H → Prop} (hL : L ≤ 2048) (hi : i + 4 ≤ L) (hN : N + 2000 < mj_CB) (hN0 : 414 ≤ N) (HL : h.length = N) (hk : xs i &&& nI 63 = nI 9) {gs pl ty wa nw nx dp ca mf : Value} {th : Int32} {sd be : Int64} {ou : Nat → Int64} {vf wf sf uf im jm : Nat → Int32} {k g : Nat} (hk20 : k ≤ 20) (hvw : ∀ j, j < 8 → wf j = vf j) (hsu : ∀ j, j < k → uf j = sf j) (him : ∀ j, j < 8 → jm j = im j) {pe pm ge gm : Value} {q : Nat} (hq6 : q ≤ 6) (hg24 : g ≤ 24) {p : Nat} (hpb : p < 2147483648) (hp : q ≤ p) (hq1 : 1 ≤ q) (hx1 : xs (i + 1) = nI p) (H0 : mj_rd h 0 = some (.inr (0, [.ref 1, .ref 38, .ref 299, .ref 336, .ref 373, .ref 375, .ref 378, .ref 381, .ref 387, .ref 393, gs, pl, .ref 397, .ref 398, .ref 399, .long sd, .long be]))) (H38 : mj_rd h 38 = some (.inr (6, [.ref 39, .ref 40, .int (nI q)]))) (H400 : mj_rd h 400 = some (.inr (17, [.int th, .ref 401, .ref 402, ty, .long sd, .long be, .ref 410, wa, nw, nx, .ref 411]))) (H401 : mj_rd h 401 = some (.inr (18, [pe, .int (nI q), pm]))) (hn : ∀ (l6 l7 l8 l9 : Option Value) (h' : mj_H), mj_rd h' 400 = some (.inr (17, [.int (nI 1), .ref 401, .ref 402, ty, .long sd, .long be, .ref 410, wa, nw, nx, .ref 411])) ∧ mz_fr [400] h h' ∧ h'.length ≤ N + 1 ∧ mj_sz h' ≤ mj_sz h + 6 → mj_lrun L xs (28, [some (.retAddr 1), some (.ref 0), some (.ref 400), some (.ref 412), some (.ref 413), some (.int (nI (i + 4))), l6, l7, l8, l9], [], h') P) : mj_lrun L xs (28, [some (.retAddr 1), some (.ref 0), some (.ref 400), some (.ref 412), some (.ref 413), some (.int (nI i)), l6, l7, l8, l9], [], h) P := by
  refine l_ild (p' := 30) rfl rfl rfl rfl ?_
  refine l_alds (p' := 31) rfl rfl rfl rfl ?_
  refine l_lens (p' := 32) rfl rfl rfl ?_
  refine l_con (p' := 33) rfl rfl rfl ?_
  refine l_bz (p' := 34) (z := (nI (L - 4))) rfl rfl rfl rfl rfl (mI_sub (by omega)) ?_
  refine l_icmp (p' := 37) false rfl rfl ((ci_gt (by omega) (by omega)).trans (decide_eq_false (by omega))) rfl ?_
  refine l_alds (p' := 38) rfl rfl rfl rfl ?_
  refine l_ild (p' := 40) rfl rfl rfl rfl ?_
  refine l_ialz (p' := 41) (m := i) (z := (xs i)) rfl rfl (inb_nI (by omega) (by omega)) (mI_cl (by omega)) rfl rfl ?_
  refine l_bip (p' := 43) rfl rfl rfl ?_
  refine l_bz (p' := 44) (z := (nI 9)) rfl rfl rfl rfl rfl hk ?_
  refine l_sp (p' := 699) (ls' := _) rfl rfl rfl rfl rfl ?_
  refine l_aldn (p' := 700) rfl rfl rfl rfl ?_
  refine l_alds (p' := 701) rfl rfl rfl rfl ?_
  refine l_ild (p' := 703) rfl rfl rfl rfl ?_
  refine l_con (p' := 704) rfl rfl rfl ?_
  refine l_bz (p' := 705) (z := (nI (i + 1))) rfl rfl rfl rfl rfl (mI_add _ _) ?_
  refine l_ialz (p' := 706) (m := (i + 1)) (z := (nI p)) rfl rfl (inb_nI (by omega) (by omega)) (mI_cl (by omega)) hx1 rfl ?_
  refine l_alds (p' := 707) rfl rfl rfl rfl ?_
  refine l_ild (p' := 709) rfl rfl rfl rfl ?_
  refine l_con (p' := 710) rfl rfl rfl ?_
  refine l_bz (p' := 711) (z := (nI (i + 2))) rfl rfl rfl rfl rfl (mI_add _ _) ?_
  refine l_ialz (p' := 712) (m := (i + 2)) (z := (xs (i + 2))) rfl rfl (inb_nI (by omega) (by omega)) (mI_cl (by omega)) rfl rfl ?_
  refine l_aldn (p' := 713) rfl rfl rfl rfl ?_
  refine l_call (p' := 716) (kc := 99) (ls0 := [_, _, _, _, _]) rfl rfl rfl rfl rfl rfl rfl rfl rfl rfl ?_
  refine s_aldn (p' := 1) rfl rfl rfl ?_
  refine s_con (p' := 2) rfl rfl ?_
  refine s_aldn (p' := 3) rfl rfl rfl ?_
  refine s_ildn (p' := 4) rfl rfl rfl ?_
  refine s_ildn (p' := 5) rfl rfl rfl ?_
  refine c_call (p' := 8) (kc := 98) (ls0 := [_, _, _, _]) rfl rfl rfl rfl rfl (mj_rcv_is H0) rfl rfl rfl ?_
  refine s_aldn (p' := 1) rfl rfl rfl ?_
  refine s_gf (p' := 4) rfl H0 rfl rfl ?_
  refine s_ildn (p' := 5) rfl rfl rfl ?_
  refine c_call (p' := 8) (kc := 97) (ls0 := [_, _]) rfl rfl rfl rfl rfl (mj_rcv_is H38) rfl rfl rfl ?_
  refine s_ildn (p' := 1) rfl rfl rfl ?_
  refine s_if (p' := 4) false rfl ((cg_lt (w := 0) (by decide +kernel)).trans (decide_eq_false (by rw [mI_ti (by omega)]; omega))) rfl ?_
  refine s_ildn (p' := 5) rfl rfl rfl ?_
  refine s_aldn (p' := 6) rfl rfl rfl ?_
  refine s_gf (p' := 9) rfl H38 rfl rfl ?_
  refine s_icmp (p' := 16) true rfl ((ci_ge (by omega) (by omega)).trans (decide_eq_true (by omega))) rfl ?_
  refine s_con (p' := 17) rfl rfl ?_
  refine c_iret rfl (by decide +kernel) ?_
  refine s_if (p' := 11) false rfl (by decide +kernel) rfl ?_
  refine s_thrz (q := N) rfl HL rfl ?_
  refine K_c (hp := 13) (Nat.blt_eq.mpr (by omega)) (mj_ocl_is (rd_nw (Nat.blt_eq.mpr (by omega)) HL)) rfl ?_
  refine s_ast (p' := 15) (ls' := [_, _, _, _, _]) rfl rfl rfl rfl ?_
  refine s_con (p' := 16) rfl rfl ?_
  refine k_iret rfl rfl ?_
  refine l_ist (p' := 718) (ls' := [_, _, _, _, _, _, _, _, _, _]) rfl rfl rfl rfl rfl ?_
  refine l_aldn (p' := 719) rfl rfl rfl rfl ?_
  refine l_alds (p' := 720) rfl rfl rfl rfl ?_
  refine l_ild (p' := 722) rfl rfl rfl rfl ?_
  refine l_con (p' := 723) rfl rfl rfl ?_
  refine l_bz (p' := 724) (z := (nI (i + 1))) rfl rfl rfl rfl rfl (mI_add _ _) ?_
  refine l_ialz (p' := 725) (m := (i + 1)) (z := (nI p)) rfl rfl (inb_nI (by omega) (by omega)) (mI_cl (by omega)) hx1 rfl ?_
  refine l_alds (p' := 726) rfl rfl rfl rfl ?_
  refine l_ild (p' := 728) rfl rfl rfl rfl ?_
  refine l_con (p' := 729) rfl rfl rfl ?_
  refine l_bz (p' := 730) (z := (nI (i + 2))) rfl rfl rfl rfl rfl (mI_add _ _) ?_
  refine l_ialz (p' := 731) (m := (i + 2)) (z := (xs (i + 2))) rfl rfl (inb_nI (by omega) (by omega)) (mI_cl (by omega)) rfl rfl ?_
  refine l_call (p' := 734) (kc := 99) (ls0 := [_, _, _]) rfl rfl rfl rfl rfl rfl (mj_rcv_is (rd_app H400)) rfl rfl rfl ?_
  refine s_aldn (p' := 1) rfl rfl rfl ?_
  refine s_aldn (p' := 2) rfl rfl rfl ?_
  refine s_ildn (p' := 3) rfl rfl rfl ?_
  refine c_call (p' := 6) (kc := 98) (ls0 := [_, _]) rfl rfl rfl rfl rfl (mj_rcv_is (rd_app H400)) rfl rfl rfl ?_
  refine s_ildn (p' := 1) rfl rfl rfl ?_
  refine s_con (p' := 2) rfl rfl ?_
  refine s_aldn (p' := 3) rfl rfl rfl ?_
  refine s_gf (p' := 6) rfl (rd_app H400) rfl rfl ?_
  refine c_call (p' := 11) (kc := 97) (ls0 := [_]) rfl rfl rfl rfl rfl (mj_rcv_is (rd_app H401)) rfl rfl rfl ?_
  refine s_aldn (p' := 1) rfl rfl rfl ?_
  refine s_gf (p' := 4) rfl (rd_app H401) rfl rfl ?_
  refine c_iret rfl rfl ?_
  refine s_con (p' := 12) rfl rfl ?_
  refine s_bz (p' := 13) (z := (nI (q - 1))) rfl rfl rfl (mI_sub (by omega)) ?_
  refine c_call (p' := 16) (kc := 97) (ls0 := [_, _, _]) rfl rfl rfl rfl rfl rfl rfl rfl rfl ?_
  refine s_ildn (p' := 1) rfl rfl rfl ?_
  refine s_ildn (p' := 2) rfl rfl rfl ?_
  refine s_icmp (p' := 5) false rfl ((ch_gt (w := 0) (by decide +kernel)).trans (decide_eq_false (by rw [mI_ti (by omega)]; omega))) rfl ?_
  refine s_ildn (p' := 6) rfl rfl rfl ?_
  refine s_ildn (p' := 7) rfl rfl rfl ?_
  refine s_icmp (p' := 14) true rfl ((ci_gt (by omega) (by omega)).trans (decide_eq_true (by omega))) rfl ?_
  refine s_con (p' := 15) rfl rfl ?_
  refine c_iret rfl (by decide +kernel) ?_
  refine c_iret rfl (by decide +kernel) ?_
  refine s_if (p' := 44) true rfl (by decide +kernel) rfl ?_
  refine s_con (p' := 45) rfl rfl ?_
  refine c_call (p' := 48) (kc := 98) (ls0 := [_, _]) rfl rfl rfl rfl rfl (mj_rcv_is (rd_app H400)) rfl rfl rfl ?_
  refine s_aldn (p' := 1) rfl rfl rfl ?_
  refine s_ildn (p' := 2) rfl rfl rfl ?_
  refine s_pfz (p' := 5) (fs' := [_, _, _, _, _, _, _, _, _, _, _]) rfl rfl (rd_app H400) rfl rfl rfl rfl ?_
  refine s_ildn (p' := 6) rfl rfl rfl ?_
  refine s_if (p' := 9) false rfl (by decide +kernel) rfl ?_
  refine s_con (p' := 10) rfl rfl ?_
  refine s_goto (p' := 14) rfl rfl ?_
  refine c_iret rfl (by decide +kernel) ?_
  refine s_if (p' := 51) false rfl (by decide +kernel) rfl ?_
  refine s_con (p' := 52) rfl rfl ?_
  refine s_goto (p' := 83) rfl rfl ?_
  refine k_iret rfl (by decide +kernel) ?_
  refine l_ist (p' := 736) (ls' := [_, _, _, _, _, _, _, _, _, _]) rfl rfl rfl rfl rfl ?_
  refine l_aldn (p' := 737) rfl rfl rfl rfl ?_
  refine l_call (p' := 740) (kc := 99) (ls0 := [_]) rfl rfl rfl rfl rfl rfl (mj_rcv_is (rd_ss rfl (rd_app H400))) rfl rfl rfl ?_
  refine s_aldn (p' := 1) rfl rfl rfl ?_
  refine s_gf (p' := 4) rfl (rd_ss rfl (rd_app H400)) rfl rfl ?_
  refine k_iret rfl rfl ?_
  refine l_ild (p' := 742) rfl rfl rfl rfl ?_
  refine l_icmp (p' := 747) true rfl rfl (by decide +kernel) rfl ?_
  refine l_ild (p' := 749) rfl rfl rfl rfl ?_
  refine l_if (p' := 764) true rfl rfl (by decide +kernel) rfl ?_
  refine l_goto (p' := 2541) rfl rfl rfl ?_
  refine l_incz (p' := 2544) (w := (nI (i + 4))) (ls' := [_, _, _, _, _, _, _, _, _, _]) rfl rfl rfl rfl (mI_add _ _) rfl rfl ?_
  refine l_goto (p' := 28) rfl rfl rfl ?_
  exact hn _ _ _ _ _ ⟨(rd_ss rfl (rd_app H400)), (mz_fr.s (by decide) (mz_fr.a (mz_fr.rf _ h))), (Nat.le_trans (Nat.le_of_eq (len_s (len_a HL rfl))) (by omega)), (Nat.le_trans (sz_s rfl (rd_app H400) rfl (sz_aa (k := 6) (m := mj_sz h + 6) rfl (by omega) (Nat.le_refl (mj_sz h)))) (by omega))⟩
theorem w_6_0 {L i N : Nat} {xs : Nat → Int32} {h : mj_H} {l6 l7 l8 l9 : Option Value} {P : mj_H → Prop} (hL : L ≤ 2048) (hi : i + 4 ≤ L) (hN : N + 2000 < mj_CB) (hN0 : 414 ≤ N) (HL : h.length = N) (hk : xs i &&& nI 63 = nI 6) {gs pl ty wa nw nx dp ca mf : Value} {th : Int32} {sd be : Int64} {ou : Nat → Int64} {vf wf sf uf im jm : Nat → Int32} {k g : Nat} (hk20 : k ≤ 20) (hvw : ∀ j, j < 8 → wf j = vf j) (hsu : ∀ j, j < k → uf j = sf j) (him : ∀ j, j < 8 → jm j = im j) {pm ge gm : Value} {q : Nat} (hq6 : q ≤ 6) (hg24 : g ≤ 24) {txs : List Value} {PE rp ac tx tb n m : Nat} {pef : Nat → Option Nat} {tbf : Nat → Int32} {rrow ace acm : Value} (hpq : 0 < q) (hn : n ≤ 60) (hm : m ≤ 30) (hPE : 414 ≤ PE) (hrp : 414 ≤ rp) (hac : 414 ≤ ac) (htx : 414 ≤ tx) (htb : 414 ≤ tb) (hpe : pef 0 = some rp)  (hx1 : xs (i + 1) = nI 0) (H0 : mj_rd h 0 = some (.inr (0, [.ref 1, .ref 38, .ref 299, .ref 336, .ref 373, .ref 375, .ref 378, .ref 381, .ref 387, .ref 393, gs, pl, .ref 397, .ref 398, .ref 399, .long sd, .long be]))) (H38 : mj_rd h 38 = some (.inr (6, [.ref 39, .ref 40, .int (nI q)]))) (H39 : mj_rd h 39 = some (.inl (8, (6, .inr (.inr (.inr (.inr ((fun j => if j < 6 then some (77 + 37 * j) else none))))))))) (H77 : mj_rd h 77 = some (.inr (1, [.ref 78, .ref 80, .ref 113]))) (H78 : mj_rd h 78 = some (.inr (2, [.ref 79, .int (nI n)]))) (H400 : mj_rd h 400 = some (.inr (17, [.int th, .ref 401, .ref 402, ty, .long sd, .long be, .ref 410, wa, nw, nx, .ref 411]))) (H401 : mj_rd h 401 = some (.inr (18, [.ref PE, .int (nI q), pm]))) (H412 : mj_rd h 412 = some (.inl (4, (1, .inr (.inl (ou)))))) (HPE : mj_rd h PE = some (.inl (6, (10, .inr (.inr (.inr (.inr (pef)))))))) (Hrp : mj_rd h rp = some (.inr (26, [rrow, .ref tx, .ref ac]))) (Htx : mj_rd h tx = some (.inr (21, .ref tb :: .int (nI 0) :: txs))) (Htb : mj_rd h tb = some (.inl (1, (n, .inl (tbf))))) (hn : ∀ (l6 l7 l8 l9 : Option Value) (h' : mj_H), mj_rd h' 400 = some (.inr (17, [.int (nI 0), .ref 401, .ref 402, ty, .long sd, .long be, .ref 410, wa, nw, nx, .ref 411])) ∧ mj_rd h' 412 = some (.inl (4, (1, .inr (.inl ((vp_updL ou 0 (Int32.toInt64 (nI n)))))))) ∧ mz_fr [400, 412] h h' ∧ h'.length ≤ N + 0 ∧ mj_sz h' ≤ mj_sz h + 0 → mj_lrun L xs (28, [some (.retAddr 1), some (.ref 0), some (.ref 400), some (.ref 412), some (.ref 413), some (.int (nI (i + 4))), l6, l7, l8, l9], [], h') P) : mj_lrun L xs (28, [some (.retAddr 1), some (.ref 0), some (.ref 400), some (.ref 412), some (.ref 413), some (.int (nI i)), l6, l7, l8, l9], [], h) P := by
  refine l_ild (p' := 30) rfl rfl rfl rfl ?_
  refine l_alds (p' := 31) rfl rfl rfl rfl ?_
  refine l_lens (p' := 32) rfl rfl rfl ?_
  refine l_con (p' := 33) rfl rfl rfl ?_
  refine l_bz (p' := 34) (z := (nI (L - 4))) rfl rfl rfl rfl rfl (mI_sub (by omega)) ?_
  refine l_icmp (p' := 37) false rfl rfl ((ci_gt (by omega) (by omega)).trans (decide_eq_false (by omega))) rfl ?_
  refine l_alds (p' := 38) rfl rfl rfl rfl ?_
  refine l_ild (p' := 40) rfl rfl rfl rfl ?_
  refine l_ialz (p' := 41) (m := i) (z := (xs i)) rfl rfl (inb_nI (by omega) (by omega)) (mI_cl (by omega)) rfl rfl ?_
  refine l_bip (p' := 43) rfl rfl rfl ?_
  refine l_bz (p' := 44) (z := (nI 6)) rfl rfl rfl rfl rfl hk ?_
  refine l_sp (p' := 519) (ls' := _) rfl rfl rfl rfl rfl ?_
  refine l_aldn (p' := 520) rfl rfl rfl rfl ?_
  refine l_alds (p' := 521) rfl rfl rfl rfl ?_
  refine l_ild (p' := 523) rfl rfl rfl rfl ?_
  refine l_con (p' := 524) rfl rfl rfl ?_
  refine l_bz (p' := 525) (z := (nI (i + 1))) rfl rfl rfl rfl rfl (mI_add _ _) ?_
  refine l_ialz (p' := 526) (m := (i + 1)) (z := (nI 0)) rfl rfl (inb_nI (by omega) (by omega)) (mI_cl (by omega)) hx1 rfl ?_
  refine l_aldn (p' := 527) rfl rfl rfl rfl ?_
  refine l_call (p' := 530) (kc := 99) (ls0 := [_, _, _, _]) rfl rfl rfl rfl rfl rfl rfl rfl rfl rfl ?_
  refine s_aldn (p' := 1) rfl rfl rfl ?_
  refine s_con (p' := 2) rfl rfl ?_
  refine s_aldn (p' := 3) rfl rfl rfl ?_
  refine s_ildn (p' := 4) rfl rfl rfl ?_
  refine c_call (p' := 7) (kc := 98) (ls0 := [_, _]) rfl rfl rfl rfl rfl (mj_rcv_is H0) rfl rfl rfl ?_
  refine s_aldn (p' := 1) rfl rfl rfl ?_
  refine s_gf (p' := 4) rfl H0 rfl rfl ?_
  refine s_ildn (p' := 5) rfl rfl rfl ?_
  refine c_call (p' := 8) (kc := 97) (ls0 := [_, _]) rfl rfl rfl rfl rfl (mj_rcv_is H38) rfl rfl rfl ?_
  refine s_ildn (p' := 1) rfl rfl rfl ?_
  refine s_if (p' := 4) false rfl (by decide +kernel) rfl ?_
  refine s_ildn (p' := 5) rfl rfl rfl ?_
  refine s_aldn (p' := 6) rfl rfl rfl ?_
  refine s_gf (p' := 9) rfl H38 rfl rfl ?_
  refine s_icmp (p' := 12) false rfl ((ch_ge (w := 0) (by decide +kernel)).trans (decide_eq_false (by rw [mI_ti (by omega)]; omega))) rfl ?_
  refine s_con (p' := 13) rfl rfl ?_
  refine s_goto (p' := 17) rfl rfl ?_
  refine c_iret rfl (by decide +kernel) ?_
  refine s_if (p' := 21) true rfl (by decide +kernel) rfl ?_
  refine s_aldn (p' := 22) rfl rfl rfl ?_
  refine s_gf (p' := 25) rfl H0 rfl rfl ?_
  refine s_ildn (p' := 26) rfl rfl rfl ?_
  refine c_call (p' := 29) (kc := 97) (ls0 := [_, _]) rfl rfl rfl rfl rfl (mj_rcv_is H38) rfl rfl rfl ?_
  refine s_aldn (p' := 1) rfl rfl rfl ?_
  refine s_ildn (p' := 2) rfl rfl rfl ?_
  refine c_call (p' := 5) (kc := 96) (ls0 := [_, _]) rfl rfl rfl rfl rfl (mj_rcv_is H38) rfl rfl rfl ?_
  refine s_ildn (p' := 1) rfl rfl rfl ?_
  refine s_if (p' := 4) false rfl (by decide +kernel) rfl ?_
  refine s_ildn (p' := 5) rfl rfl rfl ?_
  refine s_aldn (p' := 6) rfl rfl rfl ?_
  refine s_gf (p' := 9) rfl H38 rfl rfl ?_
  refine s_icmp (p' := 12) false rfl ((ch_ge (w := 0) (by decide +kernel)).trans (decide_eq_false (by rw [mI_ti (by omega)]; omega))) rfl ?_
  refine s_con (p' := 13) rfl rfl ?_
  refine s_goto (p' := 17) rfl rfl ?_
  refine c_iret rfl (by decide +kernel) ?_
  refine s_if (p' := 8) false rfl (by decide +kernel) rfl ?_
  refine s_ildn (p' := 9) rfl rfl rfl ?_
  refine s_aldn (p' := 10) rfl rfl rfl ?_
  refine s_gf (p' := 13) rfl H38 rfl rfl ?_
  refine s_lenz (p' := 14) rfl (mj_rdA_is H39 (by decide)) rfl rfl ?_
  refine s_icmp (p' := 17) false rfl (by decide +kernel) rfl ?_
  refine s_aldn (p' := 18) rfl rfl rfl ?_
  refine s_gf (p' := 21) rfl H38 rfl rfl ?_
  refine s_ildn (p' := 22) rfl rfl rfl ?_
  refine s_aalz (p' := 23) (m := 0) (q := (some 77)) (v := .ref 77) rfl (mj_rdA_is H39 (by decide)) rfl (by decide +kernel) rfl rfl rfl rfl ?_
  refine s_goto (p' := 30) rfl rfl ?_
  refine c_aret rfl ?_
  refine s_gf (p' := 32) rfl H77 rfl rfl ?_
  refine c_call (p' := 35) (kc := 97) (ls0 := [_]) rfl rfl rfl rfl rfl (mj_rcv_is H78) rfl rfl rfl ?_
  refine s_aldn (p' := 1) rfl rfl rfl ?_
  refine s_gf (p' := 4) rfl H78 rfl rfl ?_
  refine c_iret rfl rfl ?_
  refine c_iret rfl rfl ?_
  refine s_bzL (p' := 8) (z := (Int32.toInt64 (nI n))) rfl rfl rfl rfl ?_
  refine s_lasz (p' := 9) (m := 0) rfl rfl H412 (by decide +kernel) rfl rfl rfl ?_
  refine s_goto (p' := 15) rfl rfl ?_
  refine s_con (p' := 16) rfl rfl ?_
  refine k_iret rfl rfl ?_
  refine l_ist (p' := 532) (ls' := [_, _, _, _, _, _, _, _, _, _]) rfl rfl rfl rfl rfl ?_
  refine l_aldn (p' := 533) rfl rfl rfl rfl ?_
  refine l_alds (p' := 534) rfl rfl rfl rfl ?_
  refine l_ild (p' := 536) rfl rfl rfl rfl ?_
  refine l_con (p' := 537) rfl rfl rfl ?_
  refine l_bz (p' := 538) (z := (nI (i + 1))) rfl rfl rfl rfl rfl (mI_add _ _) ?_
  refine l_ialz (p' := 539) (m := (i + 1)) (z := (nI 0)) rfl rfl (inb_nI (by omega) (by omega)) (mI_cl (by omega)) hx1 rfl ?_
  refine l_call (p' := 542) (kc := 99) (ls0 := [_, _]) rfl rfl rfl rfl rfl rfl (mj_rcv_is (rd_sn rfl H400)) rfl rfl rfl ?_
  refine s_aldn (p' := 1) rfl rfl rfl ?_
  refine s_aldn (p' := 2) rfl rfl rfl ?_
  refine s_ildn (p' := 3) rfl rfl rfl ?_
  refine c_call (p' := 6) (kc := 98) (ls0 := [_, _]) rfl rfl rfl rfl rfl (mj_rcv_is (rd_sn rfl H400)) rfl rfl rfl ?_
  refine s_ildn (p' := 1) rfl rfl rfl ?_
  refine s_con (p' := 2) rfl rfl ?_
  refine s_aldn (p' := 3) rfl rfl rfl ?_
  refine s_gf (p' := 6) rfl (rd_sn rfl H400) rfl rfl ?_
  refine c_call (p' := 11) (kc := 97) (ls0 := [_]) rfl rfl rfl rfl rfl (mj_rcv_is (rd_sn rfl H401)) rfl rfl rfl ?_
  refine s_aldn (p' := 1) rfl rfl rfl ?_
  refine s_gf (p' := 4) rfl (rd_sn rfl H401) rfl rfl ?_
  refine c_iret rfl rfl ?_
  refine s_con (p' := 12) rfl rfl ?_
  refine s_bz (p' := 13) (z := (nI (q - 1))) rfl rfl rfl (mI_sub (by omega)) ?_
  refine c_call (p' := 16) (kc := 97) (ls0 := [_, _, _]) rfl rfl rfl rfl rfl rfl rfl rfl rfl ?_
  refine s_ildn (p' := 1) rfl rfl rfl ?_
  refine s_ildn (p' := 2) rfl rfl rfl ?_
  refine s_icmp (p' := 5) false rfl (by decide +kernel) rfl ?_
  refine s_ildn (p' := 6) rfl rfl rfl ?_
  refine s_ildn (p' := 7) rfl rfl rfl ?_
  refine s_icmp (p' := 10) false rfl ((ch_gt (w := 0) (by decide +kernel)).trans (decide_eq_false (by rw [mI_ti (by omega)]; omega))) rfl ?_
  refine s_con (p' := 11) rfl rfl ?_
  refine s_goto (p' := 15) rfl rfl ?_
  refine c_iret rfl (by decide +kernel) ?_
  refine c_iret rfl (by decide +kernel) ?_
  refine s_if (p' := 9) false rfl (by decide +kernel) rfl ?_
  refine s_con (p' := 10) rfl rfl ?_
  refine s_goto (p' := 14) rfl rfl ?_
  refine c_call (p' := 17) (kc := 98) (ls0 := [_, _]) rfl rfl rfl rfl rfl (mj_rcv_is (rd_sn rfl H400)) rfl rfl rfl ?_
  refine s_aldn (p' := 1) rfl rfl rfl ?_
  refine s_ildn (p' := 2) rfl rfl rfl ?_
  refine s_pfz (p' := 5) (fs' := [_, _, _, _, _, _, _, _, _, _, _]) rfl rfl (rd_sn rfl H400) rfl rfl rfl rfl ?_
  refine s_ildn (p' := 6) rfl rfl rfl ?_
  refine s_if (p' := 13) true rfl (by decide +kernel) rfl ?_
  refine s_con (p' := 14) rfl rfl ?_
  refine c_iret rfl (by decide +kernel) ?_
  refine s_if (p' := 24) true rfl (by decide +kernel) rfl ?_
  refine s_aldn (p' := 25) rfl rfl rfl ?_
  refine s_gf (p' := 28) rfl (rd_ss rfl (rd_sn rfl H400)) rfl rfl ?_
  refine s_ildn (p' := 29) rfl rfl rfl ?_
  refine c_call (p' := 34) (kc := 98) (ls0 := [_, _]) rfl rfl rfl rfl rfl (mj_rcv_is (rd_sn rfl (rd_sn rfl H401))) rfl rfl rfl ?_
  refine s_ildn (p' := 1) rfl rfl rfl ?_
  refine s_aldn (p' := 2) rfl rfl rfl ?_
  refine s_gf (p' := 5) rfl (rd_sn rfl (rd_sn rfl H401)) rfl rfl ?_
  refine c_call (p' := 8) (kc := 97) (ls0 := [_, _]) rfl rfl rfl rfl rfl rfl rfl rfl rfl ?_
  refine s_ildn (p' := 1) rfl rfl rfl ?_
  refine s_ildn (p' := 2) rfl rfl rfl ?_
  refine s_sp (p' := 3) (ls' := _) rfl rfl rfl ?_
  refine c_call (p' := 6) (kc := 96) (ls0 := [_, _, _]) rfl rfl rfl rfl rfl rfl rfl rfl rfl ?_
  refine s_ildn (p' := 1) rfl rfl rfl ?_
  refine s_if (p' := 4) false rfl (by decide +kernel) rfl ?_
  refine s_ildn (p' := 5) rfl rfl rfl ?_
  refine s_ildn (p' := 6) rfl rfl rfl ?_
  refine s_icmp (p' := 16) true rfl ((ch_lt (w := 0) (by decide +kernel)).trans (decide_eq_true (by rw [mI_ti (by omega)]; omega))) rfl ?_
  refine s_ildn (p' := 17) rfl rfl rfl ?_
  refine c_iret rfl rfl ?_
  refine c_iret rfl rfl ?_
  refine s_sp (p' := 9) (ls' := _) rfl rfl rfl ?_
  refine s_aldn (p' := 10) rfl rfl rfl ?_
  refine s_ildn (p' := 11) rfl rfl rfl ?_
  refine c_call (p' := 14) (kc := 97) (ls0 := [_, _]) rfl rfl rfl rfl rfl (mj_rcv_is (rd_sn rfl (rd_sn rfl H401))) rfl rfl rfl ?_
  refine s_aldn (p' := 1) rfl rfl rfl ?_
  refine s_gf (p' := 4) rfl (rd_sn rfl (rd_sn rfl H401)) rfl rfl ?_
  refine s_ildn (p' := 5) rfl rfl rfl ?_
  refine s_aalz (p' := 6) (m := 0) (q := (some rp)) (v := .ref rp) rfl (mj_rdA_is (rd_sn (beq_eq_false_iff_ne.mpr (by omega)) (rd_sn (beq_eq_false_iff_ne.mpr (by omega)) HPE)) (by decide)) rfl (by decide +kernel) rfl hpe rfl rfl ?_
  refine c_aret rfl ?_
  refine c_aret rfl ?_
  refine s_cco (p' := 37) rfl (rd_sn (beq_eq_false_iff_ne.mpr (by omega)) (rd_sn (beq_eq_false_iff_ne.mpr (by omega)) Hrp)) rfl ?_
  refine s_gf (p' := 40) rfl (rd_sn (beq_eq_false_iff_ne.mpr (by omega)) (rd_sn (beq_eq_false_iff_ne.mpr (by omega)) Hrp)) rfl rfl ?_
  refine c_call (p' := 43) (kc := 98) (ls0 := [_]) rfl rfl rfl rfl rfl (mj_rcv_is (rd_sn (beq_eq_false_iff_ne.mpr (by omega)) (rd_sn (beq_eq_false_iff_ne.mpr (by omega)) Htx))) rfl rfl rfl ?_
  refine s_aldn (p' := 1) rfl rfl rfl ?_
  refine s_gf (p' := 4) rfl (rd_sn (beq_eq_false_iff_ne.mpr (by omega)) (rd_sn (beq_eq_false_iff_ne.mpr (by omega)) Htx)) rfl rfl ?_
  refine s_lenz (p' := 5) rfl (mj_rdA_is (rd_sn (beq_eq_false_iff_ne.mpr (by omega)) (rd_sn (beq_eq_false_iff_ne.mpr (by omega)) Htb)) (by decide)) rfl rfl ?_
  refine s_aldn (p' := 6) rfl rfl rfl ?_
  refine c_call (p' := 9) (kc := 97) (ls0 := [_]) rfl rfl rfl rfl rfl (mj_rcv_is (rd_sn (beq_eq_false_iff_ne.mpr (by omega)) (rd_sn (beq_eq_false_iff_ne.mpr (by omega)) Htx))) rfl rfl rfl ?_
  refine s_sh (p' := 3) (ls' := _) (st' := .int (nI 1) :: _) (h' := _) rfl rfl rfl rfl ?_
  refine s_if (p' := 6) false rfl (by decide +kernel) rfl ?_
  refine s_aldn (p' := 7) rfl rfl rfl ?_
  refine s_gf (p' := 10) rfl (rd_sn (beq_eq_false_iff_ne.mpr (by omega)) (rd_sn (beq_eq_false_iff_ne.mpr (by omega)) Htx)) rfl rfl ?_
  refine s_goto (p' := 14) rfl rfl ?_
  refine c_iret rfl (by decide +kernel) ?_
  refine s_bz (p' := 10) (z := (nI n)) rfl rfl rfl (mI_shr0 (by omega)) ?_
  refine c_iret rfl rfl ?_
  refine k_iret rfl rfl ?_
  refine l_ist (p' := 544) (ls' := [_, _, _, _, _, _, _, _, _, _]) rfl rfl rfl rfl rfl ?_
  refine l_aldn (p' := 545) rfl rfl rfl rfl ?_
  refine l_call (p' := 548) (kc := 99) (ls0 := [_]) rfl rfl rfl rfl rfl rfl (mj_rcv_is (rd_ss rfl (rd_sn rfl H400))) rfl rfl rfl ?_
  refine s_aldn (p' := 1) rfl rfl rfl ?_
  refine s_gf (p' := 4) rfl (rd_ss rfl (rd_sn rfl H400)) rfl rfl ?_
  refine k_iret rfl rfl ?_
  refine l_ild (p' := 550) rfl rfl rfl rfl ?_
  refine l_icmp (p' := 555) true rfl rfl (by decide +kernel) rfl ?_
  refine l_ild (p' := 557) rfl rfl rfl rfl ?_
  refine l_if (p' := 560) false rfl rfl (by decide +kernel) rfl ?_
  refine l_aldn (p' := 561) rfl rfl rfl rfl ?_
  refine l_con (p' := 562) rfl rfl rfl ?_
  refine l_lalz (p' := 563) (m := 0) (v := (Int32.toInt64 (nI n))) rfl rfl (rd_sn rfl (rd_ss rfl H412)) (by decide +kernel) rfl rfl rfl ?_
  refine l_ild (p' := 565) rfl rfl rfl rfl ?_
  refine l_bzL (p' := 566) (z := (Int32.toInt64 (nI n))) rfl rfl rfl rfl rfl rfl ?_
  refine l_bz (p' := 567) (z := nI 0) rfl rfl rfl rfl rfl (lcmp_self _) ?_
  refine l_if (p' := 572) true rfl rfl (by decide +kernel) rfl ?_
  refine l_goto (p' := 2541) rfl rfl rfl ?_
  refine l_incz (p' := 2544) (w := (nI (i + 4))) (ls' := [_, _, _, _, _, _, _, _, _, _]) rfl rfl rfl rfl (mI_add _ _) rfl rfl ?_
  refine l_goto (p' := 28) rfl rfl rfl ?_
  exact hn _ _ _ _ _ ⟨(rd_ss rfl (rd_sn rfl H400)), (rd_sn rfl (rd_ss rfl H412)), (mz_fr.s (by decide) (mz_fr.s (by decide) (mz_fr.rf _ h))), (Nat.le_trans (Nat.le_of_eq (len_s (len_s HL))) (by omega)), (Nat.le_trans (sz_s rfl (rd_sn rfl H400) rfl (sz_sA rfl H412 (Nat.le_refl (mj_sz h)))) (by omega))⟩
theorem w_8_0 {L i N : Nat} {xs : Nat → Int32} {h : mj_H} {l6 l7 l8 l9 : Option Value} {P : mj_H → Prop} (hL : L ≤ 2048) (hi : i + 4 ≤ L) (hN : N + 2000 < mj_CB) (hN0 : 414 ≤ N) (HL : h.length = N) (hk : xs i &&& nI 63 = nI 8) {gs pl ty wa nw nx dp ca mf : Value} {th : Int32} {sd be : Int64} {ou : Nat → Int64} {vf wf sf uf im jm : Nat → Int32} {k g : Nat} (hk20 : k ≤ 20) (hvw : ∀ j, j < 8 → wf j = vf j) (hsu : ∀ j, j < k → uf j = sf j) (him : ∀ j, j < 8 → jm j = im j) {pm ge gm : Value} {q : Nat} (hq6 : q ≤ 6) (hg24 : g ≤ 24) {txs : List Value} {PE rp ac tx tb n m : Nat} {pef : Nat → Option Nat} {tbf : Nat → Int32} {rrow ace acm : Value} (hpq : 0 < q) (hn : n ≤ 60) (hm : m ≤ 30) (hPE : 414 ≤ PE) (hrp : 414 ≤ rp) (hac : 414 ≤ ac) (htx : 414 ≤ tx) (htb : 414 ≤ tb) (hpe : pef 0 = some rp)  (hx1 : xs (i + 1) = nI 0) (H0 : mj_rd h 0 = some (.inr (0, [.ref 1, .ref 38, .ref 299, .ref 336, .ref 373, .ref 375, .ref 378, .ref 381, .ref 387, .ref 393, gs, pl, .ref 397, .ref 398, .ref 399, .long sd, .long be]))) (H38 : mj_rd h 38 = some (.inr (6, [.ref 39, .ref 40, .int (nI q)]))) (H39 : mj_rd h 39 = some (.inl (8, (6, .inr (.inr (.inr (.inr ((fun j => if j < 6 then some (77 + 37 * j) else none))))))))) (H77 : mj_rd h 77 = some (.inr (1, [.ref 78, .ref 80, .ref 113]))) (H80 : mj_rd h 80 = some (.inr (3, [.ref 81, .ref 82, .int (nI m)]))) (H400 : mj_rd h 400 = some (.inr (17, [.int th, .ref 401, .ref 402, ty, .long sd, .long be, .ref 410, wa, nw, nx, .ref 411]))) (H401 : mj_rd h 401 = some (.inr (18, [.ref PE, .int (nI q), pm]))) (H412 : mj_rd h 412 = some (.inl (4, (1, .inr (.inl (ou)))))) (HPE : mj_rd h PE = some (.inl (6, (10, .inr (.inr (.inr (.inr (pef)))))))) (Hrp : mj_rd h rp = some (.inr (26, [rrow, .ref tx, .ref ac]))) (Hac : mj_rd h ac = some (.inr (18, [ace, .int (nI m), acm]))) (hn : ∀ (l6 l7 l8 l9 : Option Value) (h' : mj_H), mj_rd h' 400 = some (.inr (17, [.int (nI 0), .ref 401, .ref 402, ty, .long sd, .long be, .ref 410, wa, nw, nx, .ref 411])) ∧ mj_rd h' 412 = some (.inl (4, (1, .inr (.inl ((vp_updL ou 0 (Int32.toInt64 (nI m)))))))) ∧ mz_fr [400, 412] h h' ∧ h'.length ≤ N + 0 ∧ mj_sz h' ≤ mj_sz h + 0 → mj_lrun L xs (28, [some (.retAddr 1), some (.ref 0), some (.ref 400), some (.ref 412), some (.ref 413), some (.int (nI (i + 4))), l6, l7, l8, l9], [], h') P) : mj_lrun L xs (28, [some (.retAddr 1), some (.ref 0), some (.ref 400), some (.ref 412), some (.ref 413), some (.int (nI i)), l6, l7, l8, l9], [], h) P := by
  refine l_ild (p' := 30) rfl rfl rfl rfl ?_
  refine l_alds (p' := 31) rfl rfl rfl rfl ?_
  refine l_lens (p' := 32) rfl rfl rfl ?_
  refine l_con (p' := 33) rfl rfl rfl ?_
  refine l_bz (p' := 34) (z := (nI (L - 4))) rfl rfl rfl rfl rfl (mI_sub (by omega)) ?_
  refine l_icmp (p' := 37) false rfl rfl ((ci_gt (by omega) (by omega)).trans (decide_eq_false (by omega))) rfl ?_
  refine l_alds (p' := 38) rfl rfl rfl rfl ?_
  refine l_ild (p' := 40) rfl rfl rfl rfl ?_
  refine l_ialz (p' := 41) (m := i) (z := (xs i)) rfl rfl (inb_nI (by omega) (by omega)) (mI_cl (by omega)) rfl rfl ?_
  refine l_bip (p' := 43) rfl rfl rfl ?_
  refine l_bz (p' := 44) (z := (nI 8)) rfl rfl rfl rfl rfl hk ?_
  refine l_sp (p' := 643) (ls' := _) rfl rfl rfl rfl rfl ?_
  refine l_aldn (p' := 644) rfl rfl rfl rfl ?_
  refine l_alds (p' := 645) rfl rfl rfl rfl ?_
  refine l_ild (p' := 647) rfl rfl rfl rfl ?_
  refine l_con (p' := 648) rfl rfl rfl ?_
  refine l_bz (p' := 649) (z := (nI (i + 1))) rfl rfl rfl rfl rfl (mI_add _ _) ?_
  refine l_ialz (p' := 650) (m := (i + 1)) (z := (nI 0)) rfl rfl (inb_nI (by omega) (by omega)) (mI_cl (by omega)) hx1 rfl ?_
  refine l_aldn (p' := 651) rfl rfl rfl rfl ?_
  refine l_call (p' := 654) (kc := 99) (ls0 := [_, _, _, _]) rfl rfl rfl rfl rfl rfl rfl rfl rfl rfl ?_
  refine s_aldn (p' := 1) rfl rfl rfl ?_
  refine s_con (p' := 2) rfl rfl ?_
  refine s_aldn (p' := 3) rfl rfl rfl ?_
  refine s_ildn (p' := 4) rfl rfl rfl ?_
  refine c_call (p' := 7) (kc := 98) (ls0 := [_, _]) rfl rfl rfl rfl rfl (mj_rcv_is H0) rfl rfl rfl ?_
  refine s_aldn (p' := 1) rfl rfl rfl ?_
  refine s_gf (p' := 4) rfl H0 rfl rfl ?_
  refine s_ildn (p' := 5) rfl rfl rfl ?_
  refine c_call (p' := 8) (kc := 97) (ls0 := [_, _]) rfl rfl rfl rfl rfl (mj_rcv_is H38) rfl rfl rfl ?_
  refine s_ildn (p' := 1) rfl rfl rfl ?_
  refine s_if (p' := 4) false rfl (by decide +kernel) rfl ?_
  refine s_ildn (p' := 5) rfl rfl rfl ?_
  refine s_aldn (p' := 6) rfl rfl rfl ?_
  refine s_gf (p' := 9) rfl H38 rfl rfl ?_
  refine s_icmp (p' := 12) false rfl ((ch_ge (w := 0) (by decide +kernel)).trans (decide_eq_false (by rw [mI_ti (by omega)]; omega))) rfl ?_
  refine s_con (p' := 13) rfl rfl ?_
  refine s_goto (p' := 17) rfl rfl ?_
  refine c_iret rfl (by decide +kernel) ?_
  refine s_if (p' := 21) true rfl (by decide +kernel) rfl ?_
  refine s_aldn (p' := 22) rfl rfl rfl ?_
  refine s_gf (p' := 25) rfl H0 rfl rfl ?_
  refine s_ildn (p' := 26) rfl rfl rfl ?_
  refine c_call (p' := 29) (kc := 97) (ls0 := [_, _]) rfl rfl rfl rfl rfl (mj_rcv_is H38) rfl rfl rfl ?_
  refine s_ildn (p' := 1) rfl rfl rfl ?_
  refine s_if (p' := 4) false rfl (by decide +kernel) rfl ?_
  refine s_ildn (p' := 5) rfl rfl rfl ?_
  refine s_aldn (p' := 6) rfl rfl rfl ?_
  refine s_gf (p' := 9) rfl H38 rfl rfl ?_
  refine s_icmp (p' := 12) false rfl ((ch_ge (w := 0) (by decide +kernel)).trans (decide_eq_false (by rw [mI_ti (by omega)]; omega))) rfl ?_
  refine s_ildn (p' := 13) rfl rfl rfl ?_
  refine s_aldn (p' := 14) rfl rfl rfl ?_
  refine s_gf (p' := 17) rfl H38 rfl rfl ?_
  refine s_lenz (p' := 18) rfl (mj_rdA_is H39 (by decide)) rfl rfl ?_
  refine s_icmp (p' := 21) false rfl (by decide +kernel) rfl ?_
  refine s_aldn (p' := 22) rfl rfl rfl ?_
  refine s_gf (p' := 25) rfl H38 rfl rfl ?_
  refine s_ildn (p' := 26) rfl rfl rfl ?_
  refine s_aalz (p' := 27) (m := 0) (q := (some 77)) (v := .ref 77) rfl (mj_rdA_is H39 (by decide)) rfl (by decide +kernel) rfl rfl rfl rfl ?_
  refine s_gf (p' := 30) rfl H77 rfl rfl ?_
  refine s_goto (p' := 40) rfl rfl ?_
  refine c_aret rfl ?_
  refine c_call (p' := 32) (kc := 97) (ls0 := [_]) rfl rfl rfl rfl rfl (mj_rcv_is H80) rfl rfl rfl ?_
  refine s_aldn (p' := 1) rfl rfl rfl ?_
  refine s_gf (p' := 4) rfl H80 rfl rfl ?_
  refine c_iret rfl rfl ?_
  refine c_iret rfl rfl ?_
  refine s_bzL (p' := 8) (z := (Int32.toInt64 (nI m))) rfl rfl rfl rfl ?_
  refine s_lasz (p' := 9) (m := 0) rfl rfl H412 (by decide +kernel) rfl rfl rfl ?_
  refine s_goto (p' := 15) rfl rfl ?_
  refine s_con (p' := 16) rfl rfl ?_
  refine k_iret rfl rfl ?_
  refine l_ist (p' := 656) (ls' := [_, _, _, _, _, _, _, _, _, _]) rfl rfl rfl rfl rfl ?_
  refine l_aldn (p' := 657) rfl rfl rfl rfl ?_
  refine l_alds (p' := 658) rfl rfl rfl rfl ?_
  refine l_ild (p' := 660) rfl rfl rfl rfl ?_
  refine l_con (p' := 661) rfl rfl rfl ?_
  refine l_bz (p' := 662) (z := (nI (i + 1))) rfl rfl rfl rfl rfl (mI_add _ _) ?_
  refine l_ialz (p' := 663) (m := (i + 1)) (z := (nI 0)) rfl rfl (inb_nI (by omega) (by omega)) (mI_cl (by omega)) hx1 rfl ?_
  refine l_call (p' := 666) (kc := 99) (ls0 := [_, _]) rfl rfl rfl rfl rfl rfl (mj_rcv_is (rd_sn rfl H400)) rfl rfl rfl ?_
  refine s_aldn (p' := 1) rfl rfl rfl ?_
  refine s_aldn (p' := 2) rfl rfl rfl ?_
  refine s_ildn (p' := 3) rfl rfl rfl ?_
  refine c_call (p' := 6) (kc := 98) (ls0 := [_, _]) rfl rfl rfl rfl rfl (mj_rcv_is (rd_sn rfl H400)) rfl rfl rfl ?_
  refine s_ildn (p' := 1) rfl rfl rfl ?_
  refine s_con (p' := 2) rfl rfl ?_
  refine s_aldn (p' := 3) rfl rfl rfl ?_
  refine s_gf (p' := 6) rfl (rd_sn rfl H400) rfl rfl ?_
  refine c_call (p' := 11) (kc := 97) (ls0 := [_]) rfl rfl rfl rfl rfl (mj_rcv_is (rd_sn rfl H401)) rfl rfl rfl ?_
  refine s_aldn (p' := 1) rfl rfl rfl ?_
  refine s_gf (p' := 4) rfl (rd_sn rfl H401) rfl rfl ?_
  refine c_iret rfl rfl ?_
  refine s_con (p' := 12) rfl rfl ?_
  refine s_bz (p' := 13) (z := (nI (q - 1))) rfl rfl rfl (mI_sub (by omega)) ?_
  refine c_call (p' := 16) (kc := 97) (ls0 := [_, _, _]) rfl rfl rfl rfl rfl rfl rfl rfl rfl ?_
  refine s_ildn (p' := 1) rfl rfl rfl ?_
  refine s_ildn (p' := 2) rfl rfl rfl ?_
  refine s_icmp (p' := 5) false rfl (by decide +kernel) rfl ?_
  refine s_ildn (p' := 6) rfl rfl rfl ?_
  refine s_ildn (p' := 7) rfl rfl rfl ?_
  refine s_icmp (p' := 10) false rfl ((ch_gt (w := 0) (by decide +kernel)).trans (decide_eq_false (by rw [mI_ti (by omega)]; omega))) rfl ?_
  refine s_con (p' := 11) rfl rfl ?_
  refine s_goto (p' := 15) rfl rfl ?_
  refine c_iret rfl (by decide +kernel) ?_
  refine c_iret rfl (by decide +kernel) ?_
  refine s_if (p' := 9) false rfl (by decide +kernel) rfl ?_
  refine s_con (p' := 10) rfl rfl ?_
  refine s_goto (p' := 14) rfl rfl ?_
  refine c_call (p' := 17) (kc := 98) (ls0 := [_, _]) rfl rfl rfl rfl rfl (mj_rcv_is (rd_sn rfl H400)) rfl rfl rfl ?_
  refine s_aldn (p' := 1) rfl rfl rfl ?_
  refine s_ildn (p' := 2) rfl rfl rfl ?_
  refine s_pfz (p' := 5) (fs' := [_, _, _, _, _, _, _, _, _, _, _]) rfl rfl (rd_sn rfl H400) rfl rfl rfl rfl ?_
  refine s_ildn (p' := 6) rfl rfl rfl ?_
  refine s_if (p' := 13) true rfl (by decide +kernel) rfl ?_
  refine s_con (p' := 14) rfl rfl ?_
  refine c_iret rfl (by decide +kernel) ?_
  refine s_if (p' := 24) true rfl (by decide +kernel) rfl ?_
  refine s_aldn (p' := 25) rfl rfl rfl ?_
  refine s_gf (p' := 28) rfl (rd_ss rfl (rd_sn rfl H400)) rfl rfl ?_
  refine s_ildn (p' := 29) rfl rfl rfl ?_
  refine c_call (p' := 34) (kc := 98) (ls0 := [_, _]) rfl rfl rfl rfl rfl (mj_rcv_is (rd_sn rfl (rd_sn rfl H401))) rfl rfl rfl ?_
  refine s_ildn (p' := 1) rfl rfl rfl ?_
  refine s_aldn (p' := 2) rfl rfl rfl ?_
  refine s_gf (p' := 5) rfl (rd_sn rfl (rd_sn rfl H401)) rfl rfl ?_
  refine c_call (p' := 8) (kc := 97) (ls0 := [_, _]) rfl rfl rfl rfl rfl rfl rfl rfl rfl ?_
  refine s_ildn (p' := 1) rfl rfl rfl ?_
  refine s_ildn (p' := 2) rfl rfl rfl ?_
  refine s_sp (p' := 3) (ls' := _) rfl rfl rfl ?_
  refine c_call (p' := 6) (kc := 96) (ls0 := [_, _, _]) rfl rfl rfl rfl rfl rfl rfl rfl rfl ?_
  refine s_ildn (p' := 1) rfl rfl rfl ?_
  refine s_if (p' := 4) false rfl (by decide +kernel) rfl ?_
  refine s_ildn (p' := 5) rfl rfl rfl ?_
  refine s_ildn (p' := 6) rfl rfl rfl ?_
  refine s_icmp (p' := 16) true rfl ((ch_lt (w := 0) (by decide +kernel)).trans (decide_eq_true (by rw [mI_ti (by omega)]; omega))) rfl ?_
  refine s_ildn (p' := 17) rfl rfl rfl ?_
  refine c_iret rfl rfl ?_
  refine c_iret rfl rfl ?_
  refine s_sp (p' := 9) (ls' := _) rfl rfl rfl ?_
  refine s_aldn (p' := 10) rfl rfl rfl ?_
  refine s_ildn (p' := 11) rfl rfl rfl ?_
  refine c_call (p' := 14) (kc := 97) (ls0 := [_, _]) rfl rfl rfl rfl rfl (mj_rcv_is (rd_sn rfl (rd_sn rfl H401))) rfl rfl rfl ?_
  refine s_aldn (p' := 1) rfl rfl rfl ?_
  refine s_gf (p' := 4) rfl (rd_sn rfl (rd_sn rfl H401)) rfl rfl ?_
  refine s_ildn (p' := 5) rfl rfl rfl ?_
  refine s_aalz (p' := 6) (m := 0) (q := (some rp)) (v := .ref rp) rfl (mj_rdA_is (rd_sn (beq_eq_false_iff_ne.mpr (by omega)) (rd_sn (beq_eq_false_iff_ne.mpr (by omega)) HPE)) (by decide)) rfl (by decide +kernel) rfl hpe rfl rfl ?_
  refine c_aret rfl ?_
  refine c_aret rfl ?_
  refine s_cco (p' := 37) rfl (rd_sn (beq_eq_false_iff_ne.mpr (by omega)) (rd_sn (beq_eq_false_iff_ne.mpr (by omega)) Hrp)) rfl ?_
  refine s_gf (p' := 40) rfl (rd_sn (beq_eq_false_iff_ne.mpr (by omega)) (rd_sn (beq_eq_false_iff_ne.mpr (by omega)) Hrp)) rfl rfl ?_
  refine c_call (p' := 45) (kc := 98) (ls0 := [_]) rfl rfl rfl rfl rfl (mj_rcv_is (rd_sn (beq_eq_false_iff_ne.mpr (by omega)) (rd_sn (beq_eq_false_iff_ne.mpr (by omega)) Hac))) rfl rfl rfl ?_
  refine s_aldn (p' := 1) rfl rfl rfl ?_
  refine s_gf (p' := 4) rfl (rd_sn (beq_eq_false_iff_ne.mpr (by omega)) (rd_sn (beq_eq_false_iff_ne.mpr (by omega)) Hac)) rfl rfl ?_
  refine c_iret rfl rfl ?_
  refine k_iret rfl rfl ?_
  refine l_ist (p' := 668) (ls' := [_, _, _, _, _, _, _, _, _, _]) rfl rfl rfl rfl rfl ?_
  refine l_aldn (p' := 669) rfl rfl rfl rfl ?_
  refine l_call (p' := 672) (kc := 99) (ls0 := [_]) rfl rfl rfl rfl rfl rfl (mj_rcv_is (rd_ss rfl (rd_sn rfl H400))) rfl rfl rfl ?_
  refine s_aldn (p' := 1) rfl rfl rfl ?_
  refine s_gf (p' := 4) rfl (rd_ss rfl (rd_sn rfl H400)) rfl rfl ?_
  refine k_iret rfl rfl ?_
  refine l_ild (p' := 674) rfl rfl rfl rfl ?_
  refine l_icmp (p' := 679) true rfl rfl (by decide +kernel) rfl ?_
  refine l_ild (p' := 681) rfl rfl rfl rfl ?_
  refine l_if (p' := 684) false rfl rfl (by decide +kernel) rfl ?_
  refine l_aldn (p' := 685) rfl rfl rfl rfl ?_
  refine l_con (p' := 686) rfl rfl rfl ?_
  refine l_lalz (p' := 687) (m := 0) (v := (Int32.toInt64 (nI m))) rfl rfl (rd_sn rfl (rd_ss rfl H412)) (by decide +kernel) rfl rfl rfl ?_
  refine l_ild (p' := 689) rfl rfl rfl rfl ?_
  refine l_bzL (p' := 690) (z := (Int32.toInt64 (nI m))) rfl rfl rfl rfl rfl rfl ?_
  refine l_bz (p' := 691) (z := nI 0) rfl rfl rfl rfl rfl (lcmp_self _) ?_
  refine l_if (p' := 696) true rfl rfl (by decide +kernel) rfl ?_
  refine l_goto (p' := 2541) rfl rfl rfl ?_
  refine l_incz (p' := 2544) (w := (nI (i + 4))) (ls' := [_, _, _, _, _, _, _, _, _, _]) rfl rfl rfl rfl (mI_add _ _) rfl rfl ?_
  refine l_goto (p' := 28) rfl rfl rfl ?_
  exact hn _ _ _ _ _ ⟨(rd_ss rfl (rd_sn rfl H400)), (rd_sn rfl (rd_ss rfl H412)), (mz_fr.s (by decide) (mz_fr.s (by decide) (mz_fr.rf _ h))), (Nat.le_trans (Nat.le_of_eq (len_s (len_s HL))) (by omega)), (Nat.le_trans (sz_s rfl (rd_sn rfl H400) rfl (sz_sA rfl H412 (Nat.le_refl (mj_sz h)))) (by omega))⟩
theorem w_6_1 {L i N : Nat} {xs : Nat → Int32} {h : mj_H} {l6 l7 l8 l9 : Option Value} {P : mj_H → Prop} (hL : L ≤ 2048) (hi : i + 4 ≤ L) (hN : N + 2000 < mj_CB) (hN0 : 414 ≤ N) (HL : h.length = N) (hk : xs i &&& nI 63 = nI 6) {gs pl ty wa nw nx dp ca mf : Value} {th : Int32} {sd be : Int64} {ou : Nat → Int64} {vf wf sf uf im jm : Nat → Int32} {k g : Nat} (hk20 : k ≤ 20) (hvw : ∀ j, j < 8 → wf j = vf j) (hsu : ∀ j, j < k → uf j = sf j) (him : ∀ j, j < 8 → jm j = im j) {pm ge gm : Value} {q : Nat} (hq6 : q ≤ 6) (hg24 : g ≤ 24) {txs : List Value} {PE rp ac tx tb n m : Nat} {pef : Nat → Option Nat} {tbf : Nat → Int32} {rrow ace acm : Value} (hpq : 1 < q) (hn : n ≤ 60) (hm : m ≤ 30) (hPE : 414 ≤ PE) (hrp : 414 ≤ rp) (hac : 414 ≤ ac) (htx : 414 ≤ tx) (htb : 414 ≤ tb) (hpe : pef 1 = some rp)  (hx1 : xs (i + 1) = nI 1) (H0 : mj_rd h 0 = some (.inr (0, [.ref 1, .ref 38, .ref 299, .ref 336, .ref 373, .ref 375, .ref 378, .ref 381, .ref 387, .ref 393, gs, pl, .ref 397, .ref 398, .ref 399, .long sd, .long be]))) (H38 : mj_rd h 38 = some (.inr (6, [.ref 39, .ref 40, .int (nI q)]))) (H39 : mj_rd h 39 = some (.inl (8, (6, .inr (.inr (.inr (.inr ((fun j => if j < 6 then some (77 + 37 * j) else none))))))))) (H114 : mj_rd h 114 = some (.inr (1, [.ref 115, .ref 117, .ref 150]))) (H115 : mj_rd h 115 = some (.inr (2, [.ref 116, .int (nI n)]))) (H400 : mj_rd h 400 = some (.inr (17, [.int th, .ref 401, .ref 402, ty, .long sd, .long be, .ref 410, wa, nw, nx, .ref 411]))) (H401 : mj_rd h 401 = some (.inr (18, [.ref PE, .int (nI q), pm]))) (H412 : mj_rd h 412 = some (.inl (4, (1, .inr (.inl (ou)))))) (HPE : mj_rd h PE = some (.inl (6, (10, .inr (.inr (.inr (.inr (pef)))))))) (Hrp : mj_rd h rp = some (.inr (26, [rrow, .ref tx, .ref ac]))) (Htx : mj_rd h tx = some (.inr (21, .ref tb :: .int (nI 0) :: txs))) (Htb : mj_rd h tb = some (.inl (1, (n, .inl (tbf))))) (hn : ∀ (l6 l7 l8 l9 : Option Value) (h' : mj_H), mj_rd h' 400 = some (.inr (17, [.int (nI 0), .ref 401, .ref 402, ty, .long sd, .long be, .ref 410, wa, nw, nx, .ref 411])) ∧ mj_rd h' 412 = some (.inl (4, (1, .inr (.inl ((vp_updL ou 0 (Int32.toInt64 (nI n)))))))) ∧ mz_fr [400, 412] h h' ∧ h'.length ≤ N + 0 ∧ mj_sz h' ≤ mj_sz h + 0 → mj_lrun L xs (28, [some (.retAddr 1), some (.ref 0), some (.ref 400), some (.ref 412), some (.ref 413), some (.int (nI (i + 4))), l6, l7, l8, l9], [], h') P) : mj_lrun L xs (28, [some (.retAddr 1), some (.ref 0), some (.ref 400), some (.ref 412), some (.ref 413), some (.int (nI i)), l6, l7, l8, l9], [], h) P := by
  refine l_ild (p' := 30) rfl rfl rfl rfl ?_
  refine l_alds (p' := 31) rfl rfl rfl rfl ?_
  refine l_lens (p' := 32) rfl rfl rfl ?_
  refine l_con (p' := 33) rfl rfl rfl ?_
  refine l_bz (p' := 34) (z := (nI (L - 4))) rfl rfl rfl rfl rfl (mI_sub (by omega)) ?_
  refine l_icmp (p' := 37) false rfl rfl ((ci_gt (by omega) (by omega)).trans (decide_eq_false (by omega))) rfl ?_
  refine l_alds (p' := 38) rfl rfl rfl rfl ?_
  refine l_ild (p' := 40) rfl rfl rfl rfl ?_
  refine l_ialz (p' := 41) (m := i) (z := (xs i)) rfl rfl (inb_nI (by omega) (by omega)) (mI_cl (by omega)) rfl rfl ?_
  refine l_bip (p' := 43) rfl rfl rfl ?_
  refine l_bz (p' := 44) (z := (nI 6)) rfl rfl rfl rfl rfl hk ?_
  refine l_sp (p' := 519) (ls' := _) rfl rfl rfl rfl rfl ?_
  refine l_aldn (p' := 520) rfl rfl rfl rfl ?_
  refine l_alds (p' := 521) rfl rfl rfl rfl ?_
  refine l_ild (p' := 523) rfl rfl rfl rfl ?_
  refine l_con (p' := 524) rfl rfl rfl ?_
  refine l_bz (p' := 525) (z := (nI (i + 1))) rfl rfl rfl rfl rfl (mI_add _ _) ?_
  refine l_ialz (p' := 526) (m := (i + 1)) (z := (nI 1)) rfl rfl (inb_nI (by omega) (by omega)) (mI_cl (by omega)) hx1 rfl ?_
  refine l_aldn (p' := 527) rfl rfl rfl rfl ?_
  refine l_call (p' := 530) (kc := 99) (ls0 := [_, _, _, _]) rfl rfl rfl rfl rfl rfl rfl rfl rfl rfl ?_
  refine s_aldn (p' := 1) rfl rfl rfl ?_
  refine s_con (p' := 2) rfl rfl ?_
  refine s_aldn (p' := 3) rfl rfl rfl ?_
  refine s_ildn (p' := 4) rfl rfl rfl ?_
  refine c_call (p' := 7) (kc := 98) (ls0 := [_, _]) rfl rfl rfl rfl rfl (mj_rcv_is H0) rfl rfl rfl ?_
  refine s_aldn (p' := 1) rfl rfl rfl ?_
  refine s_gf (p' := 4) rfl H0 rfl rfl ?_
  refine s_ildn (p' := 5) rfl rfl rfl ?_
  refine c_call (p' := 8) (kc := 97) (ls0 := [_, _]) rfl rfl rfl rfl rfl (mj_rcv_is H38) rfl rfl rfl ?_
  refine s_ildn (p' := 1) rfl rfl rfl ?_
  refine s_if (p' := 4) false rfl (by decide +kernel) rfl ?_
  refine s_ildn (p' := 5) rfl rfl rfl ?_
  refine s_aldn (p' := 6) rfl rfl rfl ?_
  refine s_gf (p' := 9) rfl H38 rfl rfl ?_
  refine s_icmp (p' := 12) false rfl ((ch_ge (w := 1) (by decide +kernel)).trans (decide_eq_false (by rw [mI_ti (by omega)]; omega))) rfl ?_
  refine s_con (p' := 13) rfl rfl ?_
  refine s_goto (p' := 17) rfl rfl ?_
  refine c_iret rfl (by decide +kernel) ?_
  refine s_if (p' := 21) true rfl (by decide +kernel) rfl ?_
  refine s_aldn (p' := 22) rfl rfl rfl ?_
  refine s_gf (p' := 25) rfl H0 rfl rfl ?_
  refine s_ildn (p' := 26) rfl rfl rfl ?_
  refine c_call (p' := 29) (kc := 97) (ls0 := [_, _]) rfl rfl rfl rfl rfl (mj_rcv_is H38) rfl rfl rfl ?_
  refine s_aldn (p' := 1) rfl rfl rfl ?_
  refine s_ildn (p' := 2) rfl rfl rfl ?_
  refine c_call (p' := 5) (kc := 96) (ls0 := [_, _]) rfl rfl rfl rfl rfl (mj_rcv_is H38) rfl rfl rfl ?_
  refine s_ildn (p' := 1) rfl rfl rfl ?_
  refine s_if (p' := 4) false rfl (by decide +kernel) rfl ?_
  refine s_ildn (p' := 5) rfl rfl rfl ?_
  refine s_aldn (p' := 6) rfl rfl rfl ?_
  refine s_gf (p' := 9) rfl H38 rfl rfl ?_
  refine s_icmp (p' := 12) false rfl ((ch_ge (w := 1) (by decide +kernel)).trans (decide_eq_false (by rw [mI_ti (by omega)]; omega))) rfl ?_
  refine s_con (p' := 13) rfl rfl ?_
  refine s_goto (p' := 17) rfl rfl ?_
  refine c_iret rfl (by decide +kernel) ?_
  refine s_if (p' := 8) false rfl (by decide +kernel) rfl ?_
  refine s_ildn (p' := 9) rfl rfl rfl ?_
  refine s_aldn (p' := 10) rfl rfl rfl ?_
  refine s_gf (p' := 13) rfl H38 rfl rfl ?_
  refine s_lenz (p' := 14) rfl (mj_rdA_is H39 (by decide)) rfl rfl ?_
  refine s_icmp (p' := 17) false rfl (by decide +kernel) rfl ?_
  refine s_aldn (p' := 18) rfl rfl rfl ?_
  refine s_gf (p' := 21) rfl H38 rfl rfl ?_
  refine s_ildn (p' := 22) rfl rfl rfl ?_
  refine s_aalz (p' := 23) (m := 1) (q := (some 114)) (v := .ref 114) rfl (mj_rdA_is H39 (by decide)) rfl (by decide +kernel) rfl rfl rfl rfl ?_
  refine s_goto (p' := 30) rfl rfl ?_
  refine c_aret rfl ?_
  refine s_gf (p' := 32) rfl H114 rfl rfl ?_
  refine c_call (p' := 35) (kc := 97) (ls0 := [_]) rfl rfl rfl rfl rfl (mj_rcv_is H115) rfl rfl rfl ?_
  refine s_aldn (p' := 1) rfl rfl rfl ?_
  refine s_gf (p' := 4) rfl H115 rfl rfl ?_
  refine c_iret rfl rfl ?_
  refine c_iret rfl rfl ?_
  refine s_bzL (p' := 8) (z := (Int32.toInt64 (nI n))) rfl rfl rfl rfl ?_
  refine s_lasz (p' := 9) (m := 0) rfl rfl H412 (by decide +kernel) rfl rfl rfl ?_
  refine s_goto (p' := 15) rfl rfl ?_
  refine s_con (p' := 16) rfl rfl ?_
  refine k_iret rfl rfl ?_
  refine l_ist (p' := 532) (ls' := [_, _, _, _, _, _, _, _, _, _]) rfl rfl rfl rfl rfl ?_
  refine l_aldn (p' := 533) rfl rfl rfl rfl ?_
  refine l_alds (p' := 534) rfl rfl rfl rfl ?_
  refine l_ild (p' := 536) rfl rfl rfl rfl ?_
  refine l_con (p' := 537) rfl rfl rfl ?_
  refine l_bz (p' := 538) (z := (nI (i + 1))) rfl rfl rfl rfl rfl (mI_add _ _) ?_
  refine l_ialz (p' := 539) (m := (i + 1)) (z := (nI 1)) rfl rfl (inb_nI (by omega) (by omega)) (mI_cl (by omega)) hx1 rfl ?_
  refine l_call (p' := 542) (kc := 99) (ls0 := [_, _]) rfl rfl rfl rfl rfl rfl (mj_rcv_is (rd_sn rfl H400)) rfl rfl rfl ?_
  refine s_aldn (p' := 1) rfl rfl rfl ?_
  refine s_aldn (p' := 2) rfl rfl rfl ?_
  refine s_ildn (p' := 3) rfl rfl rfl ?_
  refine c_call (p' := 6) (kc := 98) (ls0 := [_, _]) rfl rfl rfl rfl rfl (mj_rcv_is (rd_sn rfl H400)) rfl rfl rfl ?_
  refine s_ildn (p' := 1) rfl rfl rfl ?_
  refine s_con (p' := 2) rfl rfl ?_
  refine s_aldn (p' := 3) rfl rfl rfl ?_
  refine s_gf (p' := 6) rfl (rd_sn rfl H400) rfl rfl ?_
  refine c_call (p' := 11) (kc := 97) (ls0 := [_]) rfl rfl rfl rfl rfl (mj_rcv_is (rd_sn rfl H401)) rfl rfl rfl ?_
  refine s_aldn (p' := 1) rfl rfl rfl ?_
  refine s_gf (p' := 4) rfl (rd_sn rfl H401) rfl rfl ?_
  refine c_iret rfl rfl ?_
  refine s_con (p' := 12) rfl rfl ?_
  refine s_bz (p' := 13) (z := (nI (q - 1))) rfl rfl rfl (mI_sub (by omega)) ?_
  refine c_call (p' := 16) (kc := 97) (ls0 := [_, _, _]) rfl rfl rfl rfl rfl rfl rfl rfl rfl ?_
  refine s_ildn (p' := 1) rfl rfl rfl ?_
  refine s_ildn (p' := 2) rfl rfl rfl ?_
  refine s_icmp (p' := 5) false rfl (by decide +kernel) rfl ?_
  refine s_ildn (p' := 6) rfl rfl rfl ?_
  refine s_ildn (p' := 7) rfl rfl rfl ?_
  refine s_icmp (p' := 10) false rfl ((ch_gt (w := 1) (by decide +kernel)).trans (decide_eq_false (by rw [mI_ti (by omega)]; omega))) rfl ?_
  refine s_con (p' := 11) rfl rfl ?_
  refine s_goto (p' := 15) rfl rfl ?_
  refine c_iret rfl (by decide +kernel) ?_
  refine c_iret rfl (by decide +kernel) ?_
  refine s_if (p' := 9) false rfl (by decide +kernel) rfl ?_
  refine s_con (p' := 10) rfl rfl ?_
  refine s_goto (p' := 14) rfl rfl ?_
  refine c_call (p' := 17) (kc := 98) (ls0 := [_, _]) rfl rfl rfl rfl rfl (mj_rcv_is (rd_sn rfl H400)) rfl rfl rfl ?_
  refine s_aldn (p' := 1) rfl rfl rfl ?_
  refine s_ildn (p' := 2) rfl rfl rfl ?_
  refine s_pfz (p' := 5) (fs' := [_, _, _, _, _, _, _, _, _, _, _]) rfl rfl (rd_sn rfl H400) rfl rfl rfl rfl ?_
  refine s_ildn (p' := 6) rfl rfl rfl ?_
  refine s_if (p' := 13) true rfl (by decide +kernel) rfl ?_
  refine s_con (p' := 14) rfl rfl ?_
  refine c_iret rfl (by decide +kernel) ?_
  refine s_if (p' := 24) true rfl (by decide +kernel) rfl ?_
  refine s_aldn (p' := 25) rfl rfl rfl ?_
  refine s_gf (p' := 28) rfl (rd_ss rfl (rd_sn rfl H400)) rfl rfl ?_
  refine s_ildn (p' := 29) rfl rfl rfl ?_
  refine c_call (p' := 34) (kc := 98) (ls0 := [_, _]) rfl rfl rfl rfl rfl (mj_rcv_is (rd_sn rfl (rd_sn rfl H401))) rfl rfl rfl ?_
  refine s_ildn (p' := 1) rfl rfl rfl ?_
  refine s_aldn (p' := 2) rfl rfl rfl ?_
  refine s_gf (p' := 5) rfl (rd_sn rfl (rd_sn rfl H401)) rfl rfl ?_
  refine c_call (p' := 8) (kc := 97) (ls0 := [_, _]) rfl rfl rfl rfl rfl rfl rfl rfl rfl ?_
  refine s_ildn (p' := 1) rfl rfl rfl ?_
  refine s_ildn (p' := 2) rfl rfl rfl ?_
  refine s_sp (p' := 3) (ls' := _) rfl rfl rfl ?_
  refine c_call (p' := 6) (kc := 96) (ls0 := [_, _, _]) rfl rfl rfl rfl rfl rfl rfl rfl rfl ?_
  refine s_ildn (p' := 1) rfl rfl rfl ?_
  refine s_if (p' := 4) false rfl (by decide +kernel) rfl ?_
  refine s_ildn (p' := 5) rfl rfl rfl ?_
  refine s_ildn (p' := 6) rfl rfl rfl ?_
  refine s_icmp (p' := 16) true rfl ((ch_lt (w := 1) (by decide +kernel)).trans (decide_eq_true (by rw [mI_ti (by omega)]; omega))) rfl ?_
  refine s_ildn (p' := 17) rfl rfl rfl ?_
  refine c_iret rfl rfl ?_
  refine c_iret rfl rfl ?_
  refine s_sp (p' := 9) (ls' := _) rfl rfl rfl ?_
  refine s_aldn (p' := 10) rfl rfl rfl ?_
  refine s_ildn (p' := 11) rfl rfl rfl ?_
  refine c_call (p' := 14) (kc := 97) (ls0 := [_, _]) rfl rfl rfl rfl rfl (mj_rcv_is (rd_sn rfl (rd_sn rfl H401))) rfl rfl rfl ?_
  refine s_aldn (p' := 1) rfl rfl rfl ?_
  refine s_gf (p' := 4) rfl (rd_sn rfl (rd_sn rfl H401)) rfl rfl ?_
  refine s_ildn (p' := 5) rfl rfl rfl ?_
  refine s_aalz (p' := 6) (m := 1) (q := (some rp)) (v := .ref rp) rfl (mj_rdA_is (rd_sn (beq_eq_false_iff_ne.mpr (by omega)) (rd_sn (beq_eq_false_iff_ne.mpr (by omega)) HPE)) (by decide)) rfl (by decide +kernel) rfl hpe rfl rfl ?_
  refine c_aret rfl ?_
  refine c_aret rfl ?_
  refine s_cco (p' := 37) rfl (rd_sn (beq_eq_false_iff_ne.mpr (by omega)) (rd_sn (beq_eq_false_iff_ne.mpr (by omega)) Hrp)) rfl ?_
  refine s_gf (p' := 40) rfl (rd_sn (beq_eq_false_iff_ne.mpr (by omega)) (rd_sn (beq_eq_false_iff_ne.mpr (by omega)) Hrp)) rfl rfl ?_
  refine c_call (p' := 43) (kc := 98) (ls0 := [_]) rfl rfl rfl rfl rfl (mj_rcv_is (rd_sn (beq_eq_false_iff_ne.mpr (by omega)) (rd_sn (beq_eq_false_iff_ne.mpr (by omega)) Htx))) rfl rfl rfl ?_
  refine s_aldn (p' := 1) rfl rfl rfl ?_
  refine s_gf (p' := 4) rfl (rd_sn (beq_eq_false_iff_ne.mpr (by omega)) (rd_sn (beq_eq_false_iff_ne.mpr (by omega)) Htx)) rfl rfl ?_
  refine s_lenz (p' := 5) rfl (mj_rdA_is (rd_sn (beq_eq_false_iff_ne.mpr (by omega)) (rd_sn (beq_eq_false_iff_ne.mpr (by omega)) Htb)) (by decide)) rfl rfl ?_
  refine s_aldn (p' := 6) rfl rfl rfl ?_
  refine c_call (p' := 9) (kc := 97) (ls0 := [_]) rfl rfl rfl rfl rfl (mj_rcv_is (rd_sn (beq_eq_false_iff_ne.mpr (by omega)) (rd_sn (beq_eq_false_iff_ne.mpr (by omega)) Htx))) rfl rfl rfl ?_
  refine s_sh (p' := 3) (ls' := _) (st' := .int (nI 1) :: _) (h' := _) rfl rfl rfl rfl ?_
  refine s_if (p' := 6) false rfl (by decide +kernel) rfl ?_
  refine s_aldn (p' := 7) rfl rfl rfl ?_
  refine s_gf (p' := 10) rfl (rd_sn (beq_eq_false_iff_ne.mpr (by omega)) (rd_sn (beq_eq_false_iff_ne.mpr (by omega)) Htx)) rfl rfl ?_
  refine s_goto (p' := 14) rfl rfl ?_
  refine c_iret rfl (by decide +kernel) ?_
  refine s_bz (p' := 10) (z := (nI n)) rfl rfl rfl (mI_shr0 (by omega)) ?_
  refine c_iret rfl rfl ?_
  refine k_iret rfl rfl ?_
  refine l_ist (p' := 544) (ls' := [_, _, _, _, _, _, _, _, _, _]) rfl rfl rfl rfl rfl ?_
  refine l_aldn (p' := 545) rfl rfl rfl rfl ?_
  refine l_call (p' := 548) (kc := 99) (ls0 := [_]) rfl rfl rfl rfl rfl rfl (mj_rcv_is (rd_ss rfl (rd_sn rfl H400))) rfl rfl rfl ?_
  refine s_aldn (p' := 1) rfl rfl rfl ?_
  refine s_gf (p' := 4) rfl (rd_ss rfl (rd_sn rfl H400)) rfl rfl ?_
  refine k_iret rfl rfl ?_
  refine l_ild (p' := 550) rfl rfl rfl rfl ?_
  refine l_icmp (p' := 555) true rfl rfl (by decide +kernel) rfl ?_
  refine l_ild (p' := 557) rfl rfl rfl rfl ?_
  refine l_if (p' := 560) false rfl rfl (by decide +kernel) rfl ?_
  refine l_aldn (p' := 561) rfl rfl rfl rfl ?_
  refine l_con (p' := 562) rfl rfl rfl ?_
  refine l_lalz (p' := 563) (m := 0) (v := (Int32.toInt64 (nI n))) rfl rfl (rd_sn rfl (rd_ss rfl H412)) (by decide +kernel) rfl rfl rfl ?_
  refine l_ild (p' := 565) rfl rfl rfl rfl ?_
  refine l_bzL (p' := 566) (z := (Int32.toInt64 (nI n))) rfl rfl rfl rfl rfl rfl ?_
  refine l_bz (p' := 567) (z := nI 0) rfl rfl rfl rfl rfl (lcmp_self _) ?_
  refine l_if (p' := 572) true rfl rfl (by decide +kernel) rfl ?_
  refine l_goto (p' := 2541) rfl rfl rfl ?_
  refine l_incz (p' := 2544) (w := (nI (i + 4))) (ls' := [_, _, _, _, _, _, _, _, _, _]) rfl rfl rfl rfl (mI_add _ _) rfl rfl ?_
  refine l_goto (p' := 28) rfl rfl rfl ?_
  exact hn _ _ _ _ _ ⟨(rd_ss rfl (rd_sn rfl H400)), (rd_sn rfl (rd_ss rfl H412)), (mz_fr.s (by decide) (mz_fr.s (by decide) (mz_fr.rf _ h))), (Nat.le_trans (Nat.le_of_eq (len_s (len_s HL))) (by omega)), (Nat.le_trans (sz_s rfl (rd_sn rfl H400) rfl (sz_sA rfl H412 (Nat.le_refl (mj_sz h)))) (by omega))⟩
theorem w_8_1 {L i N : Nat} {xs : Nat → Int32} {h : mj_H} {l6 l7 l8 l9 : Option Value} {P : mj_H → Prop} (hL : L ≤ 2048) (hi : i + 4 ≤ L) (hN : N + 2000 < mj_CB) (hN0 : 414 ≤ N) (HL : h.length = N) (hk : xs i &&& nI 63 = nI 8) {gs pl ty wa nw nx dp ca mf : Value} {th : Int32} {sd be : Int64} {ou : Nat → Int64} {vf wf sf uf im jm : Nat → Int32} {k g : Nat} (hk20 : k ≤ 20) (hvw : ∀ j, j < 8 → wf j = vf j) (hsu : ∀ j, j < k → uf j = sf j) (him : ∀ j, j < 8 → jm j = im j) {pm ge gm : Value} {q : Nat} (hq6 : q ≤ 6) (hg24 : g ≤ 24) {txs : List Value} {PE rp ac tx tb n m : Nat} {pef : Nat → Option Nat} {tbf : Nat → Int32} {rrow ace acm : Value} (hpq : 1 < q) (hn : n ≤ 60) (hm : m ≤ 30) (hPE : 414 ≤ PE) (hrp : 414 ≤ rp) (hac : 414 ≤ ac) (htx : 414 ≤ tx) (htb : 414 ≤ tb) (hpe : pef 1 = some rp)  (hx1 : xs (i + 1) = nI 1) (H0 : mj_rd h 0 = some (.inr (0, [.ref 1, .ref 38, .ref 299, .ref 336, .ref 373, .ref 375, .ref 378, .ref 381, .ref 387, .ref 393, gs, pl, .ref 397, .ref 398, .ref 399, .long sd, .long be]))) (H38 : mj_rd h 38 = some (.inr (6, [.ref 39, .ref 40, .int (nI q)]))) (H39 : mj_rd h 39 = some (.inl (8, (6, .inr (.inr (.inr (.inr ((fun j => if j < 6 then some (77 + 37 * j) else none))))))))) (H114 : mj_rd h 114 = some (.inr (1, [.ref 115, .ref 117, .ref 150]))) (H117 : mj_rd h 117 = some (.inr (3, [.ref 118, .ref 119, .int (nI m)]))) (H400 : mj_rd h 400 = some (.inr (17, [.int th, .ref 401, .ref 402, ty, .long sd, .long be, .ref 410, wa, nw, nx, .ref 411]))) (H401 : mj_rd h 401 = some (.inr (18, [.ref PE, .int (nI q), pm]))) (H412 : mj_rd h 412 = some (.inl (4, (1, .inr (.inl (ou)))))) (HPE : mj_rd h PE = some (.inl (6, (10, .inr (.inr (.inr (.inr (pef)))))))) (Hrp : mj_rd h rp = some (.inr (26, [rrow, .ref tx, .ref ac]))) (Hac : mj_rd h ac = some (.inr (18, [ace, .int (nI m), acm]))) (hn : ∀ (l6 l7 l8 l9 : Option Value) (h' : mj_H), mj_rd h' 400 = some (.inr (17, [.int (nI 0), .ref 401, .ref 402, ty, .long sd, .long be, .ref 410, wa, nw, nx, .ref 411])) ∧ mj_rd h' 412 = some (.inl (4, (1, .inr (.inl ((vp_updL ou 0 (Int32.toInt64 (nI m)))))))) ∧ mz_fr [400, 412] h h' ∧ h'.length ≤ N + 0 ∧ mj_sz h' ≤ mj_sz h + 0 → mj_lrun L xs (28, [some (.retAddr 1), some (.ref 0), some (.ref 400), some (.ref 412), some (.ref 413), some (.int (nI (i + 4))), l6, l7, l8, l9], [], h') P) : mj_lrun L xs (28, [some (.retAddr 1), some (.ref 0), some (.ref 400), some (.ref 412), some (.ref 413), some (.int (nI i)), l6, l7, l8, l9], [], h) P := by
  refine l_ild (p' := 30) rfl rfl rfl rfl ?_
  refine l_alds (p' := 31) rfl rfl rfl rfl ?_
  refine l_lens (p' := 32) rfl rfl rfl ?_
  refine l_con (p' := 33) rfl rfl rfl ?_
  refine l_bz (p' := 34) (z := (nI (L - 4))) rfl rfl rfl rfl rfl (mI_sub (by omega)) ?_
  refine l_icmp (p' := 37) false rfl rfl ((ci_gt (by omega) (by omega)).trans (decide_eq_false (by omega))) rfl ?_
  refine l_alds (p' := 38) rfl rfl rfl rfl ?_
  refine l_ild (p' := 40) rfl rfl rfl rfl ?_
  refine l_ialz (p' := 41) (m := i) (z := (xs i)) rfl rfl (inb_nI (by omega) (by omega)) (mI_cl (by omega)) rfl rfl ?_
  refine l_bip (p' := 43) rfl rfl rfl ?_
  refine l_bz (p' := 44) (z := (nI 8)) rfl rfl rfl rfl rfl hk ?_
  refine l_sp (p' := 643) (ls' := _) rfl rfl rfl rfl rfl ?_
  refine l_aldn (p' := 644) rfl rfl rfl rfl ?_
  refine l_alds (p' := 645) rfl rfl rfl rfl ?_
  refine l_ild (p' := 647) rfl rfl rfl rfl ?_
  refine l_con (p' := 648) rfl rfl rfl ?_
  refine l_bz (p' := 649) (z := (nI (i + 1))) rfl rfl rfl rfl rfl (mI_add _ _) ?_
  refine l_ialz (p' := 650) (m := (i + 1)) (z := (nI 1)) rfl rfl (inb_nI (by omega) (by omega)) (mI_cl (by omega)) hx1 rfl ?_
  refine l_aldn (p' := 651) rfl rfl rfl rfl ?_
  refine l_call (p' := 654) (kc := 99) (ls0 := [_, _, _, _]) rfl rfl rfl rfl rfl rfl rfl rfl rfl rfl ?_
  refine s_aldn (p' := 1) rfl rfl rfl ?_
  refine s_con (p' := 2) rfl rfl ?_
  refine s_aldn (p' := 3) rfl rfl rfl ?_
  refine s_ildn (p' := 4) rfl rfl rfl ?_
  refine c_call (p' := 7) (kc := 98) (ls0 := [_, _]) rfl rfl rfl rfl rfl (mj_rcv_is H0) rfl rfl rfl ?_
  refine s_aldn (p' := 1) rfl rfl rfl ?_
  refine s_gf (p' := 4) rfl H0 rfl rfl ?_
  refine s_ildn (p' := 5) rfl rfl rfl ?_
  refine c_call (p' := 8) (kc := 97) (ls0 := [_, _]) rfl rfl rfl rfl rfl (mj_rcv_is H38) rfl rfl rfl ?_
  refine s_ildn (p' := 1) rfl rfl rfl ?_
  refine s_if (p' := 4) false rfl (by decide +kernel) rfl ?_
  refine s_ildn (p' := 5) rfl rfl rfl ?_
  refine s_aldn (p' := 6) rfl rfl rfl ?_
  refine s_gf (p' := 9) rfl H38 rfl rfl ?_
  refine s_icmp (p' := 12) false rfl ((ch_ge (w := 1) (by decide +kernel)).trans (decide_eq_false (by rw [mI_ti (by omega)]; omega))) rfl ?_
  refine s_con (p' := 13) rfl rfl ?_
  refine s_goto (p' := 17) rfl rfl ?_
  refine c_iret rfl (by decide +kernel) ?_
  refine s_if (p' := 21) true rfl (by decide +kernel) rfl ?_
  refine s_aldn (p' := 22) rfl rfl rfl ?_
  refine s_gf (p' := 25) rfl H0 rfl rfl ?_
  refine s_ildn (p' := 26) rfl rfl rfl ?_
  refine c_call (p' := 29) (kc := 97) (ls0 := [_, _]) rfl rfl rfl rfl rfl (mj_rcv_is H38) rfl rfl rfl ?_
  refine s_ildn (p' := 1) rfl rfl rfl ?_
  refine s_if (p' := 4) false rfl (by decide +kernel) rfl ?_
  refine s_ildn (p' := 5) rfl rfl rfl ?_
  refine s_aldn (p' := 6) rfl rfl rfl ?_
  refine s_gf (p' := 9) rfl H38 rfl rfl ?_
  refine s_icmp (p' := 12) false rfl ((ch_ge (w := 1) (by decide +kernel)).trans (decide_eq_false (by rw [mI_ti (by omega)]; omega))) rfl ?_
  refine s_ildn (p' := 13) rfl rfl rfl ?_
  refine s_aldn (p' := 14) rfl rfl rfl ?_
  refine s_gf (p' := 17) rfl H38 rfl rfl ?_
  refine s_lenz (p' := 18) rfl (mj_rdA_is H39 (by decide)) rfl rfl ?_
  refine s_icmp (p' := 21) false rfl (by decide +kernel) rfl ?_
  refine s_aldn (p' := 22) rfl rfl rfl ?_
  refine s_gf (p' := 25) rfl H38 rfl rfl ?_
  refine s_ildn (p' := 26) rfl rfl rfl ?_
  refine s_aalz (p' := 27) (m := 1) (q := (some 114)) (v := .ref 114) rfl (mj_rdA_is H39 (by decide)) rfl (by decide +kernel) rfl rfl rfl rfl ?_
  refine s_gf (p' := 30) rfl H114 rfl rfl ?_
  refine s_goto (p' := 40) rfl rfl ?_
  refine c_aret rfl ?_
  refine c_call (p' := 32) (kc := 97) (ls0 := [_]) rfl rfl rfl rfl rfl (mj_rcv_is H117) rfl rfl rfl ?_
  refine s_aldn (p' := 1) rfl rfl rfl ?_
  refine s_gf (p' := 4) rfl H117 rfl rfl ?_
  refine c_iret rfl rfl ?_
  refine c_iret rfl rfl ?_
  refine s_bzL (p' := 8) (z := (Int32.toInt64 (nI m))) rfl rfl rfl rfl ?_
  refine s_lasz (p' := 9) (m := 0) rfl rfl H412 (by decide +kernel) rfl rfl rfl ?_
  refine s_goto (p' := 15) rfl rfl ?_
  refine s_con (p' := 16) rfl rfl ?_
  refine k_iret rfl rfl ?_
  refine l_ist (p' := 656) (ls' := [_, _, _, _, _, _, _, _, _, _]) rfl rfl rfl rfl rfl ?_
  refine l_aldn (p' := 657) rfl rfl rfl rfl ?_
  refine l_alds (p' := 658) rfl rfl rfl rfl ?_
  refine l_ild (p' := 660) rfl rfl rfl rfl ?_
  refine l_con (p' := 661) rfl rfl rfl ?_
  refine l_bz (p' := 662) (z := (nI (i + 1))) rfl rfl rfl rfl rfl (mI_add _ _) ?_
  refine l_ialz (p' := 663) (m := (i + 1)) (z := (nI 1)) rfl rfl (inb_nI (by omega) (by omega)) (mI_cl (by omega)) hx1 rfl ?_
  refine l_call (p' := 666) (kc := 99) (ls0 := [_, _]) rfl rfl rfl rfl rfl rfl (mj_rcv_is (rd_sn rfl H400)) rfl rfl rfl ?_
  refine s_aldn (p' := 1) rfl rfl rfl ?_
  refine s_aldn (p' := 2) rfl rfl rfl ?_
  refine s_ildn (p' := 3) rfl rfl rfl ?_
  refine c_call (p' := 6) (kc := 98) (ls0 := [_, _]) rfl rfl rfl rfl rfl (mj_rcv_is (rd_sn rfl H400)) rfl rfl rfl ?_
  refine s_ildn (p' := 1) rfl rfl rfl ?_
  refine s_con (p' := 2) rfl rfl ?_
  refine s_aldn (p' := 3) rfl rfl rfl ?_
  refine s_gf (p' := 6) rfl (rd_sn rfl H400) rfl rfl ?_
  refine c_call (p' := 11) (kc := 97) (ls0 := [_]) rfl rfl rfl rfl rfl (mj_rcv_is (rd_sn rfl H401)) rfl rfl rfl ?_
  refine s_aldn (p' := 1) rfl rfl rfl ?_
  refine s_gf (p' := 4) rfl (rd_sn rfl H401) rfl rfl ?_
  refine c_iret rfl rfl ?_
  refine s_con (p' := 12) rfl rfl ?_
  refine s_bz (p' := 13) (z := (nI (q - 1))) rfl rfl rfl (mI_sub (by omega)) ?_
  refine c_call (p' := 16) (kc := 97) (ls0 := [_, _, _]) rfl rfl rfl rfl rfl rfl rfl rfl rfl ?_
  refine s_ildn (p' := 1) rfl rfl rfl ?_
  refine s_ildn (p' := 2) rfl rfl rfl ?_
  refine s_icmp (p' := 5) false rfl (by decide +kernel) rfl ?_
  refine s_ildn (p' := 6) rfl rfl rfl ?_
  refine s_ildn (p' := 7) rfl rfl rfl ?_
  refine s_icmp (p' := 10) false rfl ((ch_gt (w := 1) (by decide +kernel)).trans (decide_eq_false (by rw [mI_ti (by omega)]; omega))) rfl ?_
  refine s_con (p' := 11) rfl rfl ?_
  refine s_goto (p' := 15) rfl rfl ?_
  refine c_iret rfl (by decide +kernel) ?_
  refine c_iret rfl (by decide +kernel) ?_
  refine s_if (p' := 9) false rfl (by decide +kernel) rfl ?_
  refine s_con (p' := 10) rfl rfl ?_
  refine s_goto (p' := 14) rfl rfl ?_
  refine c_call (p' := 17) (kc := 98) (ls0 := [_, _]) rfl rfl rfl rfl rfl (mj_rcv_is (rd_sn rfl H400)) rfl rfl rfl ?_
  refine s_aldn (p' := 1) rfl rfl rfl ?_
  refine s_ildn (p' := 2) rfl rfl rfl ?_
  refine s_pfz (p' := 5) (fs' := [_, _, _, _, _, _, _, _, _, _, _]) rfl rfl (rd_sn rfl H400) rfl rfl rfl rfl ?_
  refine s_ildn (p' := 6) rfl rfl rfl ?_
  refine s_if (p' := 13) true rfl (by decide +kernel) rfl ?_
  refine s_con (p' := 14) rfl rfl ?_
  refine c_iret rfl (by decide +kernel) ?_
  refine s_if (p' := 24) true rfl (by decide +kernel) rfl ?_
  refine s_aldn (p' := 25) rfl rfl rfl ?_
  refine s_gf (p' := 28) rfl (rd_ss rfl (rd_sn rfl H400)) rfl rfl ?_
  refine s_ildn (p' := 29) rfl rfl rfl ?_
  refine c_call (p' := 34) (kc := 98) (ls0 := [_, _]) rfl rfl rfl rfl rfl (mj_rcv_is (rd_sn rfl (rd_sn rfl H401))) rfl rfl rfl ?_
  refine s_ildn (p' := 1) rfl rfl rfl ?_
  refine s_aldn (p' := 2) rfl rfl rfl ?_
  refine s_gf (p' := 5) rfl (rd_sn rfl (rd_sn rfl H401)) rfl rfl ?_
  refine c_call (p' := 8) (kc := 97) (ls0 := [_, _]) rfl rfl rfl rfl rfl rfl rfl rfl rfl ?_
  refine s_ildn (p' := 1) rfl rfl rfl ?_
  refine s_ildn (p' := 2) rfl rfl rfl ?_
  refine s_sp (p' := 3) (ls' := _) rfl rfl rfl ?_
  refine c_call (p' := 6) (kc := 96) (ls0 := [_, _, _]) rfl rfl rfl rfl rfl rfl rfl rfl rfl ?_
  refine s_ildn (p' := 1) rfl rfl rfl ?_
  refine s_if (p' := 4) false rfl (by decide +kernel) rfl ?_
  refine s_ildn (p' := 5) rfl rfl rfl ?_
  refine s_ildn (p' := 6) rfl rfl rfl ?_
  refine s_icmp (p' := 16) true rfl ((ch_lt (w := 1) (by decide +kernel)).trans (decide_eq_true (by rw [mI_ti (by omega)]; omega))) rfl ?_
  refine s_ildn (p' := 17) rfl rfl rfl ?_
  refine c_iret rfl rfl ?_
  refine c_iret rfl rfl ?_
  refine s_sp (p' := 9) (ls' := _) rfl rfl rfl ?_
  refine s_aldn (p' := 10) rfl rfl rfl ?_
  refine s_ildn (p' := 11) rfl rfl rfl ?_
  refine c_call (p' := 14) (kc := 97) (ls0 := [_, _]) rfl rfl rfl rfl rfl (mj_rcv_is (rd_sn rfl (rd_sn rfl H401))) rfl rfl rfl ?_
  refine s_aldn (p' := 1) rfl rfl rfl ?_
  refine s_gf (p' := 4) rfl (rd_sn rfl (rd_sn rfl H401)) rfl rfl ?_
  refine s_ildn (p' := 5) rfl rfl rfl ?_
  refine s_aalz (p' := 6) (m := 1) (q := (some rp)) (v := .ref rp) rfl (mj_rdA_is (rd_sn (beq_eq_false_iff_ne.mpr (by omega)) (rd_sn (beq_eq_false_iff_ne.mpr (by omega)) HPE)) (by decide)) rfl (by decide +kernel) rfl hpe rfl rfl ?_
  refine c_aret rfl ?_
  refine c_aret rfl ?_
  refine s_cco (p' := 37) rfl (rd_sn (beq_eq_false_iff_ne.mpr (by omega)) (rd_sn (beq_eq_false_iff_ne.mpr (by omega)) Hrp)) rfl ?_
  refine s_gf (p' := 40) rfl (rd_sn (beq_eq_false_iff_ne.mpr (by omega)) (rd_sn (beq_eq_false_iff_ne.mpr (by omega)) Hrp)) rfl rfl ?_
  refine c_call (p' := 45) (kc := 98) (ls0 := [_]) rfl rfl rfl rfl rfl (mj_rcv_is (rd_sn (beq_eq_false_iff_ne.mpr (by omega)) (rd_sn (beq_eq_false_iff_ne.mpr (by omega)) Hac))) rfl rfl rfl ?_
  refine s_aldn (p' := 1) rfl rfl rfl ?_
  refine s_gf (p' := 4) rfl (rd_sn (beq_eq_false_iff_ne.mpr (by omega)) (rd_sn (beq_eq_false_iff_ne.mpr (by omega)) Hac)) rfl rfl ?_
  refine c_iret rfl rfl ?_
  refine k_iret rfl rfl ?_
  refine l_ist (p' := 668) (ls' := [_, _, _, _, _, _, _, _, _, _]) rfl rfl rfl rfl rfl ?_
  refine l_aldn (p' := 669) rfl rfl rfl rfl ?_
  refine l_call (p' := 672) (kc := 99) (ls0 := [_]) rfl rfl rfl rfl rfl rfl (mj_rcv_is (rd_ss rfl (rd_sn rfl H400))) rfl rfl rfl ?_
  refine s_aldn (p' := 1) rfl rfl rfl ?_
  refine s_gf (p' := 4) rfl (rd_ss rfl (rd_sn rfl H400)) rfl rfl ?_
  refine k_iret rfl rfl ?_
  refine l_ild (p' := 674) rfl rfl rfl rfl ?_
  refine l_icmp (p' := 679) true rfl rfl (by decide +kernel) rfl ?_
  refine l_ild (p' := 681) rfl rfl rfl rfl ?_
  refine l_if (p' := 684) false rfl rfl (by decide +kernel) rfl ?_
  refine l_aldn (p' := 685) rfl rfl rfl rfl ?_
  refine l_con (p' := 686) rfl rfl rfl ?_
  refine l_lalz (p' := 687) (m := 0) (v := (Int32.toInt64 (nI m))) rfl rfl (rd_sn rfl (rd_ss rfl H412)) (by decide +kernel) rfl rfl rfl ?_
  refine l_ild (p' := 689) rfl rfl rfl rfl ?_
  refine l_bzL (p' := 690) (z := (Int32.toInt64 (nI m))) rfl rfl rfl rfl rfl rfl ?_
  refine l_bz (p' := 691) (z := nI 0) rfl rfl rfl rfl rfl (lcmp_self _) ?_
  refine l_if (p' := 696) true rfl rfl (by decide +kernel) rfl ?_
  refine l_goto (p' := 2541) rfl rfl rfl ?_
  refine l_incz (p' := 2544) (w := (nI (i + 4))) (ls' := [_, _, _, _, _, _, _, _, _, _]) rfl rfl rfl rfl (mI_add _ _) rfl rfl ?_
  refine l_goto (p' := 28) rfl rfl rfl ?_
  exact hn _ _ _ _ _ ⟨(rd_ss rfl (rd_sn rfl H400)), (rd_sn rfl (rd_ss rfl H412)), (mz_fr.s (by decide) (mz_fr.s (by decide) (mz_fr.rf _ h))), (Nat.le_trans (Nat.le_of_eq (len_s (len_s HL))) (by omega)), (Nat.le_trans (sz_s rfl (rd_sn rfl H400) rfl (sz_sA rfl H412 (Nat.le_refl (mj_sz h)))) (by omega))⟩
theorem w_6_2 {L i N : Nat} {xs : Nat → Int32} {h : mj_H} {l6 l7 l8 l9 : Option Value} {P : mj_H → Prop} (hL : L ≤ 2048) (hi : i + 4 ≤ L) (hN : N + 2000 < mj_CB) (hN0 : 414 ≤ N) (HL : h.length = N) (hk : xs i &&& nI 63 = nI 6) {gs pl ty wa nw nx dp ca mf : Value} {th : Int32} {sd be : Int64} {ou : Nat → Int64} {vf wf sf uf im jm : Nat → Int32} {k g : Nat} (hk20 : k ≤ 20) (hvw : ∀ j, j < 8 → wf j = vf j) (hsu : ∀ j, j < k → uf j = sf j) (him : ∀ j, j < 8 → jm j = im j) {pm ge gm : Value} {q : Nat} (hq6 : q ≤ 6) (hg24 : g ≤ 24) {txs : List Value} {PE rp ac tx tb n m : Nat} {pef : Nat → Option Nat} {tbf : Nat → Int32} {rrow ace acm : Value} (hpq : 2 < q) (hn : n ≤ 60) (hm : m ≤ 30) (hPE : 414 ≤ PE) (hrp : 414 ≤ rp) (hac : 414 ≤ ac) (htx : 414 ≤ tx) (htb : 414 ≤ tb) (hpe : pef 2 = some rp)  (hx1 : xs (i + 1) = nI 2) (H0 : mj_rd h 0 = some (.inr (0, [.ref 1, .ref 38, .ref 299, .ref 336, .ref 373, .ref 375, .ref 378, .ref 381, .ref 387, .ref 393, gs, pl, .ref 397, .ref 398, .ref 399, .long sd, .long be]))) (H38 : mj_rd h 38 = some (.inr (6, [.ref 39, .ref 40, .int (nI q)]))) (H39 : mj_rd h 39 = some (.inl (8, (6, .inr (.inr (.inr (.inr ((fun j => if j < 6 then some (77 + 37 * j) else none))))))))) (H151 : mj_rd h 151 = some (.inr (1, [.ref 152, .ref 154, .ref 187]))) (H152 : mj_rd h 152 = some (.inr (2, [.ref 153, .int (nI n)]))) (H400 : mj_rd h 400 = some (.inr (17, [.int th, .ref 401, .ref 402, ty, .long sd, .long be, .ref 410, wa, nw, nx, .ref 411]))) (H401 : mj_rd h 401 = some (.inr (18, [.ref PE, .int (nI q), pm]))) (H412 : mj_rd h 412 = some (.inl (4, (1, .inr (.inl (ou)))))) (HPE : mj_rd h PE = some (.inl (6, (10, .inr (.inr (.inr (.inr (pef)))))))) (Hrp : mj_rd h rp = some (.inr (26, [rrow, .ref tx, .ref ac]))) (Htx : mj_rd h tx = some (.inr (21, .ref tb :: .int (nI 0) :: txs))) (Htb : mj_rd h tb = some (.inl (1, (n, .inl (tbf))))) (hn : ∀ (l6 l7 l8 l9 : Option Value) (h' : mj_H), mj_rd h' 400 = some (.inr (17, [.int (nI 0), .ref 401, .ref 402, ty, .long sd, .long be, .ref 410, wa, nw, nx, .ref 411])) ∧ mj_rd h' 412 = some (.inl (4, (1, .inr (.inl ((vp_updL ou 0 (Int32.toInt64 (nI n)))))))) ∧ mz_fr [400, 412] h h' ∧ h'.length ≤ N + 0 ∧ mj_sz h' ≤ mj_sz h + 0 → mj_lrun L xs (28, [some (.retAddr 1), some (.ref 0), some (.ref 400), some (.ref 412), some (.ref 413), some (.int (nI (i + 4))), l6, l7, l8, l9], [], h') P) : mj_lrun L xs (28, [some (.retAddr 1), some (.ref 0), some (.ref 400), some (.ref 412), some (.ref 413), some (.int (nI i)), l6, l7, l8, l9], [], h) P := by
  refine l_ild (p' := 30) rfl rfl rfl rfl ?_
  refine l_alds (p' := 31) rfl rfl rfl rfl ?_
  refine l_lens (p' := 32) rfl rfl rfl ?_
  refine l_con (p' := 33) rfl rfl rfl ?_
  refine l_bz (p' := 34) (z := (nI (L - 4))) rfl rfl rfl rfl rfl (mI_sub (by omega)) ?_
  refine l_icmp (p' := 37) false rfl rfl ((ci_gt (by omega) (by omega)).trans (decide_eq_false (by omega))) rfl ?_
  refine l_alds (p' := 38) rfl rfl rfl rfl ?_
  refine l_ild (p' := 40) rfl rfl rfl rfl ?_
  refine l_ialz (p' := 41) (m := i) (z := (xs i)) rfl rfl (inb_nI (by omega) (by omega)) (mI_cl (by omega)) rfl rfl ?_
  refine l_bip (p' := 43) rfl rfl rfl ?_
  refine l_bz (p' := 44) (z := (nI 6)) rfl rfl rfl rfl rfl hk ?_
  refine l_sp (p' := 519) (ls' := _) rfl rfl rfl rfl rfl ?_
  refine l_aldn (p' := 520) rfl rfl rfl rfl ?_
  refine l_alds (p' := 521) rfl rfl rfl rfl ?_
  refine l_ild (p' := 523) rfl rfl rfl rfl ?_
  refine l_con (p' := 524) rfl rfl rfl ?_
  refine l_bz (p' := 525) (z := (nI (i + 1))) rfl rfl rfl rfl rfl (mI_add _ _) ?_
  refine l_ialz (p' := 526) (m := (i + 1)) (z := (nI 2)) rfl rfl (inb_nI (by omega) (by omega)) (mI_cl (by omega)) hx1 rfl ?_
  refine l_aldn (p' := 527) rfl rfl rfl rfl ?_
  refine l_call (p' := 530) (kc := 99) (ls0 := [_, _, _, _]) rfl rfl rfl rfl rfl rfl rfl rfl rfl rfl ?_
  refine s_aldn (p' := 1) rfl rfl rfl ?_
  refine s_con (p' := 2) rfl rfl ?_
  refine s_aldn (p' := 3) rfl rfl rfl ?_
  refine s_ildn (p' := 4) rfl rfl rfl ?_
  refine c_call (p' := 7) (kc := 98) (ls0 := [_, _]) rfl rfl rfl rfl rfl (mj_rcv_is H0) rfl rfl rfl ?_
  refine s_aldn (p' := 1) rfl rfl rfl ?_
  refine s_gf (p' := 4) rfl H0 rfl rfl ?_
  refine s_ildn (p' := 5) rfl rfl rfl ?_
  refine c_call (p' := 8) (kc := 97) (ls0 := [_, _]) rfl rfl rfl rfl rfl (mj_rcv_is H38) rfl rfl rfl ?_
  refine s_ildn (p' := 1) rfl rfl rfl ?_
  refine s_if (p' := 4) false rfl (by decide +kernel) rfl ?_
  refine s_ildn (p' := 5) rfl rfl rfl ?_
  refine s_aldn (p' := 6) rfl rfl rfl ?_
  refine s_gf (p' := 9) rfl H38 rfl rfl ?_
  refine s_icmp (p' := 12) false rfl ((ch_ge (w := 2) (by decide +kernel)).trans (decide_eq_false (by rw [mI_ti (by omega)]; omega))) rfl ?_
  refine s_con (p' := 13) rfl rfl ?_
  refine s_goto (p' := 17) rfl rfl ?_
  refine c_iret rfl (by decide +kernel) ?_
  refine s_if (p' := 21) true rfl (by decide +kernel) rfl ?_
  refine s_aldn (p' := 22) rfl rfl rfl ?_
  refine s_gf (p' := 25) rfl H0 rfl rfl ?_
  refine s_ildn (p' := 26) rfl rfl rfl ?_
  refine c_call (p' := 29) (kc := 97) (ls0 := [_, _]) rfl rfl rfl rfl rfl (mj_rcv_is H38) rfl rfl rfl ?_
  refine s_aldn (p' := 1) rfl rfl rfl ?_
  refine s_ildn (p' := 2) rfl rfl rfl ?_
  refine c_call (p' := 5) (kc := 96) (ls0 := [_, _]) rfl rfl rfl rfl rfl (mj_rcv_is H38) rfl rfl rfl ?_
  refine s_ildn (p' := 1) rfl rfl rfl ?_
  refine s_if (p' := 4) false rfl (by decide +kernel) rfl ?_
  refine s_ildn (p' := 5) rfl rfl rfl ?_
  refine s_aldn (p' := 6) rfl rfl rfl ?_
  refine s_gf (p' := 9) rfl H38 rfl rfl ?_
  refine s_icmp (p' := 12) false rfl ((ch_ge (w := 2) (by decide +kernel)).trans (decide_eq_false (by rw [mI_ti (by omega)]; omega))) rfl ?_
  refine s_con (p' := 13) rfl rfl ?_
  refine s_goto (p' := 17) rfl rfl ?_
  refine c_iret rfl (by decide +kernel) ?_
  refine s_if (p' := 8) false rfl (by decide +kernel) rfl ?_
  refine s_ildn (p' := 9) rfl rfl rfl ?_
  refine s_aldn (p' := 10) rfl rfl rfl ?_
  refine s_gf (p' := 13) rfl H38 rfl rfl ?_
  refine s_lenz (p' := 14) rfl (mj_rdA_is H39 (by decide)) rfl rfl ?_
  refine s_icmp (p' := 17) false rfl (by decide +kernel) rfl ?_
  refine s_aldn (p' := 18) rfl rfl rfl ?_
  refine s_gf (p' := 21) rfl H38 rfl rfl ?_
  refine s_ildn (p' := 22) rfl rfl rfl ?_
  refine s_aalz (p' := 23) (m := 2) (q := (some 151)) (v := .ref 151) rfl (mj_rdA_is H39 (by decide)) rfl (by decide +kernel) rfl rfl rfl rfl ?_
  refine s_goto (p' := 30) rfl rfl ?_
  refine c_aret rfl ?_
  refine s_gf (p' := 32) rfl H151 rfl rfl ?_
  refine c_call (p' := 35) (kc := 97) (ls0 := [_]) rfl rfl rfl rfl rfl (mj_rcv_is H152) rfl rfl rfl ?_
  refine s_aldn (p' := 1) rfl rfl rfl ?_
  refine s_gf (p' := 4) rfl H152 rfl rfl ?_
  refine c_iret rfl rfl ?_
  refine c_iret rfl rfl ?_
  refine s_bzL (p' := 8) (z := (Int32.toInt64 (nI n))) rfl rfl rfl rfl ?_
  refine s_lasz (p' := 9) (m := 0) rfl rfl H412 (by decide +kernel) rfl rfl rfl ?_
  refine s_goto (p' := 15) rfl rfl ?_
  refine s_con (p' := 16) rfl rfl ?_
  refine k_iret rfl rfl ?_
  refine l_ist (p' := 532) (ls' := [_, _, _, _, _, _, _, _, _, _]) rfl rfl rfl rfl rfl ?_
  refine l_aldn (p' := 533) rfl rfl rfl rfl ?_
  refine l_alds (p' := 534) rfl rfl rfl rfl ?_
  refine l_ild (p' := 536) rfl rfl rfl rfl ?_
  refine l_con (p' := 537) rfl rfl rfl ?_
  refine l_bz (p' := 538) (z := (nI (i + 1))) rfl rfl rfl rfl rfl (mI_add _ _) ?_
  refine l_ialz (p' := 539) (m := (i + 1)) (z := (nI 2)) rfl rfl (inb_nI (by omega) (by omega)) (mI_cl (by omega)) hx1 rfl ?_
  refine l_call (p' := 542) (kc := 99) (ls0 := [_, _]) rfl rfl rfl rfl rfl rfl (mj_rcv_is (rd_sn rfl H400)) rfl rfl rfl ?_
  refine s_aldn (p' := 1) rfl rfl rfl ?_
  refine s_aldn (p' := 2) rfl rfl rfl ?_
  refine s_ildn (p' := 3) rfl rfl rfl ?_
  refine c_call (p' := 6) (kc := 98) (ls0 := [_, _]) rfl rfl rfl rfl rfl (mj_rcv_is (rd_sn rfl H400)) rfl rfl rfl ?_
  refine s_ildn (p' := 1) rfl rfl rfl ?_
  refine s_con (p' := 2) rfl rfl ?_
  refine s_aldn (p' := 3) rfl rfl rfl ?_
  refine s_gf (p' := 6) rfl (rd_sn rfl H400) rfl rfl ?_
  refine c_call (p' := 11) (kc := 97) (ls0 := [_]) rfl rfl rfl rfl rfl (mj_rcv_is (rd_sn rfl H401)) rfl rfl rfl ?_
  refine s_aldn (p' := 1) rfl rfl rfl ?_
  refine s_gf (p' := 4) rfl (rd_sn rfl H401) rfl rfl ?_
  refine c_iret rfl rfl ?_
  refine s_con (p' := 12) rfl rfl ?_
  refine s_bz (p' := 13) (z := (nI (q - 1))) rfl rfl rfl (mI_sub (by omega)) ?_
  refine c_call (p' := 16) (kc := 97) (ls0 := [_, _, _]) rfl rfl rfl rfl rfl rfl rfl rfl rfl ?_
  refine s_ildn (p' := 1) rfl rfl rfl ?_
  refine s_ildn (p' := 2) rfl rfl rfl ?_
  refine s_icmp (p' := 5) false rfl (by decide +kernel) rfl ?_
  refine s_ildn (p' := 6) rfl rfl rfl ?_
  refine s_ildn (p' := 7) rfl rfl rfl ?_
  refine s_icmp (p' := 10) false rfl ((ch_gt (w := 2) (by decide +kernel)).trans (decide_eq_false (by rw [mI_ti (by omega)]; omega))) rfl ?_
  refine s_con (p' := 11) rfl rfl ?_
  refine s_goto (p' := 15) rfl rfl ?_
  refine c_iret rfl (by decide +kernel) ?_
  refine c_iret rfl (by decide +kernel) ?_
  refine s_if (p' := 9) false rfl (by decide +kernel) rfl ?_
  refine s_con (p' := 10) rfl rfl ?_
  refine s_goto (p' := 14) rfl rfl ?_
  refine c_call (p' := 17) (kc := 98) (ls0 := [_, _]) rfl rfl rfl rfl rfl (mj_rcv_is (rd_sn rfl H400)) rfl rfl rfl ?_
  refine s_aldn (p' := 1) rfl rfl rfl ?_
  refine s_ildn (p' := 2) rfl rfl rfl ?_
  refine s_pfz (p' := 5) (fs' := [_, _, _, _, _, _, _, _, _, _, _]) rfl rfl (rd_sn rfl H400) rfl rfl rfl rfl ?_
  refine s_ildn (p' := 6) rfl rfl rfl ?_
  refine s_if (p' := 13) true rfl (by decide +kernel) rfl ?_
  refine s_con (p' := 14) rfl rfl ?_
  refine c_iret rfl (by decide +kernel) ?_
  refine s_if (p' := 24) true rfl (by decide +kernel) rfl ?_
  refine s_aldn (p' := 25) rfl rfl rfl ?_
  refine s_gf (p' := 28) rfl (rd_ss rfl (rd_sn rfl H400)) rfl rfl ?_
  refine s_ildn (p' := 29) rfl rfl rfl ?_
  refine c_call (p' := 34) (kc := 98) (ls0 := [_, _]) rfl rfl rfl rfl rfl (mj_rcv_is (rd_sn rfl (rd_sn rfl H401))) rfl rfl rfl ?_
  refine s_ildn (p' := 1) rfl rfl rfl ?_
  refine s_aldn (p' := 2) rfl rfl rfl ?_
  refine s_gf (p' := 5) rfl (rd_sn rfl (rd_sn rfl H401)) rfl rfl ?_
  refine c_call (p' := 8) (kc := 97) (ls0 := [_, _]) rfl rfl rfl rfl rfl rfl rfl rfl rfl ?_
  refine s_ildn (p' := 1) rfl rfl rfl ?_
  refine s_ildn (p' := 2) rfl rfl rfl ?_
  refine s_sp (p' := 3) (ls' := _) rfl rfl rfl ?_
  refine c_call (p' := 6) (kc := 96) (ls0 := [_, _, _]) rfl rfl rfl rfl rfl rfl rfl rfl rfl ?_
  refine s_ildn (p' := 1) rfl rfl rfl ?_
  refine s_if (p' := 4) false rfl (by decide +kernel) rfl ?_
  refine s_ildn (p' := 5) rfl rfl rfl ?_
  refine s_ildn (p' := 6) rfl rfl rfl ?_
  refine s_icmp (p' := 16) true rfl ((ch_lt (w := 2) (by decide +kernel)).trans (decide_eq_true (by rw [mI_ti (by omega)]; omega))) rfl ?_
  refine s_ildn (p' := 17) rfl rfl rfl ?_
  refine c_iret rfl rfl ?_
  refine c_iret rfl rfl ?_
  refine s_sp (p' := 9) (ls' := _) rfl rfl rfl ?_
  refine s_aldn (p' := 10) rfl rfl rfl ?_
  refine s_ildn (p' := 11) rfl rfl rfl ?_
  refine c_call (p' := 14) (kc := 97) (ls0 := [_, _]) rfl rfl rfl rfl rfl (mj_rcv_is (rd_sn rfl (rd_sn rfl H401))) rfl rfl rfl ?_
  refine s_aldn (p' := 1) rfl rfl rfl ?_
  refine s_gf (p' := 4) rfl (rd_sn rfl (rd_sn rfl H401)) rfl rfl ?_
  refine s_ildn (p' := 5) rfl rfl rfl ?_
  refine s_aalz (p' := 6) (m := 2) (q := (some rp)) (v := .ref rp) rfl (mj_rdA_is (rd_sn (beq_eq_false_iff_ne.mpr (by omega)) (rd_sn (beq_eq_false_iff_ne.mpr (by omega)) HPE)) (by decide)) rfl (by decide +kernel) rfl hpe rfl rfl ?_
  refine c_aret rfl ?_
  refine c_aret rfl ?_
  refine s_cco (p' := 37) rfl (rd_sn (beq_eq_false_iff_ne.mpr (by omega)) (rd_sn (beq_eq_false_iff_ne.mpr (by omega)) Hrp)) rfl ?_
  refine s_gf (p' := 40) rfl (rd_sn (beq_eq_false_iff_ne.mpr (by omega)) (rd_sn (beq_eq_false_iff_ne.mpr (by omega)) Hrp)) rfl rfl ?_
  refine c_call (p' := 43) (kc := 98) (ls0 := [_]) rfl rfl rfl rfl rfl (mj_rcv_is (rd_sn (beq_eq_false_iff_ne.mpr (by omega)) (rd_sn (beq_eq_false_iff_ne.mpr (by omega)) Htx))) rfl rfl rfl ?_
  refine s_aldn (p' := 1) rfl rfl rfl ?_
  refine s_gf (p' := 4) rfl (rd_sn (beq_eq_false_iff_ne.mpr (by omega)) (rd_sn (beq_eq_false_iff_ne.mpr (by omega)) Htx)) rfl rfl ?_
  refine s_lenz (p' := 5) rfl (mj_rdA_is (rd_sn (beq_eq_false_iff_ne.mpr (by omega)) (rd_sn (beq_eq_false_iff_ne.mpr (by omega)) Htb)) (by decide)) rfl rfl ?_
  refine s_aldn (p' := 6) rfl rfl rfl ?_
  refine c_call (p' := 9) (kc := 97) (ls0 := [_]) rfl rfl rfl rfl rfl (mj_rcv_is (rd_sn (beq_eq_false_iff_ne.mpr (by omega)) (rd_sn (beq_eq_false_iff_ne.mpr (by omega)) Htx))) rfl rfl rfl ?_
  refine s_sh (p' := 3) (ls' := _) (st' := .int (nI 1) :: _) (h' := _) rfl rfl rfl rfl ?_
  refine s_if (p' := 6) false rfl (by decide +kernel) rfl ?_
  refine s_aldn (p' := 7) rfl rfl rfl ?_
  refine s_gf (p' := 10) rfl (rd_sn (beq_eq_false_iff_ne.mpr (by omega)) (rd_sn (beq_eq_false_iff_ne.mpr (by omega)) Htx)) rfl rfl ?_
  refine s_goto (p' := 14) rfl rfl ?_
  refine c_iret rfl (by decide +kernel) ?_
  refine s_bz (p' := 10) (z := (nI n)) rfl rfl rfl (mI_shr0 (by omega)) ?_
  refine c_iret rfl rfl ?_
  refine k_iret rfl rfl ?_
  refine l_ist (p' := 544) (ls' := [_, _, _, _, _, _, _, _, _, _]) rfl rfl rfl rfl rfl ?_
  refine l_aldn (p' := 545) rfl rfl rfl rfl ?_
  refine l_call (p' := 548) (kc := 99) (ls0 := [_]) rfl rfl rfl rfl rfl rfl (mj_rcv_is (rd_ss rfl (rd_sn rfl H400))) rfl rfl rfl ?_
  refine s_aldn (p' := 1) rfl rfl rfl ?_
  refine s_gf (p' := 4) rfl (rd_ss rfl (rd_sn rfl H400)) rfl rfl ?_
  refine k_iret rfl rfl ?_
  refine l_ild (p' := 550) rfl rfl rfl rfl ?_
  refine l_icmp (p' := 555) true rfl rfl (by decide +kernel) rfl ?_
  refine l_ild (p' := 557) rfl rfl rfl rfl ?_
  refine l_if (p' := 560) false rfl rfl (by decide +kernel) rfl ?_
  refine l_aldn (p' := 561) rfl rfl rfl rfl ?_
  refine l_con (p' := 562) rfl rfl rfl ?_
  refine l_lalz (p' := 563) (m := 0) (v := (Int32.toInt64 (nI n))) rfl rfl (rd_sn rfl (rd_ss rfl H412)) (by decide +kernel) rfl rfl rfl ?_
  refine l_ild (p' := 565) rfl rfl rfl rfl ?_
  refine l_bzL (p' := 566) (z := (Int32.toInt64 (nI n))) rfl rfl rfl rfl rfl rfl ?_
  refine l_bz (p' := 567) (z := nI 0) rfl rfl rfl rfl rfl (lcmp_self _) ?_
  refine l_if (p' := 572) true rfl rfl (by decide +kernel) rfl ?_
  refine l_goto (p' := 2541) rfl rfl rfl ?_
  refine l_incz (p' := 2544) (w := (nI (i + 4))) (ls' := [_, _, _, _, _, _, _, _, _, _]) rfl rfl rfl rfl (mI_add _ _) rfl rfl ?_
  refine l_goto (p' := 28) rfl rfl rfl ?_
  exact hn _ _ _ _ _ ⟨(rd_ss rfl (rd_sn rfl H400)), (rd_sn rfl (rd_ss rfl H412)), (mz_fr.s (by decide) (mz_fr.s (by decide) (mz_fr.rf _ h))), (Nat.le_trans (Nat.le_of_eq (len_s (len_s HL))) (by omega)), (Nat.le_trans (sz_s rfl (rd_sn rfl H400) rfl (sz_sA rfl H412 (Nat.le_refl (mj_sz h)))) (by omega))⟩
theorem w_8_2 {L i N : Nat} {xs : Nat → Int32} {h : mj_H} {l6 l7 l8 l9 : Option Value} {P : mj_H → Prop} (hL : L ≤ 2048) (hi : i + 4 ≤ L) (hN : N + 2000 < mj_CB) (hN0 : 414 ≤ N) (HL : h.length = N) (hk : xs i &&& nI 63 = nI 8) {gs pl ty wa nw nx dp ca mf : Value} {th : Int32} {sd be : Int64} {ou : Nat → Int64} {vf wf sf uf im jm : Nat → Int32} {k g : Nat} (hk20 : k ≤ 20) (hvw : ∀ j, j < 8 → wf j = vf j) (hsu : ∀ j, j < k → uf j = sf j) (him : ∀ j, j < 8 → jm j = im j) {pm ge gm : Value} {q : Nat} (hq6 : q ≤ 6) (hg24 : g ≤ 24) {txs : List Value} {PE rp ac tx tb n m : Nat} {pef : Nat → Option Nat} {tbf : Nat → Int32} {rrow ace acm : Value} (hpq : 2 < q) (hn : n ≤ 60) (hm : m ≤ 30) (hPE : 414 ≤ PE) (hrp : 414 ≤ rp) (hac : 414 ≤ ac) (htx : 414 ≤ tx) (htb : 414 ≤ tb) (hpe : pef 2 = some rp)  (hx1 : xs (i + 1) = nI 2) (H0 : mj_rd h 0 = some (.inr (0, [.ref 1, .ref 38, .ref 299, .ref 336, .ref 373, .ref 375, .ref 378, .ref 381, .ref 387, .ref 393, gs, pl, .ref 397, .ref 398, .ref 399, .long sd, .long be]))) (H38 : mj_rd h 38 = some (.inr (6, [.ref 39, .ref 40, .int (nI q)]))) (H39 : mj_rd h 39 = some (.inl (8, (6, .inr (.inr (.inr (.inr ((fun j => if j < 6 then some (77 + 37 * j) else none))))))))) (H151 : mj_rd h 151 = some (.inr (1, [.ref 152, .ref 154, .ref 187]))) (H154 : mj_rd h 154 = some (.inr (3, [.ref 155, .ref 156, .int (nI m)]))) (H400 : mj_rd h 400 = some (.inr (17, [.int th, .ref 401, .ref 402, ty, .long sd, .long be, .ref 410, wa, nw, nx, .ref 411]))) (H401 : mj_rd h 401 = some (.inr (18, [.ref PE, .int (nI q), pm]))) (H412 : mj_rd h 412 = some (.inl (4, (1, .inr (.inl (ou)))))) (HPE : mj_rd h PE = some (.inl (6, (10, .inr (.inr (.inr (.inr (pef)))))))) (Hrp : mj_rd h rp = some (.inr (26, [rrow, .ref tx, .ref ac]))) (Hac : mj_rd h ac = some (.inr (18, [ace, .int (nI m), acm]))) (hn : ∀ (l6 l7 l8 l9 : Option Value) (h' : mj_H), mj_rd h' 400 = some (.inr (17, [.int (nI 0), .ref 401, .ref 402, ty, .long sd, .long be, .ref 410, wa, nw, nx, .ref 411])) ∧ mj_rd h' 412 = some (.inl (4, (1, .inr (.inl ((vp_updL ou 0 (Int32.toInt64 (nI m)))))))) ∧ mz_fr [400, 412] h h' ∧ h'.length ≤ N + 0 ∧ mj_sz h' ≤ mj_sz h + 0 → mj_lrun L xs (28, [some (.retAddr 1), some (.ref 0), some (.ref 400), some (.ref 412), some (.ref 413), some (.int (nI (i + 4))), l6, l7, l8, l9], [], h') P) : mj_lrun L xs (28, [some (.retAddr 1), some (.ref 0), some (.ref 400), some (.ref 412), some (.ref 413), some (.int (nI i)), l6, l7, l8, l9], [], h) P := by
  refine l_ild (p' := 30) rfl rfl rfl rfl ?_
  refine l_alds (p' := 31) rfl rfl rfl rfl ?_
  refine l_lens (p' := 32) rfl rfl rfl ?_
  refine l_con (p' := 33) rfl rfl rfl ?_
  refine l_bz (p' := 34) (z := (nI (L - 4))) rfl rfl rfl rfl rfl (mI_sub (by omega)) ?_
  refine l_icmp (p' := 37) false rfl rfl ((ci_gt (by omega) (by omega)).trans (decide_eq_false (by omega))) rfl ?_
  refine l_alds (p' := 38) rfl rfl rfl rfl ?_
  refine l_ild (p' := 40) rfl rfl rfl rfl ?_
  refine l_ialz (p' := 41) (m := i) (z := (xs i)) rfl rfl (inb_nI (by omega) (by omega)) (mI_cl (by omega)) rfl rfl ?_
  refine l_bip (p' := 43) rfl rfl rfl ?_
  refine l_bz (p' := 44) (z := (nI 8)) rfl rfl rfl rfl rfl hk ?_
  refine l_sp (p' := 643) (ls' := _) rfl rfl rfl rfl rfl ?_
  refine l_aldn (p' := 644) rfl rfl rfl rfl ?_
  refine l_alds (p' := 645) rfl rfl rfl rfl ?_
  refine l_ild (p' := 647) rfl rfl rfl rfl ?_
  refine l_con (p' := 648) rfl rfl rfl ?_
  refine l_bz (p' := 649) (z := (nI (i + 1))) rfl rfl rfl rfl rfl (mI_add _ _) ?_
  refine l_ialz (p' := 650) (m := (i + 1)) (z := (nI 2)) rfl rfl (inb_nI (by omega) (by omega)) (mI_cl (by omega)) hx1 rfl ?_
  refine l_aldn (p' := 651) rfl rfl rfl rfl ?_
  refine l_call (p' := 654) (kc := 99) (ls0 := [_, _, _, _]) rfl rfl rfl rfl rfl rfl rfl rfl rfl rfl ?_
  refine s_aldn (p' := 1) rfl rfl rfl ?_
  refine s_con (p' := 2) rfl rfl ?_
  refine s_aldn (p' := 3) rfl rfl rfl ?_
  refine s_ildn (p' := 4) rfl rfl rfl ?_
  refine c_call (p' := 7) (kc := 98) (ls0 := [_, _]) rfl rfl rfl rfl rfl (mj_rcv_is H0) rfl rfl rfl ?_
  refine s_aldn (p' := 1) rfl rfl rfl ?_
  refine s_gf (p' := 4) rfl H0 rfl rfl ?_
  refine s_ildn (p' := 5) rfl rfl rfl ?_
  refine c_call (p' := 8) (kc := 97) (ls0 := [_, _]) rfl rfl rfl rfl rfl (mj_rcv_is H38) rfl rfl rfl ?_
  refine s_ildn (p' := 1) rfl rfl rfl ?_
  refine s_if (p' := 4) false rfl (by decide +kernel) rfl ?_
  refine s_ildn (p' := 5) rfl rfl rfl ?_
  refine s_aldn (p' := 6) rfl rfl rfl ?_
  refine s_gf (p' := 9) rfl H38 rfl rfl ?_
  refine s_icmp (p' := 12) false rfl ((ch_ge (w := 2) (by decide +kernel)).trans (decide_eq_false (by rw [mI_ti (by omega)]; omega))) rfl ?_
  refine s_con (p' := 13) rfl rfl ?_
  refine s_goto (p' := 17) rfl rfl ?_
  refine c_iret rfl (by decide +kernel) ?_
  refine s_if (p' := 21) true rfl (by decide +kernel) rfl ?_
  refine s_aldn (p' := 22) rfl rfl rfl ?_
  refine s_gf (p' := 25) rfl H0 rfl rfl ?_
  refine s_ildn (p' := 26) rfl rfl rfl ?_
  refine c_call (p' := 29) (kc := 97) (ls0 := [_, _]) rfl rfl rfl rfl rfl (mj_rcv_is H38) rfl rfl rfl ?_
  refine s_ildn (p' := 1) rfl rfl rfl ?_
  refine s_if (p' := 4) false rfl (by decide +kernel) rfl ?_
  refine s_ildn (p' := 5) rfl rfl rfl ?_
  refine s_aldn (p' := 6) rfl rfl rfl ?_
  refine s_gf (p' := 9) rfl H38 rfl rfl ?_
  refine s_icmp (p' := 12) false rfl ((ch_ge (w := 2) (by decide +kernel)).trans (decide_eq_false (by rw [mI_ti (by omega)]; omega))) rfl ?_
  refine s_ildn (p' := 13) rfl rfl rfl ?_
  refine s_aldn (p' := 14) rfl rfl rfl ?_
  refine s_gf (p' := 17) rfl H38 rfl rfl ?_
  refine s_lenz (p' := 18) rfl (mj_rdA_is H39 (by decide)) rfl rfl ?_
  refine s_icmp (p' := 21) false rfl (by decide +kernel) rfl ?_
  refine s_aldn (p' := 22) rfl rfl rfl ?_
  refine s_gf (p' := 25) rfl H38 rfl rfl ?_
  refine s_ildn (p' := 26) rfl rfl rfl ?_
  refine s_aalz (p' := 27) (m := 2) (q := (some 151)) (v := .ref 151) rfl (mj_rdA_is H39 (by decide)) rfl (by decide +kernel) rfl rfl rfl rfl ?_
  refine s_gf (p' := 30) rfl H151 rfl rfl ?_
  refine s_goto (p' := 40) rfl rfl ?_
  refine c_aret rfl ?_
  refine c_call (p' := 32) (kc := 97) (ls0 := [_]) rfl rfl rfl rfl rfl (mj_rcv_is H154) rfl rfl rfl ?_
  refine s_aldn (p' := 1) rfl rfl rfl ?_
  refine s_gf (p' := 4) rfl H154 rfl rfl ?_
  refine c_iret rfl rfl ?_
  refine c_iret rfl rfl ?_
  refine s_bzL (p' := 8) (z := (Int32.toInt64 (nI m))) rfl rfl rfl rfl ?_
  refine s_lasz (p' := 9) (m := 0) rfl rfl H412 (by decide +kernel) rfl rfl rfl ?_
  refine s_goto (p' := 15) rfl rfl ?_
  refine s_con (p' := 16) rfl rfl ?_
  refine k_iret rfl rfl ?_
  refine l_ist (p' := 656) (ls' := [_, _, _, _, _, _, _, _, _, _]) rfl rfl rfl rfl rfl ?_
  refine l_aldn (p' := 657) rfl rfl rfl rfl ?_
  refine l_alds (p' := 658) rfl rfl rfl rfl ?_
  refine l_ild (p' := 660) rfl rfl rfl rfl ?_
  refine l_con (p' := 661) rfl rfl rfl ?_
  refine l_bz (p' := 662) (z := (nI (i + 1))) rfl rfl rfl rfl rfl (mI_add _ _) ?_
  refine l_ialz (p' := 663) (m := (i + 1)) (z := (nI 2)) rfl rfl (inb_nI (by omega) (by omega)) (mI_cl (by omega)) hx1 rfl ?_
  refine l_call (p' := 666) (kc := 99) (ls0 := [_, _]) rfl rfl rfl rfl rfl rfl (mj_rcv_is (rd_sn rfl H400)) rfl rfl rfl ?_
  refine s_aldn (p' := 1) rfl rfl rfl ?_
  refine s_aldn (p' := 2) rfl rfl rfl ?_
  refine s_ildn (p' := 3) rfl rfl rfl ?_
  refine c_call (p' := 6) (kc := 98) (ls0 := [_, _]) rfl rfl rfl rfl rfl (mj_rcv_is (rd_sn rfl H400)) rfl rfl rfl ?_
  refine s_ildn (p' := 1) rfl rfl rfl ?_
  refine s_con (p' := 2) rfl rfl ?_
  refine s_aldn (p' := 3) rfl rfl rfl ?_
  refine s_gf (p' := 6) rfl (rd_sn rfl H400) rfl rfl ?_
  refine c_call (p' := 11) (kc := 97) (ls0 := [_]) rfl rfl rfl rfl rfl (mj_rcv_is (rd_sn rfl H401)) rfl rfl rfl ?_
  refine s_aldn (p' := 1) rfl rfl rfl ?_
  refine s_gf (p' := 4) rfl (rd_sn rfl H401) rfl rfl ?_
  refine c_iret rfl rfl ?_
  refine s_con (p' := 12) rfl rfl ?_
  refine s_bz (p' := 13) (z := (nI (q - 1))) rfl rfl rfl (mI_sub (by omega)) ?_
  refine c_call (p' := 16) (kc := 97) (ls0 := [_, _, _]) rfl rfl rfl rfl rfl rfl rfl rfl rfl ?_
  refine s_ildn (p' := 1) rfl rfl rfl ?_
  refine s_ildn (p' := 2) rfl rfl rfl ?_
  refine s_icmp (p' := 5) false rfl (by decide +kernel) rfl ?_
  refine s_ildn (p' := 6) rfl rfl rfl ?_
  refine s_ildn (p' := 7) rfl rfl rfl ?_
  refine s_icmp (p' := 10) false rfl ((ch_gt (w := 2) (by decide +kernel)).trans (decide_eq_false (by rw [mI_ti (by omega)]; omega))) rfl ?_
  refine s_con (p' := 11) rfl rfl ?_
  refine s_goto (p' := 15) rfl rfl ?_
  refine c_iret rfl (by decide +kernel) ?_
  refine c_iret rfl (by decide +kernel) ?_
  refine s_if (p' := 9) false rfl (by decide +kernel) rfl ?_
  refine s_con (p' := 10) rfl rfl ?_
  refine s_goto (p' := 14) rfl rfl ?_
  refine c_call (p' := 17) (kc := 98) (ls0 := [_, _]) rfl rfl rfl rfl rfl (mj_rcv_is (rd_sn rfl H400)) rfl rfl rfl ?_
  refine s_aldn (p' := 1) rfl rfl rfl ?_
  refine s_ildn (p' := 2) rfl rfl rfl ?_
  refine s_pfz (p' := 5) (fs' := [_, _, _, _, _, _, _, _, _, _, _]) rfl rfl (rd_sn rfl H400) rfl rfl rfl rfl ?_
  refine s_ildn (p' := 6) rfl rfl rfl ?_
  refine s_if (p' := 13) true rfl (by decide +kernel) rfl ?_
  refine s_con (p' := 14) rfl rfl ?_
  refine c_iret rfl (by decide +kernel) ?_
  refine s_if (p' := 24) true rfl (by decide +kernel) rfl ?_
  refine s_aldn (p' := 25) rfl rfl rfl ?_
  refine s_gf (p' := 28) rfl (rd_ss rfl (rd_sn rfl H400)) rfl rfl ?_
  refine s_ildn (p' := 29) rfl rfl rfl ?_
  refine c_call (p' := 34) (kc := 98) (ls0 := [_, _]) rfl rfl rfl rfl rfl (mj_rcv_is (rd_sn rfl (rd_sn rfl H401))) rfl rfl rfl ?_
  refine s_ildn (p' := 1) rfl rfl rfl ?_
  refine s_aldn (p' := 2) rfl rfl rfl ?_
  refine s_gf (p' := 5) rfl (rd_sn rfl (rd_sn rfl H401)) rfl rfl ?_
  refine c_call (p' := 8) (kc := 97) (ls0 := [_, _]) rfl rfl rfl rfl rfl rfl rfl rfl rfl ?_
  refine s_ildn (p' := 1) rfl rfl rfl ?_
  refine s_ildn (p' := 2) rfl rfl rfl ?_
  refine s_sp (p' := 3) (ls' := _) rfl rfl rfl ?_
  refine c_call (p' := 6) (kc := 96) (ls0 := [_, _, _]) rfl rfl rfl rfl rfl rfl rfl rfl rfl ?_
  refine s_ildn (p' := 1) rfl rfl rfl ?_
  refine s_if (p' := 4) false rfl (by decide +kernel) rfl ?_
  refine s_ildn (p' := 5) rfl rfl rfl ?_
  refine s_ildn (p' := 6) rfl rfl rfl ?_
  refine s_icmp (p' := 16) true rfl ((ch_lt (w := 2) (by decide +kernel)).trans (decide_eq_true (by rw [mI_ti (by omega)]; omega))) rfl ?_
  refine s_ildn (p' := 17) rfl rfl rfl ?_
  refine c_iret rfl rfl ?_
  refine c_iret rfl rfl ?_
  refine s_sp (p' := 9) (ls' := _) rfl rfl rfl ?_
  refine s_aldn (p' := 10) rfl rfl rfl ?_
  refine s_ildn (p' := 11) rfl rfl rfl ?_
  refine c_call (p' := 14) (kc := 97) (ls0 := [_, _]) rfl rfl rfl rfl rfl (mj_rcv_is (rd_sn rfl (rd_sn rfl H401))) rfl rfl rfl ?_
  refine s_aldn (p' := 1) rfl rfl rfl ?_
  refine s_gf (p' := 4) rfl (rd_sn rfl (rd_sn rfl H401)) rfl rfl ?_
  refine s_ildn (p' := 5) rfl rfl rfl ?_
  refine s_aalz (p' := 6) (m := 2) (q := (some rp)) (v := .ref rp) rfl (mj_rdA_is (rd_sn (beq_eq_false_iff_ne.mpr (by omega)) (rd_sn (beq_eq_false_iff_ne.mpr (by omega)) HPE)) (by decide)) rfl (by decide +kernel) rfl hpe rfl rfl ?_
  refine c_aret rfl ?_
  refine c_aret rfl ?_
  refine s_cco (p' := 37) rfl (rd_sn (beq_eq_false_iff_ne.mpr (by omega)) (rd_sn (beq_eq_false_iff_ne.mpr (by omega)) Hrp)) rfl ?_
  refine s_gf (p' := 40) rfl (rd_sn (beq_eq_false_iff_ne.mpr (by omega)) (rd_sn (beq_eq_false_iff_ne.mpr (by omega)) Hrp)) rfl rfl ?_
  refine c_call (p' := 45) (kc := 98) (ls0 := [_]) rfl rfl rfl rfl rfl (mj_rcv_is (rd_sn (beq_eq_false_iff_ne.mpr (by omega)) (rd_sn (beq_eq_false_iff_ne.mpr (by omega)) Hac))) rfl rfl rfl ?_
  refine s_aldn (p' := 1) rfl rfl rfl ?_
  refine s_gf (p' := 4) rfl (rd_sn (beq_eq_false_iff_ne.mpr (by omega)) (rd_sn (beq_eq_false_iff_ne.mpr (by omega)) Hac)) rfl rfl ?_
  refine c_iret rfl rfl ?_
  refine k_iret rfl rfl ?_
  refine l_ist (p' := 668) (ls' := [_, _, _, _, _, _, _, _, _, _]) rfl rfl rfl rfl rfl ?_
  refine l_aldn (p' := 669) rfl rfl rfl rfl ?_
  refine l_call (p' := 672) (kc := 99) (ls0 := [_]) rfl rfl rfl rfl rfl rfl (mj_rcv_is (rd_ss rfl (rd_sn rfl H400))) rfl rfl rfl ?_
  refine s_aldn (p' := 1) rfl rfl rfl ?_
  refine s_gf (p' := 4) rfl (rd_ss rfl (rd_sn rfl H400)) rfl rfl ?_
  refine k_iret rfl rfl ?_
  refine l_ild (p' := 674) rfl rfl rfl rfl ?_
  refine l_icmp (p' := 679) true rfl rfl (by decide +kernel) rfl ?_
  refine l_ild (p' := 681) rfl rfl rfl rfl ?_
  refine l_if (p' := 684) false rfl rfl (by decide +kernel) rfl ?_
  refine l_aldn (p' := 685) rfl rfl rfl rfl ?_
  refine l_con (p' := 686) rfl rfl rfl ?_
  refine l_lalz (p' := 687) (m := 0) (v := (Int32.toInt64 (nI m))) rfl rfl (rd_sn rfl (rd_ss rfl H412)) (by decide +kernel) rfl rfl rfl ?_
  refine l_ild (p' := 689) rfl rfl rfl rfl ?_
  refine l_bzL (p' := 690) (z := (Int32.toInt64 (nI m))) rfl rfl rfl rfl rfl rfl ?_
  refine l_bz (p' := 691) (z := nI 0) rfl rfl rfl rfl rfl (lcmp_self _) ?_
  refine l_if (p' := 696) true rfl rfl (by decide +kernel) rfl ?_
  refine l_goto (p' := 2541) rfl rfl rfl ?_
  refine l_incz (p' := 2544) (w := (nI (i + 4))) (ls' := [_, _, _, _, _, _, _, _, _, _]) rfl rfl rfl rfl (mI_add _ _) rfl rfl ?_
  refine l_goto (p' := 28) rfl rfl rfl ?_
  exact hn _ _ _ _ _ ⟨(rd_ss rfl (rd_sn rfl H400)), (rd_sn rfl (rd_ss rfl H412)), (mz_fr.s (by decide) (mz_fr.s (by decide) (mz_fr.rf _ h))), (Nat.le_trans (Nat.le_of_eq (len_s (len_s HL))) (by omega)), (Nat.le_trans (sz_s rfl (rd_sn rfl H400) rfl (sz_sA rfl H412 (Nat.le_refl (mj_sz h)))) (by omega))⟩
theorem w_6_3 {L i N : Nat} {xs : Nat → Int32} {h : mj_H} {l6 l7 l8 l9 : Option Value} {P : mj_H → Prop} (hL : L ≤ 2048) (hi : i + 4 ≤ L) (hN : N + 2000 < mj_CB) (hN0 : 414 ≤ N) (HL : h.length = N) (hk : xs i &&& nI 63 = nI 6) {gs pl ty wa nw nx dp ca mf : Value} {th : Int32} {sd be : Int64} {ou : Nat → Int64} {vf wf sf uf im jm : Nat → Int32} {k g : Nat} (hk20 : k ≤ 20) (hvw : ∀ j, j < 8 → wf j = vf j) (hsu : ∀ j, j < k → uf j = sf j) (him : ∀ j, j < 8 → jm j = im j) {pm ge gm : Value} {q : Nat} (hq6 : q ≤ 6) (hg24 : g ≤ 24) {txs : List Value} {PE rp ac tx tb n m : Nat} {pef : Nat → Option Nat} {tbf : Nat → Int32} {rrow ace acm : Value} (hpq : 3 < q) (hn : n ≤ 60) (hm : m ≤ 30) (hPE : 414 ≤ PE) (hrp : 414 ≤ rp) (hac : 414 ≤ ac) (htx : 414 ≤ tx) (htb : 414 ≤ tb) (hpe : pef 3 = some rp)  (hx1 : xs (i + 1) = nI 3) (H0 : mj_rd h 0 = some (.inr (0, [.ref 1, .ref 38, .ref 299, .ref 336, .ref 373, .ref 375, .ref 378, .ref 381, .ref 387, .ref 393, gs, pl, .ref 397, .ref 398, .ref 399, .long sd, .long be]))) (H38 : mj_rd h 38 = some (.inr (6, [.ref 39, .ref 40, .int (nI q)]))) (H39 : mj_rd h 39 = some (.inl (8, (6, .inr (.inr (.inr (.inr ((fun j => if j < 6 then some (77 + 37 * j) else none))))))))) (H188 : mj_rd h 188 = some (.inr (1, [.ref 189, .ref 191, .ref 224]))) (H189 : mj_rd h 189 = some (.inr (2, [.ref 190, .int (nI n)]))) (H400 : mj_rd h 400 = some (.inr (17, [.int th, .ref 401, .ref 402, ty, .long sd, .long be, .ref 410, wa, nw, nx, .ref 411]))) (H401 : mj_rd h 401 = some (.inr (18, [.ref PE, .int (nI q), pm]))) (H412 : mj_rd h 412 = some (.inl (4, (1, .inr (.inl (ou)))))) (HPE : mj_rd h PE = some (.inl (6, (10, .inr (.inr (.inr (.inr (pef)))))))) (Hrp : mj_rd h rp = some (.inr (26, [rrow, .ref tx, .ref ac]))) (Htx : mj_rd h tx = some (.inr (21, .ref tb :: .int (nI 0) :: txs))) (Htb : mj_rd h tb = some (.inl (1, (n, .inl (tbf))))) (hn : ∀ (l6 l7 l8 l9 : Option Value) (h' : mj_H), mj_rd h' 400 = some (.inr (17, [.int (nI 0), .ref 401, .ref 402, ty, .long sd, .long be, .ref 410, wa, nw, nx, .ref 411])) ∧ mj_rd h' 412 = some (.inl (4, (1, .inr (.inl ((vp_updL ou 0 (Int32.toInt64 (nI n)))))))) ∧ mz_fr [400, 412] h h' ∧ h'.length ≤ N + 0 ∧ mj_sz h' ≤ mj_sz h + 0 → mj_lrun L xs (28, [some (.retAddr 1), some (.ref 0), some (.ref 400), some (.ref 412), some (.ref 413), some (.int (nI (i + 4))), l6, l7, l8, l9], [], h') P) : mj_lrun L xs (28, [some (.retAddr 1), some (.ref 0), some (.ref 400), some (.ref 412), some (.ref 413), some (.int (nI i)), l6, l7, l8, l9], [], h) P := by
  refine l_ild (p' := 30) rfl rfl rfl rfl ?_
  refine l_alds (p' := 31) rfl rfl rfl rfl ?_
  refine l_lens (p' := 32) rfl rfl rfl ?_
  refine l_con (p' := 33) rfl rfl rfl ?_
  refine l_bz (p' := 34) (z := (nI (L - 4))) rfl rfl rfl rfl rfl (mI_sub (by omega)) ?_
  refine l_icmp (p' := 37) false rfl rfl ((ci_gt (by omega) (by omega)).trans (decide_eq_false (by omega))) rfl ?_
  refine l_alds (p' := 38) rfl rfl rfl rfl ?_
  refine l_ild (p' := 40) rfl rfl rfl rfl ?_
  refine l_ialz (p' := 41) (m := i) (z := (xs i)) rfl rfl (inb_nI (by omega) (by omega)) (mI_cl (by omega)) rfl rfl ?_
  refine l_bip (p' := 43) rfl rfl rfl ?_
  refine l_bz (p' := 44) (z := (nI 6)) rfl rfl rfl rfl rfl hk ?_
  refine l_sp (p' := 519) (ls' := _) rfl rfl rfl rfl rfl ?_
  refine l_aldn (p' := 520) rfl rfl rfl rfl ?_
  refine l_alds (p' := 521) rfl rfl rfl rfl ?_
  refine l_ild (p' := 523) rfl rfl rfl rfl ?_
  refine l_con (p' := 524) rfl rfl rfl ?_
  refine l_bz (p' := 525) (z := (nI (i + 1))) rfl rfl rfl rfl rfl (mI_add _ _) ?_
  refine l_ialz (p' := 526) (m := (i + 1)) (z := (nI 3)) rfl rfl (inb_nI (by omega) (by omega)) (mI_cl (by omega)) hx1 rfl ?_
  refine l_aldn (p' := 527) rfl rfl rfl rfl ?_
  refine l_call (p' := 530) (kc := 99) (ls0 := [_, _, _, _]) rfl rfl rfl rfl rfl rfl rfl rfl rfl rfl ?_
  refine s_aldn (p' := 1) rfl rfl rfl ?_
  refine s_con (p' := 2) rfl rfl ?_
  refine s_aldn (p' := 3) rfl rfl rfl ?_
  refine s_ildn (p' := 4) rfl rfl rfl ?_
  refine c_call (p' := 7) (kc := 98) (ls0 := [_, _]) rfl rfl rfl rfl rfl (mj_rcv_is H0) rfl rfl rfl ?_
  refine s_aldn (p' := 1) rfl rfl rfl ?_
  refine s_gf (p' := 4) rfl H0 rfl rfl ?_
  refine s_ildn (p' := 5) rfl rfl rfl ?_
  refine c_call (p' := 8) (kc := 97) (ls0 := [_, _]) rfl rfl rfl rfl rfl (mj_rcv_is H38) rfl rfl rfl ?_
  refine s_ildn (p' := 1) rfl rfl rfl ?_
  refine s_if (p' := 4) false rfl (by decide +kernel) rfl ?_
  refine s_ildn (p' := 5) rfl rfl rfl ?_
  refine s_aldn (p' := 6) rfl rfl rfl ?_
  refine s_gf (p' := 9) rfl H38 rfl rfl ?_
  refine s_icmp (p' := 12) false rfl ((ch_ge (w := 3) (by decide +kernel)).trans (decide_eq_false (by rw [mI_ti (by omega)]; omega))) rfl ?_
  refine s_con (p' := 13) rfl rfl ?_
  refine s_goto (p' := 17) rfl rfl ?_
  refine c_iret rfl (by decide +kernel) ?_
  refine s_if (p' := 21) true rfl (by decide +kernel) rfl ?_
  refine s_aldn (p' := 22) rfl rfl rfl ?_
  refine s_gf (p' := 25) rfl H0 rfl rfl ?_
  refine s_ildn (p' := 26) rfl rfl rfl ?_
  refine c_call (p' := 29) (kc := 97) (ls0 := [_, _]) rfl rfl rfl rfl rfl (mj_rcv_is H38) rfl rfl rfl ?_
  refine s_aldn (p' := 1) rfl rfl rfl ?_
  refine s_ildn (p' := 2) rfl rfl rfl ?_
  refine c_call (p' := 5) (kc := 96) (ls0 := [_, _]) rfl rfl rfl rfl rfl (mj_rcv_is H38) rfl rfl rfl ?_
  refine s_ildn (p' := 1) rfl rfl rfl ?_
  refine s_if (p' := 4) false rfl (by decide +kernel) rfl ?_
  refine s_ildn (p' := 5) rfl rfl rfl ?_
  refine s_aldn (p' := 6) rfl rfl rfl ?_
  refine s_gf (p' := 9) rfl H38 rfl rfl ?_
  refine s_icmp (p' := 12) false rfl ((ch_ge (w := 3) (by decide +kernel)).trans (decide_eq_false (by rw [mI_ti (by omega)]; omega))) rfl ?_
  refine s_con (p' := 13) rfl rfl ?_
  refine s_goto (p' := 17) rfl rfl ?_
  refine c_iret rfl (by decide +kernel) ?_
  refine s_if (p' := 8) false rfl (by decide +kernel) rfl ?_
  refine s_ildn (p' := 9) rfl rfl rfl ?_
  refine s_aldn (p' := 10) rfl rfl rfl ?_
  refine s_gf (p' := 13) rfl H38 rfl rfl ?_
  refine s_lenz (p' := 14) rfl (mj_rdA_is H39 (by decide)) rfl rfl ?_
  refine s_icmp (p' := 17) false rfl (by decide +kernel) rfl ?_
  refine s_aldn (p' := 18) rfl rfl rfl ?_
  refine s_gf (p' := 21) rfl H38 rfl rfl ?_
  refine s_ildn (p' := 22) rfl rfl rfl ?_
  refine s_aalz (p' := 23) (m := 3) (q := (some 188)) (v := .ref 188) rfl (mj_rdA_is H39 (by decide)) rfl (by decide +kernel) rfl rfl rfl rfl ?_
  refine s_goto (p' := 30) rfl rfl ?_
  refine c_aret rfl ?_
  refine s_gf (p' := 32) rfl H188 rfl rfl ?_
  refine c_call (p' := 35) (kc := 97) (ls0 := [_]) rfl rfl rfl rfl rfl (mj_rcv_is H189) rfl rfl rfl ?_
  refine s_aldn (p' := 1) rfl rfl rfl ?_
  refine s_gf (p' := 4) rfl H189 rfl rfl ?_
  refine c_iret rfl rfl ?_
  refine c_iret rfl rfl ?_
  refine s_bzL (p' := 8) (z := (Int32.toInt64 (nI n))) rfl rfl rfl rfl ?_
  refine s_lasz (p' := 9) (m := 0) rfl rfl H412 (by decide +kernel) rfl rfl rfl ?_
  refine s_goto (p' := 15) rfl rfl ?_
  refine s_con (p' := 16) rfl rfl ?_
  refine k_iret rfl rfl ?_
  refine l_ist (p' := 532) (ls' := [_, _, _, _, _, _, _, _, _, _]) rfl rfl rfl rfl rfl ?_
  refine l_aldn (p' := 533) rfl rfl rfl rfl ?_
  refine l_alds (p' := 534) rfl rfl rfl rfl ?_
  refine l_ild (p' := 536) rfl rfl rfl rfl ?_
  refine l_con (p' := 537) rfl rfl rfl ?_
  refine l_bz (p' := 538) (z := (nI (i + 1))) rfl rfl rfl rfl rfl (mI_add _ _) ?_
  refine l_ialz (p' := 539) (m := (i + 1)) (z := (nI 3)) rfl rfl (inb_nI (by omega) (by omega)) (mI_cl (by omega)) hx1 rfl ?_
  refine l_call (p' := 542) (kc := 99) (ls0 := [_, _]) rfl rfl rfl rfl rfl rfl (mj_rcv_is (rd_sn rfl H400)) rfl rfl rfl ?_
  refine s_aldn (p' := 1) rfl rfl rfl ?_
  refine s_aldn (p' := 2) rfl rfl rfl ?_
  refine s_ildn (p' := 3) rfl rfl rfl ?_
  refine c_call (p' := 6) (kc := 98) (ls0 := [_, _]) rfl rfl rfl rfl rfl (mj_rcv_is (rd_sn rfl H400)) rfl rfl rfl ?_
  refine s_ildn (p' := 1) rfl rfl rfl ?_
  refine s_con (p' := 2) rfl rfl ?_
  refine s_aldn (p' := 3) rfl rfl rfl ?_
  refine s_gf (p' := 6) rfl (rd_sn rfl H400) rfl rfl ?_
  refine c_call (p' := 11) (kc := 97) (ls0 := [_]) rfl rfl rfl rfl rfl (mj_rcv_is (rd_sn rfl H401)) rfl rfl rfl ?_
  refine s_aldn (p' := 1) rfl rfl rfl ?_
  refine s_gf (p' := 4) rfl (rd_sn rfl H401) rfl rfl ?_
  refine c_iret rfl rfl ?_
  refine s_con (p' := 12) rfl rfl ?_
  refine s_bz (p' := 13) (z := (nI (q - 1))) rfl rfl rfl (mI_sub (by omega)) ?_
  refine c_call (p' := 16) (kc := 97) (ls0 := [_, _, _]) rfl rfl rfl rfl rfl rfl rfl rfl rfl ?_
  refine s_ildn (p' := 1) rfl rfl rfl ?_
  refine s_ildn (p' := 2) rfl rfl rfl ?_
  refine s_icmp (p' := 5) false rfl (by decide +kernel) rfl ?_
  refine s_ildn (p' := 6) rfl rfl rfl ?_
  refine s_ildn (p' := 7) rfl rfl rfl ?_
  refine s_icmp (p' := 10) false rfl ((ch_gt (w := 3) (by decide +kernel)).trans (decide_eq_false (by rw [mI_ti (by omega)]; omega))) rfl ?_
  refine s_con (p' := 11) rfl rfl ?_
  refine s_goto (p' := 15) rfl rfl ?_
  refine c_iret rfl (by decide +kernel) ?_
  refine c_iret rfl (by decide +kernel) ?_
  refine s_if (p' := 9) false rfl (by decide +kernel) rfl ?_
  refine s_con (p' := 10) rfl rfl ?_
  refine s_goto (p' := 14) rfl rfl ?_
  refine c_call (p' := 17) (kc := 98) (ls0 := [_, _]) rfl rfl rfl rfl rfl (mj_rcv_is (rd_sn rfl H400)) rfl rfl rfl ?_
  refine s_aldn (p' := 1) rfl rfl rfl ?_
  refine s_ildn (p' := 2) rfl rfl rfl ?_
  refine s_pfz (p' := 5) (fs' := [_, _, _, _, _, _, _, _, _, _, _]) rfl rfl (rd_sn rfl H400) rfl rfl rfl rfl ?_
  refine s_ildn (p' := 6) rfl rfl rfl ?_
  refine s_if (p' := 13) true rfl (by decide +kernel) rfl ?_
  refine s_con (p' := 14) rfl rfl ?_
  refine c_iret rfl (by decide +kernel) ?_
  refine s_if (p' := 24) true rfl (by decide +kernel) rfl ?_
  refine s_aldn (p' := 25) rfl rfl rfl ?_
  refine s_gf (p' := 28) rfl (rd_ss rfl (rd_sn rfl H400)) rfl rfl ?_
  refine s_ildn (p' := 29) rfl rfl rfl ?_
  refine c_call (p' := 34) (kc := 98) (ls0 := [_, _]) rfl rfl rfl rfl rfl (mj_rcv_is (rd_sn rfl (rd_sn rfl H401))) rfl rfl rfl ?_
  refine s_ildn (p' := 1) rfl rfl rfl ?_
  refine s_aldn (p' := 2) rfl rfl rfl ?_
  refine s_gf (p' := 5) rfl (rd_sn rfl (rd_sn rfl H401)) rfl rfl ?_
  refine c_call (p' := 8) (kc := 97) (ls0 := [_, _]) rfl rfl rfl rfl rfl rfl rfl rfl rfl ?_
  refine s_ildn (p' := 1) rfl rfl rfl ?_
  refine s_ildn (p' := 2) rfl rfl rfl ?_
  refine s_sp (p' := 3) (ls' := _) rfl rfl rfl ?_
  refine c_call (p' := 6) (kc := 96) (ls0 := [_, _, _]) rfl rfl rfl rfl rfl rfl rfl rfl rfl ?_
  refine s_ildn (p' := 1) rfl rfl rfl ?_
  refine s_if (p' := 4) false rfl (by decide +kernel) rfl ?_
  refine s_ildn (p' := 5) rfl rfl rfl ?_
  refine s_ildn (p' := 6) rfl rfl rfl ?_
  refine s_icmp (p' := 16) true rfl ((ch_lt (w := 3) (by decide +kernel)).trans (decide_eq_true (by rw [mI_ti (by omega)]; omega))) rfl ?_
  refine s_ildn (p' := 17) rfl rfl rfl ?_
  refine c_iret rfl rfl ?_
  refine c_iret rfl rfl ?_
  refine s_sp (p' := 9) (ls' := _) rfl rfl rfl ?_
  refine s_aldn (p' := 10) rfl rfl rfl ?_
  refine s_ildn (p' := 11) rfl rfl rfl ?_
  refine c_call (p' := 14) (kc := 97) (ls0 := [_, _]) rfl rfl rfl rfl rfl (mj_rcv_is (rd_sn rfl (rd_sn rfl H401))) rfl rfl rfl ?_
  refine s_aldn (p' := 1) rfl rfl rfl ?_
  refine s_gf (p' := 4) rfl (rd_sn rfl (rd_sn rfl H401)) rfl rfl ?_
  refine s_ildn (p' := 5) rfl rfl rfl ?_
  refine s_aalz (p' := 6) (m := 3) (q := (some rp)) (v := .ref rp) rfl (mj_rdA_is (rd_sn (beq_eq_false_iff_ne.mpr (by omega)) (rd_sn (beq_eq_false_iff_ne.mpr (by omega)) HPE)) (by decide)) rfl (by decide +kernel) rfl hpe rfl rfl ?_
  refine c_aret rfl ?_
  refine c_aret rfl ?_
  refine s_cco (p' := 37) rfl (rd_sn (beq_eq_false_iff_ne.mpr (by omega)) (rd_sn (beq_eq_false_iff_ne.mpr (by omega)) Hrp)) rfl ?_
  refine s_gf (p' := 40) rfl (rd_sn (beq_eq_false_iff_ne.mpr (by omega)) (rd_sn (beq_eq_false_iff_ne.mpr (by omega)) Hrp)) rfl rfl ?_
  refine c_call (p' := 43) (kc := 98) (ls0 := [_]) rfl rfl rfl rfl rfl (mj_rcv_is (rd_sn (beq_eq_false_iff_ne.mpr (by omega)) (rd_sn (beq_eq_false_iff_ne.mpr (by omega)) Htx))) rfl rfl rfl ?_
  refine s_aldn (p' := 1) rfl rfl rfl ?_
  refine s_gf (p' := 4) rfl (rd_sn (beq_eq_false_iff_ne.mpr (by omega)) (rd_sn (beq_eq_false_iff_ne.mpr (by omega)) Htx)) rfl rfl ?_
  refine s_lenz (p' := 5) rfl (mj_rdA_is (rd_sn (beq_eq_false_iff_ne.mpr (by omega)) (rd_sn (beq_eq_false_iff_ne.mpr (by omega)) Htb)) (by decide)) rfl rfl ?_
  refine s_aldn (p' := 6) rfl rfl rfl ?_
  refine c_call (p' := 9) (kc := 97) (ls0 := [_]) rfl rfl rfl rfl rfl (mj_rcv_is (rd_sn (beq_eq_false_iff_ne.mpr (by omega)) (rd_sn (beq_eq_false_iff_ne.mpr (by omega)) Htx))) rfl rfl rfl ?_
  refine s_sh (p' := 3) (ls' := _) (st' := .int (nI 1) :: _) (h' := _) rfl rfl rfl rfl ?_
  refine s_if (p' := 6) false rfl (by decide +kernel) rfl ?_
  refine s_aldn (p' := 7) rfl rfl rfl ?_
  refine s_gf (p' := 10) rfl (rd_sn (beq_eq_false_iff_ne.mpr (by omega)) (rd_sn (beq_eq_false_iff_ne.mpr (by omega)) Htx)) rfl rfl ?_
  refine s_goto (p' := 14) rfl rfl ?_
  refine c_iret rfl (by decide +kernel) ?_
  refine s_bz (p' := 10) (z := (nI n)) rfl rfl rfl (mI_shr0 (by omega)) ?_
  refine c_iret rfl rfl ?_
  refine k_iret rfl rfl ?_
  refine l_ist (p' := 544) (ls' := [_, _, _, _, _, _, _, _, _, _]) rfl rfl rfl rfl rfl ?_
  refine l_aldn (p' := 545) rfl rfl rfl rfl ?_
  refine l_call (p' := 548) (kc := 99) (ls0 := [_]) rfl rfl rfl rfl rfl rfl (mj_rcv_is (rd_ss rfl (rd_sn rfl H400))) rfl rfl rfl ?_
  refine s_aldn (p' := 1) rfl rfl rfl ?_
  refine s_gf (p' := 4) rfl (rd_ss rfl (rd_sn rfl H400)) rfl rfl ?_
  refine k_iret rfl rfl ?_
  refine l_ild (p' := 550) rfl rfl rfl rfl ?_
  refine l_icmp (p' := 555) true rfl rfl (by decide +kernel) rfl ?_
  refine l_ild (p' := 557) rfl rfl rfl rfl ?_
  refine l_if (p' := 560) false rfl rfl (by decide +kernel) rfl ?_
  refine l_aldn (p' := 561) rfl rfl rfl rfl ?_
  refine l_con (p' := 562) rfl rfl rfl ?_
  refine l_lalz (p' := 563) (m := 0) (v := (Int32.toInt64 (nI n))) rfl rfl (rd_sn rfl (rd_ss rfl H412)) (by decide +kernel) rfl rfl rfl ?_
  refine l_ild (p' := 565) rfl rfl rfl rfl ?_
  refine l_bzL (p' := 566) (z := (Int32.toInt64 (nI n))) rfl rfl rfl rfl rfl rfl ?_
  refine l_bz (p' := 567) (z := nI 0) rfl rfl rfl rfl rfl (lcmp_self _) ?_
  refine l_if (p' := 572) true rfl rfl (by decide +kernel) rfl ?_
  refine l_goto (p' := 2541) rfl rfl rfl ?_
  refine l_incz (p' := 2544) (w := (nI (i + 4))) (ls' := [_, _, _, _, _, _, _, _, _, _]) rfl rfl rfl rfl (mI_add _ _) rfl rfl ?_
  refine l_goto (p' := 28) rfl rfl rfl ?_
  exact hn _ _ _ _ _ ⟨(rd_ss rfl (rd_sn rfl H400)), (rd_sn rfl (rd_ss rfl H412)), (mz_fr.s (by decide) (mz_fr.s (by decide) (mz_fr.rf _ h))), (Nat.le_trans (Nat.le_of_eq (len_s (len_s HL))) (by omega)), (Nat.le_trans (sz_s rfl (rd_sn rfl H400) rfl (sz_sA rfl H412 (Nat.le_refl (mj_sz h)))) (by omega))⟩
theorem w_8_3 {L i N : Nat} {xs : Nat → Int32} {h : mj_H} {l6 l7 l8 l9 : Option Value} {P : mj_H → Prop} (hL : L ≤ 2048) (hi : i + 4 ≤ L) (hN : N + 2000 < mj_CB) (hN0 : 414 ≤ N) (HL : h.length = N) (hk : xs i &&& nI 63 = nI 8) {gs pl ty wa nw nx dp ca mf : Value} {th : Int32} {sd be : Int64} {ou : Nat → Int64} {vf wf sf uf im jm : Nat → Int32} {k g : Nat} (hk20 : k ≤ 20) (hvw : ∀ j, j < 8 → wf j = vf j) (hsu : ∀ j, j < k → uf j = sf j) (him : ∀ j, j < 8 → jm j = im j) {pm ge gm : Value} {q : Nat} (hq6 : q ≤ 6) (hg24 : g ≤ 24) {txs : List Value} {PE rp ac tx tb n m : Nat} {pef : Nat → Option Nat} {tbf : Nat → Int32} {rrow ace acm : Value} (hpq : 3 < q) (hn : n ≤ 60) (hm : m ≤ 30) (hPE : 414 ≤ PE) (hrp : 414 ≤ rp) (hac : 414 ≤ ac) (htx : 414 ≤ tx) (htb : 414 ≤ tb) (hpe : pef 3 = some rp)  (hx1 : xs (i + 1) = nI 3) (H0 : mj_rd h 0 = some (.inr (0, [.ref 1, .ref 38, .ref 299, .ref 336, .ref 373, .ref 375, .ref 378, .ref 381, .ref 387, .ref 393, gs, pl, .ref 397, .ref 398, .ref 399, .long sd, .long be]))) (H38 : mj_rd h 38 = some (.inr (6, [.ref 39, .ref 40, .int (nI q)]))) (H39 : mj_rd h 39 = some (.inl (8, (6, .inr (.inr (.inr (.inr ((fun j => if j < 6 then some (77 + 37 * j) else none))))))))) (H188 : mj_rd h 188 = some (.inr (1, [.ref 189, .ref 191, .ref 224]))) (H191 : mj_rd h 191 = some (.inr (3, [.ref 192, .ref 193, .int (nI m)]))) (H400 : mj_rd h 400 = some (.inr (17, [.int th, .ref 401, .ref 402, ty, .long sd, .long be, .ref 410, wa, nw, nx, .ref 411]))) (H401 : mj_rd h 401 = some (.inr (18, [.ref PE, .int (nI q), pm]))) (H412 : mj_rd h 412 = some (.inl (4, (1, .inr (.inl (ou)))))) (HPE : mj_rd h PE = some (.inl (6, (10, .inr (.inr (.inr (.inr (pef)))))))) (Hrp : mj_rd h rp = some (.inr (26, [rrow, .ref tx, .ref ac]))) (Hac : mj_rd h ac = some (.inr (18, [ace, .int (nI m), acm]))) (hn : ∀ (l6 l7 l8 l9 : Option Value) (h' : mj_H), mj_rd h' 400 = some (.inr (17, [.int (nI 0), .ref 401, .ref 402, ty, .long sd, .long be, .ref 410, wa, nw, nx, .ref 411])) ∧ mj_rd h' 412 = some (.inl (4, (1, .inr (.inl ((vp_updL ou 0 (Int32.toInt64 (nI m)))))))) ∧ mz_fr [400, 412] h h' ∧ h'.length ≤ N + 0 ∧ mj_sz h' ≤ mj_sz h + 0 → mj_lrun L xs (28, [some (.retAddr 1), some (.ref 0), some (.ref 400), some (.ref 412), some (.ref 413), some (.int (nI (i + 4))), l6, l7, l8, l9], [], h') P) : mj_lrun L xs (28, [some (.retAddr 1), some (.ref 0), some (.ref 400), some (.ref 412), some (.ref 413), some (.int (nI i)), l6, l7, l8, l9], [], h) P := by
  refine l_ild (p' := 30) rfl rfl rfl rfl ?_
  refine l_alds (p' := 31) rfl rfl rfl rfl ?_
  refine l_lens (p' := 32) rfl rfl rfl ?_
  refine l_con (p' := 33) rfl rfl rfl ?_
  refine l_bz (p' := 34) (z := (nI (L - 4))) rfl rfl rfl rfl rfl (mI_sub (by omega)) ?_
  refine l_icmp (p' := 37) false rfl rfl ((ci_gt (by omega) (by omega)).trans (decide_eq_false (by omega))) rfl ?_
  refine l_alds (p' := 38) rfl rfl rfl rfl ?_
  refine l_ild (p' := 40) rfl rfl rfl rfl ?_
  refine l_ialz (p' := 41) (m := i) (z := (xs i)) rfl rfl (inb_nI (by omega) (by omega)) (mI_cl (by omega)) rfl rfl ?_
  refine l_bip (p' := 43) rfl rfl rfl ?_
  refine l_bz (p' := 44) (z := (nI 8)) rfl rfl rfl rfl rfl hk ?_
  refine l_sp (p' := 643) (ls' := _) rfl rfl rfl rfl rfl ?_
  refine l_aldn (p' := 644) rfl rfl rfl rfl ?_
  refine l_alds (p' := 645) rfl rfl rfl rfl ?_
  refine l_ild (p' := 647) rfl rfl rfl rfl ?_
  refine l_con (p' := 648) rfl rfl rfl ?_
  refine l_bz (p' := 649) (z := (nI (i + 1))) rfl rfl rfl rfl rfl (mI_add _ _) ?_
  refine l_ialz (p' := 650) (m := (i + 1)) (z := (nI 3)) rfl rfl (inb_nI (by omega) (by omega)) (mI_cl (by omega)) hx1 rfl ?_
  refine l_aldn (p' := 651) rfl rfl rfl rfl ?_
  refine l_call (p' := 654) (kc := 99) (ls0 := [_, _, _, _]) rfl rfl rfl rfl rfl rfl rfl rfl rfl rfl ?_
  refine s_aldn (p' := 1) rfl rfl rfl ?_
  refine s_con (p' := 2) rfl rfl ?_
  refine s_aldn (p' := 3) rfl rfl rfl ?_
  refine s_ildn (p' := 4) rfl rfl rfl ?_
  refine c_call (p' := 7) (kc := 98) (ls0 := [_, _]) rfl rfl rfl rfl rfl (mj_rcv_is H0) rfl rfl rfl ?_
  refine s_aldn (p' := 1) rfl rfl rfl ?_
  refine s_gf (p' := 4) rfl H0 rfl rfl ?_
  refine s_ildn (p' := 5) rfl rfl rfl ?_
  refine c_call (p' := 8) (kc := 97) (ls0 := [_, _]) rfl rfl rfl rfl rfl (mj_rcv_is H38) rfl rfl rfl ?_
  refine s_ildn (p' := 1) rfl rfl rfl ?_
  refine s_if (p' := 4) false rfl (by decide +kernel) rfl ?_
  refine s_ildn (p' := 5) rfl rfl rfl ?_
  refine s_aldn (p' := 6) rfl rfl rfl ?_
  refine s_gf (p' := 9) rfl H38 rfl rfl ?_
  refine s_icmp (p' := 12) false rfl ((ch_ge (w := 3) (by decide +kernel)).trans (decide_eq_false (by rw [mI_ti (by omega)]; omega))) rfl ?_
  refine s_con (p' := 13) rfl rfl ?_
  refine s_goto (p' := 17) rfl rfl ?_
  refine c_iret rfl (by decide +kernel) ?_
  refine s_if (p' := 21) true rfl (by decide +kernel) rfl ?_
  refine s_aldn (p' := 22) rfl rfl rfl ?_
  refine s_gf (p' := 25) rfl H0 rfl rfl ?_
  refine s_ildn (p' := 26) rfl rfl rfl ?_
  refine c_call (p' := 29) (kc := 97) (ls0 := [_, _]) rfl rfl rfl rfl rfl (mj_rcv_is H38) rfl rfl rfl ?_
  refine s_ildn (p' := 1) rfl rfl rfl ?_
  refine s_if (p' := 4) false rfl (by decide +kernel) rfl ?_
  refine s_ildn (p' := 5) rfl rfl rfl ?_
  refine s_aldn (p' := 6) rfl rfl rfl ?_
  refine s_gf (p' := 9) rfl H38 rfl rfl ?_
  refine s_icmp (p' := 12) false rfl ((ch_ge (w := 3) (by decide +kernel)).trans (decide_eq_false (by rw [mI_ti (by omega)]; omega))) rfl ?_
  refine s_ildn (p' := 13) rfl rfl rfl ?_
  refine s_aldn (p' := 14) rfl rfl rfl ?_
  refine s_gf (p' := 17) rfl H38 rfl rfl ?_
  refine s_lenz (p' := 18) rfl (mj_rdA_is H39 (by decide)) rfl rfl ?_
  refine s_icmp (p' := 21) false rfl (by decide +kernel) rfl ?_
  refine s_aldn (p' := 22) rfl rfl rfl ?_
  refine s_gf (p' := 25) rfl H38 rfl rfl ?_
  refine s_ildn (p' := 26) rfl rfl rfl ?_
  refine s_aalz (p' := 27) (m := 3) (q := (some 188)) (v := .ref 188) rfl (mj_rdA_is H39 (by decide)) rfl (by decide +kernel) rfl rfl rfl rfl ?_
  refine s_gf (p' := 30) rfl H188 rfl rfl ?_
  refine s_goto (p' := 40) rfl rfl ?_
  refine c_aret rfl ?_
  refine c_call (p' := 32) (kc := 97) (ls0 := [_]) rfl rfl rfl rfl rfl (mj_rcv_is H191) rfl rfl rfl ?_
  refine s_aldn (p' := 1) rfl rfl rfl ?_
  refine s_gf (p' := 4) rfl H191 rfl rfl ?_
  refine c_iret rfl rfl ?_
  refine c_iret rfl rfl ?_
  refine s_bzL (p' := 8) (z := (Int32.toInt64 (nI m))) rfl rfl rfl rfl ?_
  refine s_lasz (p' := 9) (m := 0) rfl rfl H412 (by decide +kernel) rfl rfl rfl ?_
  refine s_goto (p' := 15) rfl rfl ?_
  refine s_con (p' := 16) rfl rfl ?_
  refine k_iret rfl rfl ?_
  refine l_ist (p' := 656) (ls' := [_, _, _, _, _, _, _, _, _, _]) rfl rfl rfl rfl rfl ?_
  refine l_aldn (p' := 657) rfl rfl rfl rfl ?_
  refine l_alds (p' := 658) rfl rfl rfl rfl ?_
  refine l_ild (p' := 660) rfl rfl rfl rfl ?_
  refine l_con (p' := 661) rfl rfl rfl ?_
  refine l_bz (p' := 662) (z := (nI (i + 1))) rfl rfl rfl rfl rfl (mI_add _ _) ?_
  refine l_ialz (p' := 663) (m := (i + 1)) (z := (nI 3)) rfl rfl (inb_nI (by omega) (by omega)) (mI_cl (by omega)) hx1 rfl ?_
  refine l_call (p' := 666) (kc := 99) (ls0 := [_, _]) rfl rfl rfl rfl rfl rfl (mj_rcv_is (rd_sn rfl H400)) rfl rfl rfl ?_
  refine s_aldn (p' := 1) rfl rfl rfl ?_
  refine s_aldn (p' := 2) rfl rfl rfl ?_
  refine s_ildn (p' := 3) rfl rfl rfl ?_
  refine c_call (p' := 6) (kc := 98) (ls0 := [_, _]) rfl rfl rfl rfl rfl (mj_rcv_is (rd_sn rfl H400)) rfl rfl rfl ?_
  refine s_ildn (p' := 1) rfl rfl rfl ?_
  refine s_con (p' := 2) rfl rfl ?_
  refine s_aldn (p' := 3) rfl rfl rfl ?_
  refine s_gf (p' := 6) rfl (rd_sn rfl H400) rfl rfl ?_
  refine c_call (p' := 11) (kc := 97) (ls0 := [_]) rfl rfl rfl rfl rfl (mj_rcv_is (rd_sn rfl H401)) rfl rfl rfl ?_
  refine s_aldn (p' := 1) rfl rfl rfl ?_
  refine s_gf (p' := 4) rfl (rd_sn rfl H401) rfl rfl ?_
  refine c_iret rfl rfl ?_
  refine s_con (p' := 12) rfl rfl ?_
  refine s_bz (p' := 13) (z := (nI (q - 1))) rfl rfl rfl (mI_sub (by omega)) ?_
  refine c_call (p' := 16) (kc := 97) (ls0 := [_, _, _]) rfl rfl rfl rfl rfl rfl rfl rfl rfl ?_
  refine s_ildn (p' := 1) rfl rfl rfl ?_
  refine s_ildn (p' := 2) rfl rfl rfl ?_
  refine s_icmp (p' := 5) false rfl (by decide +kernel) rfl ?_
  refine s_ildn (p' := 6) rfl rfl rfl ?_
  refine s_ildn (p' := 7) rfl rfl rfl ?_
  refine s_icmp (p' := 10) false rfl ((ch_gt (w := 3) (by decide +kernel)).trans (decide_eq_false (by rw [mI_ti (by omega)]; omega))) rfl ?_
  refine s_con (p' := 11) rfl rfl ?_
  refine s_goto (p' := 15) rfl rfl ?_
  refine c_iret rfl (by decide +kernel) ?_
  refine c_iret rfl (by decide +kernel) ?_
  refine s_if (p' := 9) false rfl (by decide +kernel) rfl ?_
  refine s_con (p' := 10) rfl rfl ?_
  refine s_goto (p' := 14) rfl rfl ?_
  refine c_call (p' := 17) (kc := 98) (ls0 := [_, _]) rfl rfl rfl rfl rfl (mj_rcv_is (rd_sn rfl H400)) rfl rfl rfl ?_
  refine s_aldn (p' := 1) rfl rfl rfl ?_
  refine s_ildn (p' := 2) rfl rfl rfl ?_
  refine s_pfz (p' := 5) (fs' := [_, _, _, _, _, _, _, _, _, _, _]) rfl rfl (rd_sn rfl H400) rfl rfl rfl rfl ?_
  refine s_ildn (p' := 6) rfl rfl rfl ?_
  refine s_if (p' := 13) true rfl (by decide +kernel) rfl ?_
  refine s_con (p' := 14) rfl rfl ?_
  refine c_iret rfl (by decide +kernel) ?_
  refine s_if (p' := 24) true rfl (by decide +kernel) rfl ?_
  refine s_aldn (p' := 25) rfl rfl rfl ?_
  refine s_gf (p' := 28) rfl (rd_ss rfl (rd_sn rfl H400)) rfl rfl ?_
  refine s_ildn (p' := 29) rfl rfl rfl ?_
  refine c_call (p' := 34) (kc := 98) (ls0 := [_, _]) rfl rfl rfl rfl rfl (mj_rcv_is (rd_sn rfl (rd_sn rfl H401))) rfl rfl rfl ?_
  refine s_ildn (p' := 1) rfl rfl rfl ?_
  refine s_aldn (p' := 2) rfl rfl rfl ?_
  refine s_gf (p' := 5) rfl (rd_sn rfl (rd_sn rfl H401)) rfl rfl ?_
  refine c_call (p' := 8) (kc := 97) (ls0 := [_, _]) rfl rfl rfl rfl rfl rfl rfl rfl rfl ?_
  refine s_ildn (p' := 1) rfl rfl rfl ?_
  refine s_ildn (p' := 2) rfl rfl rfl ?_
  refine s_sp (p' := 3) (ls' := _) rfl rfl rfl ?_
  refine c_call (p' := 6) (kc := 96) (ls0 := [_, _, _]) rfl rfl rfl rfl rfl rfl rfl rfl rfl ?_
  refine s_ildn (p' := 1) rfl rfl rfl ?_
  refine s_if (p' := 4) false rfl (by decide +kernel) rfl ?_
  refine s_ildn (p' := 5) rfl rfl rfl ?_
  refine s_ildn (p' := 6) rfl rfl rfl ?_
  refine s_icmp (p' := 16) true rfl ((ch_lt (w := 3) (by decide +kernel)).trans (decide_eq_true (by rw [mI_ti (by omega)]; omega))) rfl ?_
  refine s_ildn (p' := 17) rfl rfl rfl ?_
  refine c_iret rfl rfl ?_
  refine c_iret rfl rfl ?_
  refine s_sp (p' := 9) (ls' := _) rfl rfl rfl ?_
  refine s_aldn (p' := 10) rfl rfl rfl ?_
  refine s_ildn (p' := 11) rfl rfl rfl ?_
  refine c_call (p' := 14) (kc := 97) (ls0 := [_, _]) rfl rfl rfl rfl rfl (mj_rcv_is (rd_sn rfl (rd_sn rfl H401))) rfl rfl rfl ?_
  refine s_aldn (p' := 1) rfl rfl rfl ?_
  refine s_gf (p' := 4) rfl (rd_sn rfl (rd_sn rfl H401)) rfl rfl ?_
  refine s_ildn (p' := 5) rfl rfl rfl ?_
  refine s_aalz (p' := 6) (m := 3) (q := (some rp)) (v := .ref rp) rfl (mj_rdA_is (rd_sn (beq_eq_false_iff_ne.mpr (by omega)) (rd_sn (beq_eq_false_iff_ne.mpr (by omega)) HPE)) (by decide)) rfl (by decide +kernel) rfl hpe rfl rfl ?_
  refine c_aret rfl ?_
  refine c_aret rfl ?_
  refine s_cco (p' := 37) rfl (rd_sn (beq_eq_false_iff_ne.mpr (by omega)) (rd_sn (beq_eq_false_iff_ne.mpr (by omega)) Hrp)) rfl ?_
  refine s_gf (p' := 40) rfl (rd_sn (beq_eq_false_iff_ne.mpr (by omega)) (rd_sn (beq_eq_false_iff_ne.mpr (by omega)) Hrp)) rfl rfl ?_
  refine c_call (p' := 45) (kc := 98) (ls0 := [_]) rfl rfl rfl rfl rfl (mj_rcv_is (rd_sn (beq_eq_false_iff_ne.mpr (by omega)) (rd_sn (beq_eq_false_iff_ne.mpr (by omega)) Hac))) rfl rfl rfl ?_
  refine s_aldn (p' := 1) rfl rfl rfl ?_
  refine s_gf (p' := 4) rfl (rd_sn (beq_eq_false_iff_ne.mpr (by omega)) (rd_sn (beq_eq_false_iff_ne.mpr (by omega)) Hac)) rfl rfl ?_
  refine c_iret rfl rfl ?_
  refine k_iret rfl rfl ?_
  refine l_ist (p' := 668) (ls' := [_, _, _, _, _, _, _, _, _, _]) rfl rfl rfl rfl rfl ?_
  refine l_aldn (p' := 669) rfl rfl rfl rfl ?_
  refine l_call (p' := 672) (kc := 99) (ls0 := [_]) rfl rfl rfl rfl rfl rfl (mj_rcv_is (rd_ss rfl (rd_sn rfl H400))) rfl rfl rfl ?_
  refine s_aldn (p' := 1) rfl rfl rfl ?_
  refine s_gf (p' := 4) rfl (rd_ss rfl (rd_sn rfl H400)) rfl rfl ?_
  refine k_iret rfl rfl ?_
  refine l_ild (p' := 674) rfl rfl rfl rfl ?_
  refine l_icmp (p' := 679) true rfl rfl (by decide +kernel) rfl ?_
  refine l_ild (p' := 681) rfl rfl rfl rfl ?_
  refine l_if (p' := 684) false rfl rfl (by decide +kernel) rfl ?_
  refine l_aldn (p' := 685) rfl rfl rfl rfl ?_
  refine l_con (p' := 686) rfl rfl rfl ?_
  refine l_lalz (p' := 687) (m := 0) (v := (Int32.toInt64 (nI m))) rfl rfl (rd_sn rfl (rd_ss rfl H412)) (by decide +kernel) rfl rfl rfl ?_
  refine l_ild (p' := 689) rfl rfl rfl rfl ?_
  refine l_bzL (p' := 690) (z := (Int32.toInt64 (nI m))) rfl rfl rfl rfl rfl rfl ?_
  refine l_bz (p' := 691) (z := nI 0) rfl rfl rfl rfl rfl (lcmp_self _) ?_
  refine l_if (p' := 696) true rfl rfl (by decide +kernel) rfl ?_
  refine l_goto (p' := 2541) rfl rfl rfl ?_
  refine l_incz (p' := 2544) (w := (nI (i + 4))) (ls' := [_, _, _, _, _, _, _, _, _, _]) rfl rfl rfl rfl (mI_add _ _) rfl rfl ?_
  refine l_goto (p' := 28) rfl rfl rfl ?_
  exact hn _ _ _ _ _ ⟨(rd_ss rfl (rd_sn rfl H400)), (rd_sn rfl (rd_ss rfl H412)), (mz_fr.s (by decide) (mz_fr.s (by decide) (mz_fr.rf _ h))), (Nat.le_trans (Nat.le_of_eq (len_s (len_s HL))) (by omega)), (Nat.le_trans (sz_s rfl (rd_sn rfl H400) rfl (sz_sA rfl H412 (Nat.le_refl (mj_sz h)))) (by omega))⟩
theorem w_6_4 {L i N : Nat} {xs : Nat → Int32} {h : mj_H} {l6 l7 l8 l9 : Option Value} {P : mj_H → Prop} (hL : L ≤ 2048) (hi : i + 4 ≤ L) (hN : N + 2000 < mj_CB) (hN0 : 414 ≤ N) (HL : h.length = N) (hk : xs i &&& nI 63 = nI 6) {gs pl ty wa nw nx dp ca mf : Value} {th : Int32} {sd be : Int64} {ou : Nat → Int64} {vf wf sf uf im jm : Nat → Int32} {k g : Nat} (hk20 : k ≤ 20) (hvw : ∀ j, j < 8 → wf j = vf j) (hsu : ∀ j, j < k → uf j = sf j) (him : ∀ j, j < 8 → jm j = im j) {pm ge gm : Value} {q : Nat} (hq6 : q ≤ 6) (hg24 : g ≤ 24) {txs : List Value} {PE rp ac tx tb n m : Nat} {pef : Nat → Option Nat} {tbf : Nat → Int32} {rrow ace acm : Value} (hpq : 4 < q) (hn : n ≤ 60) (hm : m ≤ 30) (hPE : 414 ≤ PE) (hrp : 414 ≤ rp) (hac : 414 ≤ ac) (htx : 414 ≤ tx) (htb : 414 ≤ tb) (hpe : pef 4 = some rp)  (hx1 : xs (i + 1) = nI 4) (H0 : mj_rd h 0 = some (.inr (0, [.ref 1, .ref 38, .ref 299, .ref 336, .ref 373, .ref 375, .ref 378, .ref 381, .ref 387, .ref 393, gs, pl, .ref 397, .ref 398, .ref 399, .long sd, .long be]))) (H38 : mj_rd h 38 = some (.inr (6, [.ref 39, .ref 40, .int (nI q)]))) (H39 : mj_rd h 39 = some (.inl (8, (6, .inr (.inr (.inr (.inr ((fun j => if j < 6 then some (77 + 37 * j) else none))))))))) (H225 : mj_rd h 225 = some (.inr (1, [.ref 226, .ref 228, .ref 261]))) (H226 : mj_rd h 226 = some (.inr (2, [.ref 227, .int (nI n)]))) (H400 : mj_rd h 400 = some (.inr (17, [.int th, .ref 401, .ref 402, ty, .long sd, .long be, .ref 410, wa, nw, nx, .ref 411]))) (H401 : mj_rd h 401 = some (.inr (18, [.ref PE, .int (nI q), pm]))) (H412 : mj_rd h 412 = some (.inl (4, (1, .inr (.inl (ou)))))) (HPE : mj_rd h PE = some (.inl (6, (10, .inr (.inr (.inr (.inr (pef)))))))) (Hrp : mj_rd h rp = some (.inr (26, [rrow, .ref tx, .ref ac]))) (Htx : mj_rd h tx = some (.inr (21, .ref tb :: .int (nI 0) :: txs))) (Htb : mj_rd h tb = some (.inl (1, (n, .inl (tbf))))) (hn : ∀ (l6 l7 l8 l9 : Option Value) (h' : mj_H), mj_rd h' 400 = some (.inr (17, [.int (nI 0), .ref 401, .ref 402, ty, .long sd, .long be, .ref 410, wa, nw, nx, .ref 411])) ∧ mj_rd h' 412 = some (.inl (4, (1, .inr (.inl ((vp_updL ou 0 (Int32.toInt64 (nI n)))))))) ∧ mz_fr [400, 412] h h' ∧ h'.length ≤ N + 0 ∧ mj_sz h' ≤ mj_sz h + 0 → mj_lrun L xs (28, [some (.retAddr 1), some (.ref 0), some (.ref 400), some (.ref 412), some (.ref 413), some (.int (nI (i + 4))), l6, l7, l8, l9], [], h') P) : mj_lrun L xs (28, [some (.retAddr 1), some (.ref 0), some (.ref 400), some (.ref 412), some (.ref 413), some (.int (nI i)), l6, l7, l8, l9], [], h) P := by
  refine l_ild (p' := 30) rfl rfl rfl rfl ?_
  refine l_alds (p' := 31) rfl rfl rfl rfl ?_
  refine l_lens (p' := 32) rfl rfl rfl ?_
  refine l_con (p' := 33) rfl rfl rfl ?_
  refine l_bz (p' := 34) (z := (nI (L - 4))) rfl rfl rfl rfl rfl (mI_sub (by omega)) ?_
  refine l_icmp (p' := 37) false rfl rfl ((ci_gt (by omega) (by omega)).trans (decide_eq_false (by omega))) rfl ?_
  refine l_alds (p' := 38) rfl rfl rfl rfl ?_
  refine l_ild (p' := 40) rfl rfl rfl rfl ?_
  refine l_ialz (p' := 41) (m := i) (z := (xs i)) rfl rfl (inb_nI (by omega) (by omega)) (mI_cl (by omega)) rfl rfl ?_
  refine l_bip (p' := 43) rfl rfl rfl ?_
  refine l_bz (p' := 44) (z := (nI 6)) rfl rfl rfl rfl rfl hk ?_
  refine l_sp (p' := 519) (ls' := _) rfl rfl rfl rfl rfl ?_
  refine l_aldn (p' := 520) rfl rfl rfl rfl ?_
  refine l_alds (p' := 521) rfl rfl rfl rfl ?_
  refine l_ild (p' := 523) rfl rfl rfl rfl ?_
  refine l_con (p' := 524) rfl rfl rfl ?_
  refine l_bz (p' := 525) (z := (nI (i + 1))) rfl rfl rfl rfl rfl (mI_add _ _) ?_
  refine l_ialz (p' := 526) (m := (i + 1)) (z := (nI 4)) rfl rfl (inb_nI (by omega) (by omega)) (mI_cl (by omega)) hx1 rfl ?_
  refine l_aldn (p' := 527) rfl rfl rfl rfl ?_
  refine l_call (p' := 530) (kc := 99) (ls0 := [_, _, _, _]) rfl rfl rfl rfl rfl rfl rfl rfl rfl rfl ?_
  refine s_aldn (p' := 1) rfl rfl rfl ?_
  refine s_con (p' := 2) rfl rfl ?_
  refine s_aldn (p' := 3) rfl rfl rfl ?_
  refine s_ildn (p' := 4) rfl rfl rfl ?_
  refine c_call (p' := 7) (kc := 98) (ls0 := [_, _]) rfl rfl rfl rfl rfl (mj_rcv_is H0) rfl rfl rfl ?_
  refine s_aldn (p' := 1) rfl rfl rfl ?_
  refine s_gf (p' := 4) rfl H0 rfl rfl ?_
  refine s_ildn (p' := 5) rfl rfl rfl ?_
  refine c_call (p' := 8) (kc := 97) (ls0 := [_, _]) rfl rfl rfl rfl rfl (mj_rcv_is H38) rfl rfl rfl ?_
  refine s_ildn (p' := 1) rfl rfl rfl ?_
  refine s_if (p' := 4) false rfl (by decide +kernel) rfl ?_
  refine s_ildn (p' := 5) rfl rfl rfl ?_
  refine s_aldn (p' := 6) rfl rfl rfl ?_
  refine s_gf (p' := 9) rfl H38 rfl rfl ?_
  refine s_icmp (p' := 12) false rfl ((ch_ge (w := 4) (by decide +kernel)).trans (decide_eq_false (by rw [mI_ti (by omega)]; omega))) rfl ?_
  refine s_con (p' := 13) rfl rfl ?_
  refine s_goto (p' := 17) rfl rfl ?_
  refine c_iret rfl (by decide +kernel) ?_
  refine s_if (p' := 21) true rfl (by decide +kernel) rfl ?_
  refine s_aldn (p' := 22) rfl rfl rfl ?_
  refine s_gf (p' := 25) rfl H0 rfl rfl ?_
  refine s_ildn (p' := 26) rfl rfl rfl ?_
  refine c_call (p' := 29) (kc := 97) (ls0 := [_, _]) rfl rfl rfl rfl rfl (mj_rcv_is H38) rfl rfl rfl ?_
  refine s_aldn (p' := 1) rfl rfl rfl ?_
  refine s_ildn (p' := 2) rfl rfl rfl ?_
  refine c_call (p' := 5) (kc := 96) (ls0 := [_, _]) rfl rfl rfl rfl rfl (mj_rcv_is H38) rfl rfl rfl ?_
  refine s_ildn (p' := 1) rfl rfl rfl ?_
  refine s_if (p' := 4) false rfl (by decide +kernel) rfl ?_
  refine s_ildn (p' := 5) rfl rfl rfl ?_
  refine s_aldn (p' := 6) rfl rfl rfl ?_
  refine s_gf (p' := 9) rfl H38 rfl rfl ?_
  refine s_icmp (p' := 12) false rfl ((ch_ge (w := 4) (by decide +kernel)).trans (decide_eq_false (by rw [mI_ti (by omega)]; omega))) rfl ?_
  refine s_con (p' := 13) rfl rfl ?_
  refine s_goto (p' := 17) rfl rfl ?_
  refine c_iret rfl (by decide +kernel) ?_
  refine s_if (p' := 8) false rfl (by decide +kernel) rfl ?_
  refine s_ildn (p' := 9) rfl rfl rfl ?_
  refine s_aldn (p' := 10) rfl rfl rfl ?_
  refine s_gf (p' := 13) rfl H38 rfl rfl ?_
  refine s_lenz (p' := 14) rfl (mj_rdA_is H39 (by decide)) rfl rfl ?_
  refine s_icmp (p' := 17) false rfl (by decide +kernel) rfl ?_
  refine s_aldn (p' := 18) rfl rfl rfl ?_
  refine s_gf (p' := 21) rfl H38 rfl rfl ?_
  refine s_ildn (p' := 22) rfl rfl rfl ?_
  refine s_aalz (p' := 23) (m := 4) (q := (some 225)) (v := .ref 225) rfl (mj_rdA_is H39 (by decide)) rfl (by decide +kernel) rfl rfl rfl rfl ?_
  refine s_goto (p' := 30) rfl rfl ?_
  refine c_aret rfl ?_
  refine s_gf (p' := 32) rfl H225 rfl rfl ?_
  refine c_call (p' := 35) (kc := 97) (ls0 := [_]) rfl rfl rfl rfl rfl (mj_rcv_is H226) rfl rfl rfl ?_
  refine s_aldn (p' := 1) rfl rfl rfl ?_
  refine s_gf (p' := 4) rfl H226 rfl rfl ?_
  refine c_iret rfl rfl ?_
  refine c_iret rfl rfl ?_
  refine s_bzL (p' := 8) (z := (Int32.toInt64 (nI n))) rfl rfl rfl rfl ?_
  refine s_lasz (p' := 9) (m := 0) rfl rfl H412 (by decide +kernel) rfl rfl rfl ?_
  refine s_goto (p' := 15) rfl rfl ?_
  refine s_con (p' := 16) rfl rfl ?_
  refine k_iret rfl rfl ?_
  refine l_ist (p' := 532) (ls' := [_, _, _, _, _, _, _, _, _, _]) rfl rfl rfl rfl rfl ?_
  refine l_aldn (p' := 533) rfl rfl rfl rfl ?_
  refine l_alds (p' := 534) rfl rfl rfl rfl ?_
  refine l_ild (p' := 536) rfl rfl rfl rfl ?_
  refine l_con (p' := 537) rfl rfl rfl ?_
  refine l_bz (p' := 538) (z := (nI (i + 1))) rfl rfl rfl rfl rfl (mI_add _ _) ?_
  refine l_ialz (p' := 539) (m := (i + 1)) (z := (nI 4)) rfl rfl (inb_nI (by omega) (by omega)) (mI_cl (by omega)) hx1 rfl ?_
  refine l_call (p' := 542) (kc := 99) (ls0 := [_, _]) rfl rfl rfl rfl rfl rfl (mj_rcv_is (rd_sn rfl H400)) rfl rfl rfl ?_
  refine s_aldn (p' := 1) rfl rfl rfl ?_
  refine s_aldn (p' := 2) rfl rfl rfl ?_
  refine s_ildn (p' := 3) rfl rfl rfl ?_
  refine c_call (p' := 6) (kc := 98) (ls0 := [_, _]) rfl rfl rfl rfl rfl (mj_rcv_is (rd_sn rfl H400)) rfl rfl rfl ?_
  refine s_ildn (p' := 1) rfl rfl rfl ?_
  refine s_con (p' := 2) rfl rfl ?_
  refine s_aldn (p' := 3) rfl rfl rfl ?_
  refine s_gf (p' := 6) rfl (rd_sn rfl H400) rfl rfl ?_
  refine c_call (p' := 11) (kc := 97) (ls0 := [_]) rfl rfl rfl rfl rfl (mj_rcv_is (rd_sn rfl H401)) rfl rfl rfl ?_
  refine s_aldn (p' := 1) rfl rfl rfl ?_
  refine s_gf (p' := 4) rfl (rd_sn rfl H401) rfl rfl ?_
  refine c_iret rfl rfl ?_
  refine s_con (p' := 12) rfl rfl ?_
  refine s_bz (p' := 13) (z := (nI (q - 1))) rfl rfl rfl (mI_sub (by omega)) ?_
  refine c_call (p' := 16) (kc := 97) (ls0 := [_, _, _]) rfl rfl rfl rfl rfl rfl rfl rfl rfl ?_
  refine s_ildn (p' := 1) rfl rfl rfl ?_
  refine s_ildn (p' := 2) rfl rfl rfl ?_
  refine s_icmp (p' := 5) false rfl (by decide +kernel) rfl ?_
  refine s_ildn (p' := 6) rfl rfl rfl ?_
  refine s_ildn (p' := 7) rfl rfl rfl ?_
  refine s_icmp (p' := 10) false rfl ((ch_gt (w := 4) (by decide +kernel)).trans (decide_eq_false (by rw [mI_ti (by omega)]; omega))) rfl ?_
  refine s_con (p' := 11) rfl rfl ?_
  refine s_goto (p' := 15) rfl rfl ?_
  refine c_iret rfl (by decide +kernel) ?_
  refine c_iret rfl (by decide +kernel) ?_
  refine s_if (p' := 9) false rfl (by decide +kernel) rfl ?_
  refine s_con (p' := 10) rfl rfl ?_
  refine s_goto (p' := 14) rfl rfl ?_
  refine c_call (p' := 17) (kc := 98) (ls0 := [_, _]) rfl rfl rfl rfl rfl (mj_rcv_is (rd_sn rfl H400)) rfl rfl rfl ?_
  refine s_aldn (p' := 1) rfl rfl rfl ?_
  refine s_ildn (p' := 2) rfl rfl rfl ?_
  refine s_pfz (p' := 5) (fs' := [_, _, _, _, _, _, _, _, _, _, _]) rfl rfl (rd_sn rfl H400) rfl rfl rfl rfl ?_
  refine s_ildn (p' := 6) rfl rfl rfl ?_
  refine s_if (p' := 13) true rfl (by decide +kernel) rfl ?_
  refine s_con (p' := 14) rfl rfl ?_
  refine c_iret rfl (by decide +kernel) ?_
  refine s_if (p' := 24) true rfl (by decide +kernel) rfl ?_
  refine s_aldn (p' := 25) rfl rfl rfl ?_
  refine s_gf (p' := 28) rfl (rd_ss rfl (rd_sn rfl H400)) rfl rfl ?_
  refine s_ildn (p' := 29) rfl rfl rfl ?_
  refine c_call (p' := 34) (kc := 98) (ls0 := [_, _]) rfl rfl rfl rfl rfl (mj_rcv_is (rd_sn rfl (rd_sn rfl H401))) rfl rfl rfl ?_
  refine s_ildn (p' := 1) rfl rfl rfl ?_
  refine s_aldn (p' := 2) rfl rfl rfl ?_
  refine s_gf (p' := 5) rfl (rd_sn rfl (rd_sn rfl H401)) rfl rfl ?_
  refine c_call (p' := 8) (kc := 97) (ls0 := [_, _]) rfl rfl rfl rfl rfl rfl rfl rfl rfl ?_
  refine s_ildn (p' := 1) rfl rfl rfl ?_
  refine s_ildn (p' := 2) rfl rfl rfl ?_
  refine s_sp (p' := 3) (ls' := _) rfl rfl rfl ?_
  refine c_call (p' := 6) (kc := 96) (ls0 := [_, _, _]) rfl rfl rfl rfl rfl rfl rfl rfl rfl ?_
  refine s_ildn (p' := 1) rfl rfl rfl ?_
  refine s_if (p' := 4) false rfl (by decide +kernel) rfl ?_
  refine s_ildn (p' := 5) rfl rfl rfl ?_
  refine s_ildn (p' := 6) rfl rfl rfl ?_
  refine s_icmp (p' := 16) true rfl ((ch_lt (w := 4) (by decide +kernel)).trans (decide_eq_true (by rw [mI_ti (by omega)]; omega))) rfl ?_
  refine s_ildn (p' := 17) rfl rfl rfl ?_
  refine c_iret rfl rfl ?_
  refine c_iret rfl rfl ?_
  refine s_sp (p' := 9) (ls' := _) rfl rfl rfl ?_
  refine s_aldn (p' := 10) rfl rfl rfl ?_
  refine s_ildn (p' := 11) rfl rfl rfl ?_
  refine c_call (p' := 14) (kc := 97) (ls0 := [_, _]) rfl rfl rfl rfl rfl (mj_rcv_is (rd_sn rfl (rd_sn rfl H401))) rfl rfl rfl ?_
  refine s_aldn (p' := 1) rfl rfl rfl ?_
  refine s_gf (p' := 4) rfl (rd_sn rfl (rd_sn rfl H401)) rfl rfl ?_
  refine s_ildn (p' := 5) rfl rfl rfl ?_
  refine s_aalz (p' := 6) (m := 4) (q := (some rp)) (v := .ref rp) rfl (mj_rdA_is (rd_sn (beq_eq_false_iff_ne.mpr (by omega)) (rd_sn (beq_eq_false_iff_ne.mpr (by omega)) HPE)) (by decide)) rfl (by decide +kernel) rfl hpe rfl rfl ?_
  refine c_aret rfl ?_
  refine c_aret rfl ?_
  refine s_cco (p' := 37) rfl (rd_sn (beq_eq_false_iff_ne.mpr (by omega)) (rd_sn (beq_eq_false_iff_ne.mpr (by omega)) Hrp)) rfl ?_
  refine s_gf (p' := 40) rfl (rd_sn (beq_eq_false_iff_ne.mpr (by omega)) (rd_sn (beq_eq_false_iff_ne.mpr (by omega)) Hrp)) rfl rfl ?_
  refine c_call (p' := 43) (kc := 98) (ls0 := [_]) rfl rfl rfl rfl rfl (mj_rcv_is (rd_sn (beq_eq_false_iff_ne.mpr (by omega)) (rd_sn (beq_eq_false_iff_ne.mpr (by omega)) Htx))) rfl rfl rfl ?_
  refine s_aldn (p' := 1) rfl rfl rfl ?_
  refine s_gf (p' := 4) rfl (rd_sn (beq_eq_false_iff_ne.mpr (by omega)) (rd_sn (beq_eq_false_iff_ne.mpr (by omega)) Htx)) rfl rfl ?_
  refine s_lenz (p' := 5) rfl (mj_rdA_is (rd_sn (beq_eq_false_iff_ne.mpr (by omega)) (rd_sn (beq_eq_false_iff_ne.mpr (by omega)) Htb)) (by decide)) rfl rfl ?_
  refine s_aldn (p' := 6) rfl rfl rfl ?_
  refine c_call (p' := 9) (kc := 97) (ls0 := [_]) rfl rfl rfl rfl rfl (mj_rcv_is (rd_sn (beq_eq_false_iff_ne.mpr (by omega)) (rd_sn (beq_eq_false_iff_ne.mpr (by omega)) Htx))) rfl rfl rfl ?_
  refine s_sh (p' := 3) (ls' := _) (st' := .int (nI 1) :: _) (h' := _) rfl rfl rfl rfl ?_
  refine s_if (p' := 6) false rfl (by decide +kernel) rfl ?_
  refine s_aldn (p' := 7) rfl rfl rfl ?_
  refine s_gf (p' := 10) rfl (rd_sn (beq_eq_false_iff_ne.mpr (by omega)) (rd_sn (beq_eq_false_iff_ne.mpr (by omega)) Htx)) rfl rfl ?_
  refine s_goto (p' := 14) rfl rfl ?_
  refine c_iret rfl (by decide +kernel) ?_
  refine s_bz (p' := 10) (z := (nI n)) rfl rfl rfl (mI_shr0 (by omega)) ?_
  refine c_iret rfl rfl ?_
  refine k_iret rfl rfl ?_
  refine l_ist (p' := 544) (ls' := [_, _, _, _, _, _, _, _, _, _]) rfl rfl rfl rfl rfl ?_
  refine l_aldn (p' := 545) rfl rfl rfl rfl ?_
  refine l_call (p' := 548) (kc := 99) (ls0 := [_]) rfl rfl rfl rfl rfl rfl (mj_rcv_is (rd_ss rfl (rd_sn rfl H400))) rfl rfl rfl ?_
  refine s_aldn (p' := 1) rfl rfl rfl ?_
  refine s_gf (p' := 4) rfl (rd_ss rfl (rd_sn rfl H400)) rfl rfl ?_
  refine k_iret rfl rfl ?_
  refine l_ild (p' := 550) rfl rfl rfl rfl ?_
  refine l_icmp (p' := 555) true rfl rfl (by decide +kernel) rfl ?_
  refine l_ild (p' := 557) rfl rfl rfl rfl ?_
  refine l_if (p' := 560) false rfl rfl (by decide +kernel) rfl ?_
  refine l_aldn (p' := 561) rfl rfl rfl rfl ?_
  refine l_con (p' := 562) rfl rfl rfl ?_
  refine l_lalz (p' := 563) (m := 0) (v := (Int32.toInt64 (nI n))) rfl rfl (rd_sn rfl (rd_ss rfl H412)) (by decide +kernel) rfl rfl rfl ?_
  refine l_ild (p' := 565) rfl rfl rfl rfl ?_
  refine l_bzL (p' := 566) (z := (Int32.toInt64 (nI n))) rfl rfl rfl rfl rfl rfl ?_
  refine l_bz (p' := 567) (z := nI 0) rfl rfl rfl rfl rfl (lcmp_self _) ?_
  refine l_if (p' := 572) true rfl rfl (by decide +kernel) rfl ?_
  refine l_goto (p' := 2541) rfl rfl rfl ?_
  refine l_incz (p' := 2544) (w := (nI (i + 4))) (ls' := [_, _, _, _, _, _, _, _, _, _]) rfl rfl rfl rfl (mI_add _ _) rfl rfl ?_
  refine l_goto (p' := 28) rfl rfl rfl ?_
  exact hn _ _ _ _ _ ⟨(rd_ss rfl (rd_sn rfl H400)), (rd_sn rfl (rd_ss rfl H412)), (mz_fr.s (by decide) (mz_fr.s (by decide) (mz_fr.rf _ h))), (Nat.le_trans (Nat.le_of_eq (len_s (len_s HL))) (by omega)), (Nat.le_trans (sz_s rfl (rd_sn rfl H400) rfl (sz_sA rfl H412 (Nat.le_refl (mj_sz h)))) (by omega))⟩
theorem w_8_4 {L i N : Nat} {xs : Nat → Int32} {h : mj_H} {l6 l7 l8 l9 : Option Value} {P : mj_H → Prop} (hL : L ≤ 2048) (hi : i + 4 ≤ L) (hN : N + 2000 < mj_CB) (hN0 : 414 ≤ N) (HL : h.length = N) (hk : xs i &&& nI 63 = nI 8) {gs pl ty wa nw nx dp ca mf : Value} {th : Int32} {sd be : Int64} {ou : Nat → Int64} {vf wf sf uf im jm : Nat → Int32} {k g : Nat} (hk20 : k ≤ 20) (hvw : ∀ j, j < 8 → wf j = vf j) (hsu : ∀ j, j < k → uf j = sf j) (him : ∀ j, j < 8 → jm j = im j) {pm ge gm : Value} {q : Nat} (hq6 : q ≤ 6) (hg24 : g ≤ 24) {txs : List Value} {PE rp ac tx tb n m : Nat} {pef : Nat → Option Nat} {tbf : Nat → Int32} {rrow ace acm : Value} (hpq : 4 < q) (hn : n ≤ 60) (hm : m ≤ 30) (hPE : 414 ≤ PE) (hrp : 414 ≤ rp) (hac : 414 ≤ ac) (htx : 414 ≤ tx) (htb : 414 ≤ tb) (hpe : pef 4 = some rp)  (hx1 : xs (i + 1) = nI 4) (H0 : mj_rd h 0 = some (.inr (0, [.ref 1, .ref 38, .ref 299, .ref 336, .ref 373, .ref 375, .ref 378, .ref 381, .ref 387, .ref 393, gs, pl, .ref 397, .ref 398, .ref 399, .long sd, .long be]))) (H38 : mj_rd h 38 = some (.inr (6, [.ref 39, .ref 40, .int (nI q)]))) (H39 : mj_rd h 39 = some (.inl (8, (6, .inr (.inr (.inr (.inr ((fun j => if j < 6 then some (77 + 37 * j) else none))))))))) (H225 : mj_rd h 225 = some (.inr (1, [.ref 226, .ref 228, .ref 261]))) (H228 : mj_rd h 228 = some (.inr (3, [.ref 229, .ref 230, .int (nI m)]))) (H400 : mj_rd h 400 = some (.inr (17, [.int th, .ref 401, .ref 402, ty, .long sd, .long be, .ref 410, wa, nw, nx, .ref 411]))) (H401 : mj_rd h 401 = some (.inr (18, [.ref PE, .int (nI q), pm]))) (H412 : mj_rd h 412 = some (.inl (4, (1, .inr (.inl (ou)))))) (HPE : mj_rd h PE = some (.inl (6, (10, .inr (.inr (.inr (.inr (pef)))))))) (Hrp : mj_rd h rp = some (.inr (26, [rrow, .ref tx, .ref ac]))) (Hac : mj_rd h ac = some (.inr (18, [ace, .int (nI m), acm]))) (hn : ∀ (l6 l7 l8 l9 : Option Value) (h' : mj_H), mj_rd h' 400 = some (.inr (17, [.int (nI 0), .ref 401, .ref 402, ty, .long sd, .long be, .ref 410, wa, nw, nx, .ref 411])) ∧ mj_rd h' 412 = some (.inl (4, (1, .inr (.inl ((vp_updL ou 0 (Int32.toInt64 (nI m)))))))) ∧ mz_fr [400, 412] h h' ∧ h'.length ≤ N + 0 ∧ mj_sz h' ≤ mj_sz h + 0 → mj_lrun L xs (28, [some (.retAddr 1), some (.ref 0), some (.ref 400), some (.ref 412), some (.ref 413), some (.int (nI (i + 4))), l6, l7, l8, l9], [], h') P) : mj_lrun L xs (28, [some (.retAddr 1), some (.ref 0), some (.ref 400), some (.ref 412), some (.ref 413), some (.int (nI i)), l6, l7, l8, l9], [], h) P := by
  refine l_ild (p' := 30) rfl rfl rfl rfl ?_
  refine l_alds (p' := 31) rfl rfl rfl rfl ?_
  refine l_lens (p' := 32) rfl rfl rfl ?_
  refine l_con (p' := 33) rfl rfl rfl ?_
  refine l_bz (p' := 34) (z := (nI (L - 4))) rfl rfl rfl rfl rfl (mI_sub (by omega)) ?_
  refine l_icmp (p' := 37) false rfl rfl ((ci_gt (by omega) (by omega)).trans (decide_eq_false (by omega))) rfl ?_
  refine l_alds (p' := 38) rfl rfl rfl rfl ?_
  refine l_ild (p' := 40) rfl rfl rfl rfl ?_
  refine l_ialz (p' := 41) (m := i) (z := (xs i)) rfl rfl (inb_nI (by omega) (by omega)) (mI_cl (by omega)) rfl rfl ?_
  refine l_bip (p' := 43) rfl rfl rfl ?_
  refine l_bz (p' := 44) (z := (nI 8)) rfl rfl rfl rfl rfl hk ?_
  refine l_sp (p' := 643) (ls' := _) rfl rfl rfl rfl rfl ?_
  refine l_aldn (p' := 644) rfl rfl rfl rfl ?_
  refine l_alds (p' := 645) rfl rfl rfl rfl ?_
  refine l_ild (p' := 647) rfl rfl rfl rfl ?_
  refine l_con (p' := 648) rfl rfl rfl ?_
  refine l_bz (p' := 649) (z := (nI (i + 1))) rfl rfl rfl rfl rfl (mI_add _ _) ?_
  refine l_ialz (p' := 650) (m := (i + 1)) (z := (nI 4)) rfl rfl (inb_nI (by omega) (by omega)) (mI_cl (by omega)) hx1 rfl ?_
  refine l_aldn (p' := 651) rfl rfl rfl rfl ?_
  refine l_call (p' := 654) (kc := 99) (ls0 := [_, _, _, _]) rfl rfl rfl rfl rfl rfl rfl rfl rfl rfl ?_
  refine s_aldn (p' := 1) rfl rfl rfl ?_
  refine s_con (p' := 2) rfl rfl ?_
  refine s_aldn (p' := 3) rfl rfl rfl ?_
  refine s_ildn (p' := 4) rfl rfl rfl ?_
  refine c_call (p' := 7) (kc := 98) (ls0 := [_, _]) rfl rfl rfl rfl rfl (mj_rcv_is H0) rfl rfl rfl ?_
  refine s_aldn (p' := 1) rfl rfl rfl ?_
  refine s_gf (p' := 4) rfl H0 rfl rfl ?_
  refine s_ildn (p' := 5) rfl rfl rfl ?_
  refine c_call (p' := 8) (kc := 97) (ls0 := [_, _]) rfl rfl rfl rfl rfl (mj_rcv_is H38) rfl rfl rfl ?_
  refine s_ildn (p' := 1) rfl rfl rfl ?_
  refine s_if (p' := 4) false rfl (by decide +kernel) rfl ?_
  refine s_ildn (p' := 5) rfl rfl rfl ?_
  refine s_aldn (p' := 6) rfl rfl rfl ?_
  refine s_gf (p' := 9) rfl H38 rfl rfl ?_
  refine s_icmp (p' := 12) false rfl ((ch_ge (w := 4) (by decide +kernel)).trans (decide_eq_false (by rw [mI_ti (by omega)]; omega))) rfl ?_
  refine s_con (p' := 13) rfl rfl ?_
  refine s_goto (p' := 17) rfl rfl ?_
  refine c_iret rfl (by decide +kernel) ?_
  refine s_if (p' := 21) true rfl (by decide +kernel) rfl ?_
  refine s_aldn (p' := 22) rfl rfl rfl ?_
  refine s_gf (p' := 25) rfl H0 rfl rfl ?_
  refine s_ildn (p' := 26) rfl rfl rfl ?_
  refine c_call (p' := 29) (kc := 97) (ls0 := [_, _]) rfl rfl rfl rfl rfl (mj_rcv_is H38) rfl rfl rfl ?_
  refine s_ildn (p' := 1) rfl rfl rfl ?_
  refine s_if (p' := 4) false rfl (by decide +kernel) rfl ?_
  refine s_ildn (p' := 5) rfl rfl rfl ?_
  refine s_aldn (p' := 6) rfl rfl rfl ?_
  refine s_gf (p' := 9) rfl H38 rfl rfl ?_
  refine s_icmp (p' := 12) false rfl ((ch_ge (w := 4) (by decide +kernel)).trans (decide_eq_false (by rw [mI_ti (by omega)]; omega))) rfl ?_
  refine s_ildn (p' := 13) rfl rfl rfl ?_
  refine s_aldn (p' := 14) rfl rfl rfl ?_
  refine s_gf (p' := 17) rfl H38 rfl rfl ?_
  refine s_lenz (p' := 18) rfl (mj_rdA_is H39 (by decide)) rfl rfl ?_
  refine s_icmp (p' := 21) false rfl (by decide +kernel) rfl ?_
  refine s_aldn (p' := 22) rfl rfl rfl ?_
  refine s_gf (p' := 25) rfl H38 rfl rfl ?_
  refine s_ildn (p' := 26) rfl rfl rfl ?_
  refine s_aalz (p' := 27) (m := 4) (q := (some 225)) (v := .ref 225) rfl (mj_rdA_is H39 (by decide)) rfl (by decide +kernel) rfl rfl rfl rfl ?_
  refine s_gf (p' := 30) rfl H225 rfl rfl ?_
  refine s_goto (p' := 40) rfl rfl ?_
  refine c_aret rfl ?_
  refine c_call (p' := 32) (kc := 97) (ls0 := [_]) rfl rfl rfl rfl rfl (mj_rcv_is H228) rfl rfl rfl ?_
  refine s_aldn (p' := 1) rfl rfl rfl ?_
  refine s_gf (p' := 4) rfl H228 rfl rfl ?_
  refine c_iret rfl rfl ?_
  refine c_iret rfl rfl ?_
  refine s_bzL (p' := 8) (z := (Int32.toInt64 (nI m))) rfl rfl rfl rfl ?_
  refine s_lasz (p' := 9) (m := 0) rfl rfl H412 (by decide +kernel) rfl rfl rfl ?_
  refine s_goto (p' := 15) rfl rfl ?_
  refine s_con (p' := 16) rfl rfl ?_
  refine k_iret rfl rfl ?_
  refine l_ist (p' := 656) (ls' := [_, _, _, _, _, _, _, _, _, _]) rfl rfl rfl rfl rfl ?_
  refine l_aldn (p' := 657) rfl rfl rfl rfl ?_
  refine l_alds (p' := 658) rfl rfl rfl rfl ?_
  refine l_ild (p' := 660) rfl rfl rfl rfl ?_
  refine l_con (p' := 661) rfl rfl rfl ?_
  refine l_bz (p' := 662) (z := (nI (i + 1))) rfl rfl rfl rfl rfl (mI_add _ _) ?_
  refine l_ialz (p' := 663) (m := (i + 1)) (z := (nI 4)) rfl rfl (inb_nI (by omega) (by omega)) (mI_cl (by omega)) hx1 rfl ?_
  refine l_call (p' := 666) (kc := 99) (ls0 := [_, _]) rfl rfl rfl rfl rfl rfl (mj_rcv_is (rd_sn rfl H400)) rfl rfl rfl ?_
  refine s_aldn (p' := 1) rfl rfl rfl ?_
  refine s_aldn (p' := 2) rfl rfl rfl ?_
  refine s_ildn (p' := 3) rfl rfl rfl ?_
  refine c_call (p' := 6) (kc := 98) (ls0 := [_, _]) rfl rfl rfl rfl rfl (mj_rcv_is (rd_sn rfl H400)) rfl rfl rfl ?_
  refine s_ildn (p' := 1) rfl rfl rfl ?_
  refine s_con (p' := 2) rfl rfl ?_
  refine s_aldn (p' := 3) rfl rfl rfl ?_
  refine s_gf (p' := 6) rfl (rd_sn rfl H400) rfl rfl ?_
  refine c_call (p' := 11) (kc := 97) (ls0 := [_]) rfl rfl rfl rfl rfl (mj_rcv_is (rd_sn rfl H401)) rfl rfl rfl ?_
  refine s_aldn (p' := 1) rfl rfl rfl ?_
  refine s_gf (p' := 4) rfl (rd_sn rfl H401) rfl rfl ?_
  refine c_iret rfl rfl ?_
  refine s_con (p' := 12) rfl rfl ?_
  refine s_bz (p' := 13) (z := (nI (q - 1))) rfl rfl rfl (mI_sub (by omega)) ?_
  refine c_call (p' := 16) (kc := 97) (ls0 := [_, _, _]) rfl rfl rfl rfl rfl rfl rfl rfl rfl ?_
  refine s_ildn (p' := 1) rfl rfl rfl ?_
  refine s_ildn (p' := 2) rfl rfl rfl ?_
  refine s_icmp (p' := 5) false rfl (by decide +kernel) rfl ?_
  refine s_ildn (p' := 6) rfl rfl rfl ?_
  refine s_ildn (p' := 7) rfl rfl rfl ?_
  refine s_icmp (p' := 10) false rfl ((ch_gt (w := 4) (by decide +kernel)).trans (decide_eq_false (by rw [mI_ti (by omega)]; omega))) rfl ?_
  refine s_con (p' := 11) rfl rfl ?_
  refine s_goto (p' := 15) rfl rfl ?_
  refine c_iret rfl (by decide +kernel) ?_
  refine c_iret rfl (by decide +kernel) ?_
  refine s_if (p' := 9) false rfl (by decide +kernel) rfl ?_
  refine s_con (p' := 10) rfl rfl ?_
  refine s_goto (p' := 14) rfl rfl ?_
  refine c_call (p' := 17) (kc := 98) (ls0 := [_, _]) rfl rfl rfl rfl rfl (mj_rcv_is (rd_sn rfl H400)) rfl rfl rfl ?_
  refine s_aldn (p' := 1) rfl rfl rfl ?_
  refine s_ildn (p' := 2) rfl rfl rfl ?_
  refine s_pfz (p' := 5) (fs' := [_, _, _, _, _, _, _, _, _, _, _]) rfl rfl (rd_sn rfl H400) rfl rfl rfl rfl ?_
  refine s_ildn (p' := 6) rfl rfl rfl ?_
  refine s_if (p' := 13) true rfl (by decide +kernel) rfl ?_
  refine s_con (p' := 14) rfl rfl ?_
  refine c_iret rfl (by decide +kernel) ?_
  refine s_if (p' := 24) true rfl (by decide +kernel) rfl ?_
  refine s_aldn (p' := 25) rfl rfl rfl ?_
  refine s_gf (p' := 28) rfl (rd_ss rfl (rd_sn rfl H400)) rfl rfl ?_
  refine s_ildn (p' := 29) rfl rfl rfl ?_
  refine c_call (p' := 34) (kc := 98) (ls0 := [_, _]) rfl rfl rfl rfl rfl (mj_rcv_is (rd_sn rfl (rd_sn rfl H401))) rfl rfl rfl ?_
  refine s_ildn (p' := 1) rfl rfl rfl ?_
  refine s_aldn (p' := 2) rfl rfl rfl ?_
  refine s_gf (p' := 5) rfl (rd_sn rfl (rd_sn rfl H401)) rfl rfl ?_
  refine c_call (p' := 8) (kc := 97) (ls0 := [_, _]) rfl rfl rfl rfl rfl rfl rfl rfl rfl ?_
  refine s_ildn (p' := 1) rfl rfl rfl ?_
  refine s_ildn (p' := 2) rfl rfl rfl ?_
  refine s_sp (p' := 3) (ls' := _) rfl rfl rfl ?_
  refine c_call (p' := 6) (kc := 96) (ls0 := [_, _, _]) rfl rfl rfl rfl rfl rfl rfl rfl rfl ?_
  refine s_ildn (p' := 1) rfl rfl rfl ?_
  refine s_if (p' := 4) false rfl (by decide +kernel) rfl ?_
  refine s_ildn (p' := 5) rfl rfl rfl ?_
  refine s_ildn (p' := 6) rfl rfl rfl ?_
  refine s_icmp (p' := 16) true rfl ((ch_lt (w := 4) (by decide +kernel)).trans (decide_eq_true (by rw [mI_ti (by omega)]; omega))) rfl ?_
  refine s_ildn (p' := 17) rfl rfl rfl ?_
  refine c_iret rfl rfl ?_
  refine c_iret rfl rfl ?_
  refine s_sp (p' := 9) (ls' := _) rfl rfl rfl ?_
  refine s_aldn (p' := 10) rfl rfl rfl ?_
  refine s_ildn (p' := 11) rfl rfl rfl ?_
  refine c_call (p' := 14) (kc := 97) (ls0 := [_, _]) rfl rfl rfl rfl rfl (mj_rcv_is (rd_sn rfl (rd_sn rfl H401))) rfl rfl rfl ?_
  refine s_aldn (p' := 1) rfl rfl rfl ?_
  refine s_gf (p' := 4) rfl (rd_sn rfl (rd_sn rfl H401)) rfl rfl ?_
  refine s_ildn (p' := 5) rfl rfl rfl ?_
  refine s_aalz (p' := 6) (m := 4) (q := (some rp)) (v := .ref rp) rfl (mj_rdA_is (rd_sn (beq_eq_false_iff_ne.mpr (by omega)) (rd_sn (beq_eq_false_iff_ne.mpr (by omega)) HPE)) (by decide)) rfl (by decide +kernel) rfl hpe rfl rfl ?_
  refine c_aret rfl ?_
  refine c_aret rfl ?_
  refine s_cco (p' := 37) rfl (rd_sn (beq_eq_false_iff_ne.mpr (by omega)) (rd_sn (beq_eq_false_iff_ne.mpr (by omega)) Hrp)) rfl ?_
  refine s_gf (p' := 40) rfl (rd_sn (beq_eq_false_iff_ne.mpr (by omega)) (rd_sn (beq_eq_false_iff_ne.mpr (by omega)) Hrp)) rfl rfl ?_
  refine c_call (p' := 45) (kc := 98) (ls0 := [_]) rfl rfl rfl rfl rfl (mj_rcv_is (rd_sn (beq_eq_false_iff_ne.mpr (by omega)) (rd_sn (beq_eq_false_iff_ne.mpr (by omega)) Hac))) rfl rfl rfl ?_
  refine s_aldn (p' := 1) rfl rfl rfl ?_
  refine s_gf (p' := 4) rfl (rd_sn (beq_eq_false_iff_ne.mpr (by omega)) (rd_sn (beq_eq_false_iff_ne.mpr (by omega)) Hac)) rfl rfl ?_
  refine c_iret rfl rfl ?_
  refine k_iret rfl rfl ?_
  refine l_ist (p' := 668) (ls' := [_, _, _, _, _, _, _, _, _, _]) rfl rfl rfl rfl rfl ?_
  refine l_aldn (p' := 669) rfl rfl rfl rfl ?_
  refine l_call (p' := 672) (kc := 99) (ls0 := [_]) rfl rfl rfl rfl rfl rfl (mj_rcv_is (rd_ss rfl (rd_sn rfl H400))) rfl rfl rfl ?_
  refine s_aldn (p' := 1) rfl rfl rfl ?_
  refine s_gf (p' := 4) rfl (rd_ss rfl (rd_sn rfl H400)) rfl rfl ?_
  refine k_iret rfl rfl ?_
  refine l_ild (p' := 674) rfl rfl rfl rfl ?_
  refine l_icmp (p' := 679) true rfl rfl (by decide +kernel) rfl ?_
  refine l_ild (p' := 681) rfl rfl rfl rfl ?_
  refine l_if (p' := 684) false rfl rfl (by decide +kernel) rfl ?_
  refine l_aldn (p' := 685) rfl rfl rfl rfl ?_
  refine l_con (p' := 686) rfl rfl rfl ?_
  refine l_lalz (p' := 687) (m := 0) (v := (Int32.toInt64 (nI m))) rfl rfl (rd_sn rfl (rd_ss rfl H412)) (by decide +kernel) rfl rfl rfl ?_
  refine l_ild (p' := 689) rfl rfl rfl rfl ?_
  refine l_bzL (p' := 690) (z := (Int32.toInt64 (nI m))) rfl rfl rfl rfl rfl rfl ?_
  refine l_bz (p' := 691) (z := nI 0) rfl rfl rfl rfl rfl (lcmp_self _) ?_
  refine l_if (p' := 696) true rfl rfl (by decide +kernel) rfl ?_
  refine l_goto (p' := 2541) rfl rfl rfl ?_
  refine l_incz (p' := 2544) (w := (nI (i + 4))) (ls' := [_, _, _, _, _, _, _, _, _, _]) rfl rfl rfl rfl (mI_add _ _) rfl rfl ?_
  refine l_goto (p' := 28) rfl rfl rfl ?_
  exact hn _ _ _ _ _ ⟨(rd_ss rfl (rd_sn rfl H400)), (rd_sn rfl (rd_ss rfl H412)), (mz_fr.s (by decide) (mz_fr.s (by decide) (mz_fr.rf _ h))), (Nat.le_trans (Nat.le_of_eq (len_s (len_s HL))) (by omega)), (Nat.le_trans (sz_s rfl (rd_sn rfl H400) rfl (sz_sA rfl H412 (Nat.le_refl (mj_sz h)))) (by omega))⟩
theorem w_6_5 {L i N : Nat} {xs : Nat → Int32} {h : mj_H} {l6 l7 l8 l9 : Option Value} {P : mj_H → Prop} (hL : L ≤ 2048) (hi : i + 4 ≤ L) (hN : N + 2000 < mj_CB) (hN0 : 414 ≤ N) (HL : h.length = N) (hk : xs i &&& nI 63 = nI 6) {gs pl ty wa nw nx dp ca mf : Value} {th : Int32} {sd be : Int64} {ou : Nat → Int64} {vf wf sf uf im jm : Nat → Int32} {k g : Nat} (hk20 : k ≤ 20) (hvw : ∀ j, j < 8 → wf j = vf j) (hsu : ∀ j, j < k → uf j = sf j) (him : ∀ j, j < 8 → jm j = im j) {pm ge gm : Value} {q : Nat} (hq6 : q ≤ 6) (hg24 : g ≤ 24) {txs : List Value} {PE rp ac tx tb n m : Nat} {pef : Nat → Option Nat} {tbf : Nat → Int32} {rrow ace acm : Value} (hpq : 5 < q) (hn : n ≤ 60) (hm : m ≤ 30) (hPE : 414 ≤ PE) (hrp : 414 ≤ rp) (hac : 414 ≤ ac) (htx : 414 ≤ tx) (htb : 414 ≤ tb) (hpe : pef 5 = some rp)  (hx1 : xs (i + 1) = nI 5) (H0 : mj_rd h 0 = some (.inr (0, [.ref 1, .ref 38, .ref 299, .ref 336, .ref 373, .ref 375, .ref 378, .ref 381, .ref 387, .ref 393, gs, pl, .ref 397, .ref 398, .ref 399, .long sd, .long be]))) (H38 : mj_rd h 38 = some (.inr (6, [.ref 39, .ref 40, .int (nI q)]))) (H39 : mj_rd h 39 = some (.inl (8, (6, .inr (.inr (.inr (.inr ((fun j => if j < 6 then some (77 + 37 * j) else none))))))))) (H262 : mj_rd h 262 = some (.inr (1, [.ref 263, .ref 265, .ref 298]))) (H263 : mj_rd h 263 = some (.inr (2, [.ref 264, .int (nI n)]))) (H400 : mj_rd h 400 = some (.inr (17, [.int th, .ref 401, .ref 402, ty, .long sd, .long be, .ref 410, wa, nw, nx, .ref 411]))) (H401 : mj_rd h 401 = some (.inr (18, [.ref PE, .int (nI q), pm]))) (H412 : mj_rd h 412 = some (.inl (4, (1, .inr (.inl (ou)))))) (HPE : mj_rd h PE = some (.inl (6, (10, .inr (.inr (.inr (.inr (pef)))))))) (Hrp : mj_rd h rp = some (.inr (26, [rrow, .ref tx, .ref ac]))) (Htx : mj_rd h tx = some (.inr (21, .ref tb :: .int (nI 0) :: txs))) (Htb : mj_rd h tb = some (.inl (1, (n, .inl (tbf))))) (hn : ∀ (l6 l7 l8 l9 : Option Value) (h' : mj_H), mj_rd h' 400 = some (.inr (17, [.int (nI 0), .ref 401, .ref 402, ty, .long sd, .long be, .ref 410, wa, nw, nx, .ref 411])) ∧ mj_rd h' 412 = some (.inl (4, (1, .inr (.inl ((vp_updL ou 0 (Int32.toInt64 (nI n)))))))) ∧ mz_fr [400, 412] h h' ∧ h'.length ≤ N + 0 ∧ mj_sz h' ≤ mj_sz h + 0 → mj_lrun L xs (28, [some (.retAddr 1), some (.ref 0), some (.ref 400), some (.ref 412), some (.ref 413), some (.int (nI (i + 4))), l6, l7, l8, l9], [], h') P) : mj_lrun L xs (28, [some (.retAddr 1), some (.ref 0), some (.ref 400), some (.ref 412), some (.ref 413), some (.int (nI i)), l6, l7, l8, l9], [], h) P := by
  refine l_ild (p' := 30) rfl rfl rfl rfl ?_
  refine l_alds (p' := 31) rfl rfl rfl rfl ?_
  refine l_lens (p' := 32) rfl rfl rfl ?_
  refine l_con (p' := 33) rfl rfl rfl ?_
  refine l_bz (p' := 34) (z := (nI (L - 4))) rfl rfl rfl rfl rfl (mI_sub (by omega)) ?_
  refine l_icmp (p' := 37) false rfl rfl ((ci_gt (by omega) (by omega)).trans (decide_eq_false (by omega))) rfl ?_
  refine l_alds (p' := 38) rfl rfl rfl rfl ?_
  refine l_ild (p' := 40) rfl rfl rfl rfl ?_
  refine l_ialz (p' := 41) (m := i) (z := (xs i)) rfl rfl (inb_nI (by omega) (by omega)) (mI_cl (by omega)) rfl rfl ?_
  refine l_bip (p' := 43) rfl rfl rfl ?_
  refine l_bz (p' := 44) (z := (nI 6)) rfl rfl rfl rfl rfl hk ?_
  refine l_sp (p' := 519) (ls' := _) rfl rfl rfl rfl rfl ?_
  refine l_aldn (p' := 520) rfl rfl rfl rfl ?_
  refine l_alds (p' := 521) rfl rfl rfl rfl ?_
  refine l_ild (p' := 523) rfl rfl rfl rfl ?_
  refine l_con (p' := 524) rfl rfl rfl ?_
  refine l_bz (p' := 525) (z := (nI (i + 1))) rfl rfl rfl rfl rfl (mI_add _ _) ?_
  refine l_ialz (p' := 526) (m := (i + 1)) (z := (nI 5)) rfl rfl (inb_nI (by omega) (by omega)) (mI_cl (by omega)) hx1 rfl ?_
  refine l_aldn (p' := 527) rfl rfl rfl rfl ?_
  refine l_call (p' := 530) (kc := 99) (ls0 := [_, _, _, _]) rfl rfl rfl rfl rfl rfl rfl rfl rfl rfl ?_
  refine s_aldn (p' := 1) rfl rfl rfl ?_
  refine s_con (p' := 2) rfl rfl ?_
  refine s_aldn (p' := 3) rfl rfl rfl ?_
  refine s_ildn (p' := 4) rfl rfl rfl ?_
  refine c_call (p' := 7) (kc := 98) (ls0 := [_, _]) rfl rfl rfl rfl rfl (mj_rcv_is H0) rfl rfl rfl ?_
  refine s_aldn (p' := 1) rfl rfl rfl ?_
  refine s_gf (p' := 4) rfl H0 rfl rfl ?_
  refine s_ildn (p' := 5) rfl rfl rfl ?_
  refine c_call (p' := 8) (kc := 97) (ls0 := [_, _]) rfl rfl rfl rfl rfl (mj_rcv_is H38) rfl rfl rfl ?_
  refine s_ildn (p' := 1) rfl rfl rfl ?_
  refine s_if (p' := 4) false rfl (by decide +kernel) rfl ?_
  refine s_ildn (p' := 5) rfl rfl rfl ?_
  refine s_aldn (p' := 6) rfl rfl rfl ?_
  refine s_gf (p' := 9) rfl H38 rfl rfl ?_
  refine s_icmp (p' := 12) false rfl ((ch_ge (w := 5) (by decide +kernel)).trans (decide_eq_false (by rw [mI_ti (by omega)]; omega))) rfl ?_
  refine s_con (p' := 13) rfl rfl ?_
  refine s_goto (p' := 17) rfl rfl ?_
  refine c_iret rfl (by decide +kernel) ?_
  refine s_if (p' := 21) true rfl (by decide +kernel) rfl ?_
  refine s_aldn (p' := 22) rfl rfl rfl ?_
  refine s_gf (p' := 25) rfl H0 rfl rfl ?_
  refine s_ildn (p' := 26) rfl rfl rfl ?_
  refine c_call (p' := 29) (kc := 97) (ls0 := [_, _]) rfl rfl rfl rfl rfl (mj_rcv_is H38) rfl rfl rfl ?_
  refine s_aldn (p' := 1) rfl rfl rfl ?_
  refine s_ildn (p' := 2) rfl rfl rfl ?_
  refine c_call (p' := 5) (kc := 96) (ls0 := [_, _]) rfl rfl rfl rfl rfl (mj_rcv_is H38) rfl rfl rfl ?_
  refine s_ildn (p' := 1) rfl rfl rfl ?_
  refine s_if (p' := 4) false rfl (by decide +kernel) rfl ?_
  refine s_ildn (p' := 5) rfl rfl rfl ?_
  refine s_aldn (p' := 6) rfl rfl rfl ?_
  refine s_gf (p' := 9) rfl H38 rfl rfl ?_
  refine s_icmp (p' := 12) false rfl ((ch_ge (w := 5) (by decide +kernel)).trans (decide_eq_false (by rw [mI_ti (by omega)]; omega))) rfl ?_
  refine s_con (p' := 13) rfl rfl ?_
  refine s_goto (p' := 17) rfl rfl ?_
  refine c_iret rfl (by decide +kernel) ?_
  refine s_if (p' := 8) false rfl (by decide +kernel) rfl ?_
  refine s_ildn (p' := 9) rfl rfl rfl ?_
  refine s_aldn (p' := 10) rfl rfl rfl ?_
  refine s_gf (p' := 13) rfl H38 rfl rfl ?_
  refine s_lenz (p' := 14) rfl (mj_rdA_is H39 (by decide)) rfl rfl ?_
  refine s_icmp (p' := 17) false rfl (by decide +kernel) rfl ?_
  refine s_aldn (p' := 18) rfl rfl rfl ?_
  refine s_gf (p' := 21) rfl H38 rfl rfl ?_
  refine s_ildn (p' := 22) rfl rfl rfl ?_
  refine s_aalz (p' := 23) (m := 5) (q := (some 262)) (v := .ref 262) rfl (mj_rdA_is H39 (by decide)) rfl (by decide +kernel) rfl rfl rfl rfl ?_
  refine s_goto (p' := 30) rfl rfl ?_
  refine c_aret rfl ?_
  refine s_gf (p' := 32) rfl H262 rfl rfl ?_
  refine c_call (p' := 35) (kc := 97) (ls0 := [_]) rfl rfl rfl rfl rfl (mj_rcv_is H263) rfl rfl rfl ?_
  refine s_aldn (p' := 1) rfl rfl rfl ?_
  refine s_gf (p' := 4) rfl H263 rfl rfl ?_
  refine c_iret rfl rfl ?_
  refine c_iret rfl rfl ?_
  refine s_bzL (p' := 8) (z := (Int32.toInt64 (nI n))) rfl rfl rfl rfl ?_
  refine s_lasz (p' := 9) (m := 0) rfl rfl H412 (by decide +kernel) rfl rfl rfl ?_
  refine s_goto (p' := 15) rfl rfl ?_
  refine s_con (p' := 16) rfl rfl ?_
  refine k_iret rfl rfl ?_
  refine l_ist (p' := 532) (ls' := [_, _, _, _, _, _, _, _, _, _]) rfl rfl rfl rfl rfl ?_
  refine l_aldn (p' := 533) rfl rfl rfl rfl ?_
  refine l_alds (p' := 534) rfl rfl rfl rfl ?_
  refine l_ild (p' := 536) rfl rfl rfl rfl ?_
  refine l_con (p' := 537) rfl rfl rfl ?_
  refine l_bz (p' := 538) (z := (nI (i + 1))) rfl rfl rfl rfl rfl (mI_add _ _) ?_
  refine l_ialz (p' := 539) (m := (i + 1)) (z := (nI 5)) rfl rfl (inb_nI (by omega) (by omega)) (mI_cl (by omega)) hx1 rfl ?_
  refine l_call (p' := 542) (kc := 99) (ls0 := [_, _]) rfl rfl rfl rfl rfl rfl (mj_rcv_is (rd_sn rfl H400)) rfl rfl rfl ?_
  refine s_aldn (p' := 1) rfl rfl rfl ?_
  refine s_aldn (p' := 2) rfl rfl rfl ?_
  refine s_ildn (p' := 3) rfl rfl rfl ?_
  refine c_call (p' := 6) (kc := 98) (ls0 := [_, _]) rfl rfl rfl rfl rfl (mj_rcv_is (rd_sn rfl H400)) rfl rfl rfl ?_
  refine s_ildn (p' := 1) rfl rfl rfl ?_
  refine s_con (p' := 2) rfl rfl ?_
  refine s_aldn (p' := 3) rfl rfl rfl ?_
  refine s_gf (p' := 6) rfl (rd_sn rfl H400) rfl rfl ?_
  refine c_call (p' := 11) (kc := 97) (ls0 := [_]) rfl rfl rfl rfl rfl (mj_rcv_is (rd_sn rfl H401)) rfl rfl rfl ?_
  refine s_aldn (p' := 1) rfl rfl rfl ?_
  refine s_gf (p' := 4) rfl (rd_sn rfl H401) rfl rfl ?_
  refine c_iret rfl rfl ?_
  refine s_con (p' := 12) rfl rfl ?_
  refine s_bz (p' := 13) (z := (nI (q - 1))) rfl rfl rfl (mI_sub (by omega)) ?_
  refine c_call (p' := 16) (kc := 97) (ls0 := [_, _, _]) rfl rfl rfl rfl rfl rfl rfl rfl rfl ?_
  refine s_ildn (p' := 1) rfl rfl rfl ?_
  refine s_ildn (p' := 2) rfl rfl rfl ?_
  refine s_icmp (p' := 5) false rfl (by decide +kernel) rfl ?_
  refine s_ildn (p' := 6) rfl rfl rfl ?_
  refine s_ildn (p' := 7) rfl rfl rfl ?_
  refine s_icmp (p' := 10) false rfl ((ch_gt (w := 5) (by decide +kernel)).trans (decide_eq_false (by rw [mI_ti (by omega)]; omega))) rfl ?_
  refine s_con (p' := 11) rfl rfl ?_
  refine s_goto (p' := 15) rfl rfl ?_
  refine c_iret rfl (by decide +kernel) ?_
  refine c_iret rfl (by decide +kernel) ?_
  refine s_if (p' := 9) false rfl (by decide +kernel) rfl ?_
  refine s_con (p' := 10) rfl rfl ?_
  refine s_goto (p' := 14) rfl rfl ?_
  refine c_call (p' := 17) (kc := 98) (ls0 := [_, _]) rfl rfl rfl rfl rfl (mj_rcv_is (rd_sn rfl H400)) rfl rfl rfl ?_
  refine s_aldn (p' := 1) rfl rfl rfl ?_
  refine s_ildn (p' := 2) rfl rfl rfl ?_
  refine s_pfz (p' := 5) (fs' := [_, _, _, _, _, _, _, _, _, _, _]) rfl rfl (rd_sn rfl H400) rfl rfl rfl rfl ?_
  refine s_ildn (p' := 6) rfl rfl rfl ?_
  refine s_if (p' := 13) true rfl (by decide +kernel) rfl ?_
  refine s_con (p' := 14) rfl rfl ?_
  refine c_iret rfl (by decide +kernel) ?_
  refine s_if (p' := 24) true rfl (by decide +kernel) rfl ?_
  refine s_aldn (p' := 25) rfl rfl rfl ?_
  refine s_gf (p' := 28) rfl (rd_ss rfl (rd_sn rfl H400)) rfl rfl ?_
  refine s_ildn (p' := 29) rfl rfl rfl ?_
  refine c_call (p' := 34) (kc := 98) (ls0 := [_, _]) rfl rfl rfl rfl rfl (mj_rcv_is (rd_sn rfl (rd_sn rfl H401))) rfl rfl rfl ?_
  refine s_ildn (p' := 1) rfl rfl rfl ?_
  refine s_aldn (p' := 2) rfl rfl rfl ?_
  refine s_gf (p' := 5) rfl (rd_sn rfl (rd_sn rfl H401)) rfl rfl ?_
  refine c_call (p' := 8) (kc := 97) (ls0 := [_, _]) rfl rfl rfl rfl rfl rfl rfl rfl rfl ?_
  refine s_ildn (p' := 1) rfl rfl rfl ?_
  refine s_ildn (p' := 2) rfl rfl rfl ?_
  refine s_sp (p' := 3) (ls' := _) rfl rfl rfl ?_
  refine c_call (p' := 6) (kc := 96) (ls0 := [_, _, _]) rfl rfl rfl rfl rfl rfl rfl rfl rfl ?_
  refine s_ildn (p' := 1) rfl rfl rfl ?_
  refine s_if (p' := 4) false rfl (by decide +kernel) rfl ?_
  refine s_ildn (p' := 5) rfl rfl rfl ?_
  refine s_ildn (p' := 6) rfl rfl rfl ?_
  refine s_icmp (p' := 16) true rfl ((ch_lt (w := 5) (by decide +kernel)).trans (decide_eq_true (by rw [mI_ti (by omega)]; omega))) rfl ?_
  refine s_ildn (p' := 17) rfl rfl rfl ?_
  refine c_iret rfl rfl ?_
  refine c_iret rfl rfl ?_
  refine s_sp (p' := 9) (ls' := _) rfl rfl rfl ?_
  refine s_aldn (p' := 10) rfl rfl rfl ?_
  refine s_ildn (p' := 11) rfl rfl rfl ?_
  refine c_call (p' := 14) (kc := 97) (ls0 := [_, _]) rfl rfl rfl rfl rfl (mj_rcv_is (rd_sn rfl (rd_sn rfl H401))) rfl rfl rfl ?_
  refine s_aldn (p' := 1) rfl rfl rfl ?_
  refine s_gf (p' := 4) rfl (rd_sn rfl (rd_sn rfl H401)) rfl rfl ?_
  refine s_ildn (p' := 5) rfl rfl rfl ?_
  refine s_aalz (p' := 6) (m := 5) (q := (some rp)) (v := .ref rp) rfl (mj_rdA_is (rd_sn (beq_eq_false_iff_ne.mpr (by omega)) (rd_sn (beq_eq_false_iff_ne.mpr (by omega)) HPE)) (by decide)) rfl (by decide +kernel) rfl hpe rfl rfl ?_
  refine c_aret rfl ?_
  refine c_aret rfl ?_
  refine s_cco (p' := 37) rfl (rd_sn (beq_eq_false_iff_ne.mpr (by omega)) (rd_sn (beq_eq_false_iff_ne.mpr (by omega)) Hrp)) rfl ?_
  refine s_gf (p' := 40) rfl (rd_sn (beq_eq_false_iff_ne.mpr (by omega)) (rd_sn (beq_eq_false_iff_ne.mpr (by omega)) Hrp)) rfl rfl ?_
  refine c_call (p' := 43) (kc := 98) (ls0 := [_]) rfl rfl rfl rfl rfl (mj_rcv_is (rd_sn (beq_eq_false_iff_ne.mpr (by omega)) (rd_sn (beq_eq_false_iff_ne.mpr (by omega)) Htx))) rfl rfl rfl ?_
  refine s_aldn (p' := 1) rfl rfl rfl ?_
  refine s_gf (p' := 4) rfl (rd_sn (beq_eq_false_iff_ne.mpr (by omega)) (rd_sn (beq_eq_false_iff_ne.mpr (by omega)) Htx)) rfl rfl ?_
  refine s_lenz (p' := 5) rfl (mj_rdA_is (rd_sn (beq_eq_false_iff_ne.mpr (by omega)) (rd_sn (beq_eq_false_iff_ne.mpr (by omega)) Htb)) (by decide)) rfl rfl ?_
  refine s_aldn (p' := 6) rfl rfl rfl ?_
  refine c_call (p' := 9) (kc := 97) (ls0 := [_]) rfl rfl rfl rfl rfl (mj_rcv_is (rd_sn (beq_eq_false_iff_ne.mpr (by omega)) (rd_sn (beq_eq_false_iff_ne.mpr (by omega)) Htx))) rfl rfl rfl ?_
  refine s_sh (p' := 3) (ls' := _) (st' := .int (nI 1) :: _) (h' := _) rfl rfl rfl rfl ?_
  refine s_if (p' := 6) false rfl (by decide +kernel) rfl ?_
  refine s_aldn (p' := 7) rfl rfl rfl ?_
  refine s_gf (p' := 10) rfl (rd_sn (beq_eq_false_iff_ne.mpr (by omega)) (rd_sn (beq_eq_false_iff_ne.mpr (by omega)) Htx)) rfl rfl ?_
  refine s_goto (p' := 14) rfl rfl ?_
  refine c_iret rfl (by decide +kernel) ?_
  refine s_bz (p' := 10) (z := (nI n)) rfl rfl rfl (mI_shr0 (by omega)) ?_
  refine c_iret rfl rfl ?_
  refine k_iret rfl rfl ?_
  refine l_ist (p' := 544) (ls' := [_, _, _, _, _, _, _, _, _, _]) rfl rfl rfl rfl rfl ?_
  refine l_aldn (p' := 545) rfl rfl rfl rfl ?_
  refine l_call (p' := 548) (kc := 99) (ls0 := [_]) rfl rfl rfl rfl rfl rfl (mj_rcv_is (rd_ss rfl (rd_sn rfl H400))) rfl rfl rfl ?_
  refine s_aldn (p' := 1) rfl rfl rfl ?_
  refine s_gf (p' := 4) rfl (rd_ss rfl (rd_sn rfl H400)) rfl rfl ?_
  refine k_iret rfl rfl ?_
  refine l_ild (p' := 550) rfl rfl rfl rfl ?_
  refine l_icmp (p' := 555) true rfl rfl (by decide +kernel) rfl ?_
  refine l_ild (p' := 557) rfl rfl rfl rfl ?_
  refine l_if (p' := 560) false rfl rfl (by decide +kernel) rfl ?_
  refine l_aldn (p' := 561) rfl rfl rfl rfl ?_
  refine l_con (p' := 562) rfl rfl rfl ?_
  refine l_lalz (p' := 563) (m := 0) (v := (Int32.toInt64 (nI n))) rfl rfl (rd_sn rfl (rd_ss rfl H412)) (by decide +kernel) rfl rfl rfl ?_
  refine l_ild (p' := 565) rfl rfl rfl rfl ?_
  refine l_bzL (p' := 566) (z := (Int32.toInt64 (nI n))) rfl rfl rfl rfl rfl rfl ?_
  refine l_bz (p' := 567) (z := nI 0) rfl rfl rfl rfl rfl (lcmp_self _) ?_
  refine l_if (p' := 572) true rfl rfl (by decide +kernel) rfl ?_
  refine l_goto (p' := 2541) rfl rfl rfl ?_
  refine l_incz (p' := 2544) (w := (nI (i + 4))) (ls' := [_, _, _, _, _, _, _, _, _, _]) rfl rfl rfl rfl (mI_add _ _) rfl rfl ?_
  refine l_goto (p' := 28) rfl rfl rfl ?_
  exact hn _ _ _ _ _ ⟨(rd_ss rfl (rd_sn rfl H400)), (rd_sn rfl (rd_ss rfl H412)), (mz_fr.s (by decide) (mz_fr.s (by decide) (mz_fr.rf _ h))), (Nat.le_trans (Nat.le_of_eq (len_s (len_s HL))) (by omega)), (Nat.le_trans (sz_s rfl (rd_sn rfl H400) rfl (sz_sA rfl H412 (Nat.le_refl (mj_sz h)))) (by omega))⟩
theorem w_8_5 {L i N : Nat} {xs : Nat → Int32} {h : mj_H} {l6 l7 l8 l9 : Option Value} {P : mj_H → Prop} (hL : L ≤ 2048) (hi : i + 4 ≤ L) (hN : N + 2000 < mj_CB) (hN0 : 414 ≤ N) (HL : h.length = N) (hk : xs i &&& nI 63 = nI 8) {gs pl ty wa nw nx dp ca mf : Value} {th : Int32} {sd be : Int64} {ou : Nat → Int64} {vf wf sf uf im jm : Nat → Int32} {k g : Nat} (hk20 : k ≤ 20) (hvw : ∀ j, j < 8 → wf j = vf j) (hsu : ∀ j, j < k → uf j = sf j) (him : ∀ j, j < 8 → jm j = im j) {pm ge gm : Value} {q : Nat} (hq6 : q ≤ 6) (hg24 : g ≤ 24) {txs : List Value} {PE rp ac tx tb n m : Nat} {pef : Nat → Option Nat} {tbf : Nat → Int32} {rrow ace acm : Value} (hpq : 5 < q) (hn : n ≤ 60) (hm : m ≤ 30) (hPE : 414 ≤ PE) (hrp : 414 ≤ rp) (hac : 414 ≤ ac) (htx : 414 ≤ tx) (htb : 414 ≤ tb) (hpe : pef 5 = some rp)  (hx1 : xs (i + 1) = nI 5) (H0 : mj_rd h 0 = some (.inr (0, [.ref 1, .ref 38, .ref 299, .ref 336, .ref 373, .ref 375, .ref 378, .ref 381, .ref 387, .ref 393, gs, pl, .ref 397, .ref 398, .ref 399, .long sd, .long be]))) (H38 : mj_rd h 38 = some (.inr (6, [.ref 39, .ref 40, .int (nI q)]))) (H39 : mj_rd h 39 = some (.inl (8, (6, .inr (.inr (.inr (.inr ((fun j => if j < 6 then some (77 + 37 * j) else none))))))))) (H262 : mj_rd h 262 = some (.inr (1, [.ref 263, .ref 265, .ref 298]))) (H265 : mj_rd h 265 = some (.inr (3, [.ref 266, .ref 267, .int (nI m)]))) (H400 : mj_rd h 400 = some (.inr (17, [.int th, .ref 401, .ref 402, ty, .long sd, .long be, .ref 410, wa, nw, nx, .ref 411]))) (H401 : mj_rd h 401 = some (.inr (18, [.ref PE, .int (nI q), pm]))) (H412 : mj_rd h 412 = some (.inl (4, (1, .inr (.inl (ou)))))) (HPE : mj_rd h PE = some (.inl (6, (10, .inr (.inr (.inr (.inr (pef)))))))) (Hrp : mj_rd h rp = some (.inr (26, [rrow, .ref tx, .ref ac]))) (Hac : mj_rd h ac = some (.inr (18, [ace, .int (nI m), acm]))) (hn : ∀ (l6 l7 l8 l9 : Option Value) (h' : mj_H), mj_rd h' 400 = some (.inr (17, [.int (nI 0), .ref 401, .ref 402, ty, .long sd, .long be, .ref 410, wa, nw, nx, .ref 411])) ∧ mj_rd h' 412 = some (.inl (4, (1, .inr (.inl ((vp_updL ou 0 (Int32.toInt64 (nI m)))))))) ∧ mz_fr [400, 412] h h' ∧ h'.length ≤ N + 0 ∧ mj_sz h' ≤ mj_sz h + 0 → mj_lrun L xs (28, [some (.retAddr 1), some (.ref 0), some (.ref 400), some (.ref 412), some (.ref 413), some (.int (nI (i + 4))), l6, l7, l8, l9], [], h') P) : mj_lrun L xs (28, [some (.retAddr 1), some (.ref 0), some (.ref 400), some (.ref 412), some (.ref 413), some (.int (nI i)), l6, l7, l8, l9], [], h) P := by
  refine l_ild (p' := 30) rfl rfl rfl rfl ?_
  refine l_alds (p' := 31) rfl rfl rfl rfl ?_
  refine l_lens (p' := 32) rfl rfl rfl ?_
  refine l_con (p' := 33) rfl rfl rfl ?_
  refine l_bz (p' := 34) (z := (nI (L - 4))) rfl rfl rfl rfl rfl (mI_sub (by omega)) ?_
  refine l_icmp (p' := 37) false rfl rfl ((ci_gt (by omega) (by omega)).trans (decide_eq_false (by omega))) rfl ?_
  refine l_alds (p' := 38) rfl rfl rfl rfl ?_
  refine l_ild (p' := 40) rfl rfl rfl rfl ?_
  refine l_ialz (p' := 41) (m := i) (z := (xs i)) rfl rfl (inb_nI (by omega) (by omega)) (mI_cl (by omega)) rfl rfl ?_
  refine l_bip (p' := 43) rfl rfl rfl ?_
  refine l_bz (p' := 44) (z := (nI 8)) rfl rfl rfl rfl rfl hk ?_
  refine l_sp (p' := 643) (ls' := _) rfl rfl rfl rfl rfl ?_
  refine l_aldn (p' := 644) rfl rfl rfl rfl ?_
  refine l_alds (p' := 645) rfl rfl rfl rfl ?_
  refine l_ild (p' := 647) rfl rfl rfl rfl ?_
  refine l_con (p' := 648) rfl rfl rfl ?_
  refine l_bz (p' := 649) (z := (nI (i + 1))) rfl rfl rfl rfl rfl (mI_add _ _) ?_
  refine l_ialz (p' := 650) (m := (i + 1)) (z := (nI 5)) rfl rfl (inb_nI (by omega) (by omega)) (mI_cl (by omega)) hx1 rfl ?_
  refine l_aldn (p' := 651) rfl rfl rfl rfl ?_
  refine l_call (p' := 654) (kc := 99) (ls0 := [_, _, _, _]) rfl rfl rfl rfl rfl rfl rfl rfl rfl rfl ?_
  refine s_aldn (p' := 1) rfl rfl rfl ?_
  refine s_con (p' := 2) rfl rfl ?_
  refine s_aldn (p' := 3) rfl rfl rfl ?_
  refine s_ildn (p' := 4) rfl rfl rfl ?_
  refine c_call (p' := 7) (kc := 98) (ls0 := [_, _]) rfl rfl rfl rfl rfl (mj_rcv_is H0) rfl rfl rfl ?_
  refine s_aldn (p' := 1) rfl rfl rfl ?_
  refine s_gf (p' := 4) rfl H0 rfl rfl ?_
  refine s_ildn (p' := 5) rfl rfl rfl ?_
  refine c_call (p' := 8) (kc := 97) (ls0 := [_, _]) rfl rfl rfl rfl rfl (mj_rcv_is H38) rfl rfl rfl ?_
  refine s_ildn (p' := 1) rfl rfl rfl ?_
  refine s_if (p' := 4) false rfl (by decide +kernel) rfl ?_
  refine s_ildn (p' := 5) rfl rfl rfl ?_
  refine s_aldn (p' := 6) rfl rfl rfl ?_
  refine s_gf (p' := 9) rfl H38 rfl rfl ?_
  refine s_icmp (p' := 12) false rfl ((ch_ge (w := 5) (by decide +kernel)).trans (decide_eq_false (by rw [mI_ti (by omega)]; omega))) rfl ?_
  refine s_con (p' := 13) rfl rfl ?_
  refine s_goto (p' := 17) rfl rfl ?_
  refine c_iret rfl (by decide +kernel) ?_
  refine s_if (p' := 21) true rfl (by decide +kernel) rfl ?_
  refine s_aldn (p' := 22) rfl rfl rfl ?_
  refine s_gf (p' := 25) rfl H0 rfl rfl ?_
  refine s_ildn (p' := 26) rfl rfl rfl ?_
  refine c_call (p' := 29) (kc := 97) (ls0 := [_, _]) rfl rfl rfl rfl rfl (mj_rcv_is H38) rfl rfl rfl ?_
  refine s_ildn (p' := 1) rfl rfl rfl ?_
  refine s_if (p' := 4) false rfl (by decide +kernel) rfl ?_
  refine s_ildn (p' := 5) rfl rfl rfl ?_
  refine s_aldn (p' := 6) rfl rfl rfl ?_
  refine s_gf (p' := 9) rfl H38 rfl rfl ?_
  refine s_icmp (p' := 12) false rfl ((ch_ge (w := 5) (by decide +kernel)).trans (decide_eq_false (by rw [mI_ti (by omega)]; omega))) rfl ?_
  refine s_ildn (p' := 13) rfl rfl rfl ?_
  refine s_aldn (p' := 14) rfl rfl rfl ?_
  refine s_gf (p' := 17) rfl H38 rfl rfl ?_
  refine s_lenz (p' := 18) rfl (mj_rdA_is H39 (by decide)) rfl rfl ?_
  refine s_icmp (p' := 21) false rfl (by decide +kernel) rfl ?_
  refine s_aldn (p' := 22) rfl rfl rfl ?_
  refine s_gf (p' := 25) rfl H38 rfl rfl ?_
  refine s_ildn (p' := 26) rfl rfl rfl ?_
  refine s_aalz (p' := 27) (m := 5) (q := (some 262)) (v := .ref 262) rfl (mj_rdA_is H39 (by decide)) rfl (by decide +kernel) rfl rfl rfl rfl ?_
  refine s_gf (p' := 30) rfl H262 rfl rfl ?_
  refine s_goto (p' := 40) rfl rfl ?_
  refine c_aret rfl ?_
  refine c_call (p' := 32) (kc := 97) (ls0 := [_]) rfl rfl rfl rfl rfl (mj_rcv_is H265) rfl rfl rfl ?_
  refine s_aldn (p' := 1) rfl rfl rfl ?_
  refine s_gf (p' := 4) rfl H265 rfl rfl ?_
  refine c_iret rfl rfl ?_
  refine c_iret rfl rfl ?_
  refine s_bzL (p' := 8) (z := (Int32.toInt64 (nI m))) rfl rfl rfl rfl ?_
  refine s_lasz (p' := 9) (m := 0) rfl rfl H412 (by decide +kernel) rfl rfl rfl ?_
  refine s_goto (p' := 15) rfl rfl ?_
  refine s_con (p' := 16) rfl rfl ?_
  refine k_iret rfl rfl ?_
  refine l_ist (p' := 656) (ls' := [_, _, _, _, _, _, _, _, _, _]) rfl rfl rfl rfl rfl ?_
  refine l_aldn (p' := 657) rfl rfl rfl rfl ?_
  refine l_alds (p' := 658) rfl rfl rfl rfl ?_
  refine l_ild (p' := 660) rfl rfl rfl rfl ?_
  refine l_con (p' := 661) rfl rfl rfl ?_
  refine l_bz (p' := 662) (z := (nI (i + 1))) rfl rfl rfl rfl rfl (mI_add _ _) ?_
  refine l_ialz (p' := 663) (m := (i + 1)) (z := (nI 5)) rfl rfl (inb_nI (by omega) (by omega)) (mI_cl (by omega)) hx1 rfl ?_
  refine l_call (p' := 666) (kc := 99) (ls0 := [_, _]) rfl rfl rfl rfl rfl rfl (mj_rcv_is (rd_sn rfl H400)) rfl rfl rfl ?_
  refine s_aldn (p' := 1) rfl rfl rfl ?_
  refine s_aldn (p' := 2) rfl rfl rfl ?_
  refine s_ildn (p' := 3) rfl rfl rfl ?_
  refine c_call (p' := 6) (kc := 98) (ls0 := [_, _]) rfl rfl rfl rfl rfl (mj_rcv_is (rd_sn rfl H400)) rfl rfl rfl ?_
  refine s_ildn (p' := 1) rfl rfl rfl ?_
  refine s_con (p' := 2) rfl rfl ?_
  refine s_aldn (p' := 3) rfl rfl rfl ?_
  refine s_gf (p' := 6) rfl (rd_sn rfl H400) rfl rfl ?_
  refine c_call (p' := 11) (kc := 97) (ls0 := [_]) rfl rfl rfl rfl rfl (mj_rcv_is (rd_sn rfl H401)) rfl rfl rfl ?_
  refine s_aldn (p' := 1) rfl rfl rfl ?_
  refine s_gf (p' := 4) rfl (rd_sn rfl H401) rfl rfl ?_
  refine c_iret rfl rfl ?_
  refine s_con (p' := 12) rfl rfl ?_
  refine s_bz (p' := 13) (z := (nI (q - 1))) rfl rfl rfl (mI_sub (by omega)) ?_
  refine c_call (p' := 16) (kc := 97) (ls0 := [_, _, _]) rfl rfl rfl rfl rfl rfl rfl rfl rfl ?_
  refine s_ildn (p' := 1) rfl rfl rfl ?_
  refine s_ildn (p' := 2) rfl rfl rfl ?_
  refine s_icmp (p' := 5) false rfl (by decide +kernel) rfl ?_
  refine s_ildn (p' := 6) rfl rfl rfl ?_
  refine s_ildn (p' := 7) rfl rfl rfl ?_
  refine s_icmp (p' := 10) false rfl ((ch_gt (w := 5) (by decide +kernel)).trans (decide_eq_false (by rw [mI_ti (by omega)]; omega))) rfl ?_
  refine s_con (p' := 11) rfl rfl ?_
  refine s_goto (p' := 15) rfl rfl ?_
  refine c_iret rfl (by decide +kernel) ?_
  refine c_iret rfl (by decide +kernel) ?_
  refine s_if (p' := 9) false rfl (by decide +kernel) rfl ?_
  refine s_con (p' := 10) rfl rfl ?_
  refine s_goto (p' := 14) rfl rfl ?_
  refine c_call (p' := 17) (kc := 98) (ls0 := [_, _]) rfl rfl rfl rfl rfl (mj_rcv_is (rd_sn rfl H400)) rfl rfl rfl ?_
  refine s_aldn (p' := 1) rfl rfl rfl ?_
  refine s_ildn (p' := 2) rfl rfl rfl ?_
  refine s_pfz (p' := 5) (fs' := [_, _, _, _, _, _, _, _, _, _, _]) rfl rfl (rd_sn rfl H400) rfl rfl rfl rfl ?_
  refine s_ildn (p' := 6) rfl rfl rfl ?_
  refine s_if (p' := 13) true rfl (by decide +kernel) rfl ?_
  refine s_con (p' := 14) rfl rfl ?_
  refine c_iret rfl (by decide +kernel) ?_
  refine s_if (p' := 24) true rfl (by decide +kernel) rfl ?_
  refine s_aldn (p' := 25) rfl rfl rfl ?_
  refine s_gf (p' := 28) rfl (rd_ss rfl (rd_sn rfl H400)) rfl rfl ?_
  refine s_ildn (p' := 29) rfl rfl rfl ?_
  refine c_call (p' := 34) (kc := 98) (ls0 := [_, _]) rfl rfl rfl rfl rfl (mj_rcv_is (rd_sn rfl (rd_sn rfl H401))) rfl rfl rfl ?_
  refine s_ildn (p' := 1) rfl rfl rfl ?_
  refine s_aldn (p' := 2) rfl rfl rfl ?_
  refine s_gf (p' := 5) rfl (rd_sn rfl (rd_sn rfl H401)) rfl rfl ?_
  refine c_call (p' := 8) (kc := 97) (ls0 := [_, _]) rfl rfl rfl rfl rfl rfl rfl rfl rfl ?_
  refine s_ildn (p' := 1) rfl rfl rfl ?_
  refine s_ildn (p' := 2) rfl rfl rfl ?_
  refine s_sp (p' := 3) (ls' := _) rfl rfl rfl ?_
  refine c_call (p' := 6) (kc := 96) (ls0 := [_, _, _]) rfl rfl rfl rfl rfl rfl rfl rfl rfl ?_
  refine s_ildn (p' := 1) rfl rfl rfl ?_
  refine s_if (p' := 4) false rfl (by decide +kernel) rfl ?_
  refine s_ildn (p' := 5) rfl rfl rfl ?_
  refine s_ildn (p' := 6) rfl rfl rfl ?_
  refine s_icmp (p' := 16) true rfl ((ch_lt (w := 5) (by decide +kernel)).trans (decide_eq_true (by rw [mI_ti (by omega)]; omega))) rfl ?_
  refine s_ildn (p' := 17) rfl rfl rfl ?_
  refine c_iret rfl rfl ?_
  refine c_iret rfl rfl ?_
  refine s_sp (p' := 9) (ls' := _) rfl rfl rfl ?_
  refine s_aldn (p' := 10) rfl rfl rfl ?_
  refine s_ildn (p' := 11) rfl rfl rfl ?_
  refine c_call (p' := 14) (kc := 97) (ls0 := [_, _]) rfl rfl rfl rfl rfl (mj_rcv_is (rd_sn rfl (rd_sn rfl H401))) rfl rfl rfl ?_
  refine s_aldn (p' := 1) rfl rfl rfl ?_
  refine s_gf (p' := 4) rfl (rd_sn rfl (rd_sn rfl H401)) rfl rfl ?_
  refine s_ildn (p' := 5) rfl rfl rfl ?_
  refine s_aalz (p' := 6) (m := 5) (q := (some rp)) (v := .ref rp) rfl (mj_rdA_is (rd_sn (beq_eq_false_iff_ne.mpr (by omega)) (rd_sn (beq_eq_false_iff_ne.mpr (by omega)) HPE)) (by decide)) rfl (by decide +kernel) rfl hpe rfl rfl ?_
  refine c_aret rfl ?_
  refine c_aret rfl ?_
  refine s_cco (p' := 37) rfl (rd_sn (beq_eq_false_iff_ne.mpr (by omega)) (rd_sn (beq_eq_false_iff_ne.mpr (by omega)) Hrp)) rfl ?_
  refine s_gf (p' := 40) rfl (rd_sn (beq_eq_false_iff_ne.mpr (by omega)) (rd_sn (beq_eq_false_iff_ne.mpr (by omega)) Hrp)) rfl rfl ?_
  refine c_call (p' := 45) (kc := 98) (ls0 := [_]) rfl rfl rfl rfl rfl (mj_rcv_is (rd_sn (beq_eq_false_iff_ne.mpr (by omega)) (rd_sn (beq_eq_false_iff_ne.mpr (by omega)) Hac))) rfl rfl rfl ?_
  refine s_aldn (p' := 1) rfl rfl rfl ?_
  refine s_gf (p' := 4) rfl (rd_sn (beq_eq_false_iff_ne.mpr (by omega)) (rd_sn (beq_eq_false_iff_ne.mpr (by omega)) Hac)) rfl rfl ?_
  refine c_iret rfl rfl ?_
  refine k_iret rfl rfl ?_
  refine l_ist (p' := 668) (ls' := [_, _, _, _, _, _, _, _, _, _]) rfl rfl rfl rfl rfl ?_
  refine l_aldn (p' := 669) rfl rfl rfl rfl ?_
  refine l_call (p' := 672) (kc := 99) (ls0 := [_]) rfl rfl rfl rfl rfl rfl (mj_rcv_is (rd_ss rfl (rd_sn rfl H400))) rfl rfl rfl ?_
  refine s_aldn (p' := 1) rfl rfl rfl ?_
  refine s_gf (p' := 4) rfl (rd_ss rfl (rd_sn rfl H400)) rfl rfl ?_
  refine k_iret rfl rfl ?_
  refine l_ild (p' := 674) rfl rfl rfl rfl ?_
  refine l_icmp (p' := 679) true rfl rfl (by decide +kernel) rfl ?_
  refine l_ild (p' := 681) rfl rfl rfl rfl ?_
  refine l_if (p' := 684) false rfl rfl (by decide +kernel) rfl ?_
  refine l_aldn (p' := 685) rfl rfl rfl rfl ?_
  refine l_con (p' := 686) rfl rfl rfl ?_
  refine l_lalz (p' := 687) (m := 0) (v := (Int32.toInt64 (nI m))) rfl rfl (rd_sn rfl (rd_ss rfl H412)) (by decide +kernel) rfl rfl rfl ?_
  refine l_ild (p' := 689) rfl rfl rfl rfl ?_
  refine l_bzL (p' := 690) (z := (Int32.toInt64 (nI m))) rfl rfl rfl rfl rfl rfl ?_
  refine l_bz (p' := 691) (z := nI 0) rfl rfl rfl rfl rfl (lcmp_self _) ?_
  refine l_if (p' := 696) true rfl rfl (by decide +kernel) rfl ?_
  refine l_goto (p' := 2541) rfl rfl rfl ?_
  refine l_incz (p' := 2544) (w := (nI (i + 4))) (ls' := [_, _, _, _, _, _, _, _, _, _]) rfl rfl rfl rfl (mI_add _ _) rfl rfl ?_
  refine l_goto (p' := 28) rfl rfl rfl ?_
  exact hn _ _ _ _ _ ⟨(rd_ss rfl (rd_sn rfl H400)), (rd_sn rfl (rd_ss rfl H412)), (mz_fr.s (by decide) (mz_fr.s (by decide) (mz_fr.rf _ h))), (Nat.le_trans (Nat.le_of_eq (len_s (len_s HL))) (by omega)), (Nat.le_trans (sz_s rfl (rd_sn rfl H400) rfl (sz_sA rfl H412 (Nat.le_refl (mj_sz h)))) (by omega))⟩
