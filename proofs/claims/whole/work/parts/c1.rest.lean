/-! Rounds that were wanting. -/
theorem w_21_1b {L i N : Nat} {xs : Nat → Int32} {h : mj_H} {l6 l7 l8 l9 : Option Value} {P : mj_H → Prop} (hL : L ≤ 2048) (hi : i + 4 ≤ L) (hN : N + 2000 < mj_CB) (hN0 : 414 ≤ N) (HL : h.length = N) (hk : xs i &&& nI 63 = nI 21) {gs pl ty wa nw nx dp ca mf : Value} {th : Int32} {sd be : Int64} {ou : Nat → Int64} {vf wf sf uf im jm : Nat → Int32} {k g : Nat} (hk20 : k ≤ 20) (hvw : ∀ j, j < 8 → wf j = vf j) (hsu : ∀ j, j < k → uf j = sf j) (him : ∀ j, j < 8 → jm j = im j) {pe pm ge gm : Value} {q : Nat} (hq6 : q ≤ 6) (hg24 : g ≤ 24) {pr pp pd ga1 : Value} {le nu lf nv : Nat → Int32} {wl : Nat → Nat} {d : Nat} (hd : d ≤ 20) (hle : ∀ j, j < 1 → le j = nI (wl j) ∧ wl j < 65536) (hlf : ∀ j, j < 1 → lf j = nI (wl j)) (hnv : ∀ j, j < 1 → nv j = nu j)  (hx1 : xs (i + 1) = nI 0) (H0 : mj_rd h 0 = some (.inr (0, [.ref 1, .ref 38, .ref 299, .ref 336, .ref 373, .ref 375, .ref 378, .ref 381, .ref 387, .ref 393, gs, pl, .ref 397, .ref 398, .ref 399, .long sd, .long be]))) (H381 : mj_rd h 381 = some (.inr (8, [.ref 38, .ref 375, .ref 382, .ref 383, .ref 384, .ref 385, .ref 386, .int (nI 1), .int (nI 1), pr, pp, pd, ga1]))) (H385 : mj_rd h 385 = some (.inl (3, (2, .inl (le))))) (H400 : mj_rd h 400 = some (.inr (17, [.int th, .ref 401, .ref 402, ty, .long sd, .long be, .ref 410, wa, nw, nx, .ref 411]))) (H402 : mj_rd h 402 = some (.inr (19, [.ref 403, .ref 404, .ref 405, .ref 406, .ref 407, .ref 408, .ref 409, .int (nI k), .int (nI d), .int (nI 1), .ref 400]))) (H408 : mj_rd h 408 = some (.inl (3, (2, .inl (lf))))) (H412 : mj_rd h 412 = some (.inl (4, (1, .inr (.inl (ou)))))) (hn : ∀ (l6 l7 l8 l9 : Option Value) (h' : mj_H), mj_rd h' 400 = some (.inr (17, [.int (nI 0), .ref 401, .ref 402, ty, .long sd, .long be, .ref 410, wa, nw, nx, .ref 411])) ∧ mj_rd h' 412 = some (.inl (4, (1, .inr (.inl ((vp_updL ou 0 (Int32.toInt64 (nI (wl 0))))))))) ∧ mz_fr [400, 412] h h' ∧ h'.length ≤ N + 0 ∧ mj_sz h' ≤ mj_sz h + 0 → mj_lrun L xs (28, [some (.retAddr 1), some (.ref 0), some (.ref 400), some (.ref 412), some (.ref 413), some (.int (nI (i + 4))), l6, l7, l8, l9], [], h') P) : mj_lrun L xs (28, [some (.retAddr 1), some (.ref 0), some (.ref 400), some (.ref 412), some (.ref 413), some (.int (nI i)), l6, l7, l8, l9], [], h) P := by
  have hw0 := (hle 0 (by omega)).2
  refine l_ild (p' := 30) rfl rfl rfl rfl ?_
  refine l_alds (p' := 31) rfl rfl rfl rfl ?_
  refine l_lens (p' := 32) rfl rfl rfl ?_
  refine l_con (p' := 33) rfl rfl rfl ?_
  refine l_bz (p' := 34) (z := (nI (L - 4))) rfl rfl rfl rfl rfl (mI_sub (by omega)) ?_
  refine l_icmp (p' := 37) false rfl rfl ((ci_gt (by omega) (by omega)).trans (decide_eq_false (by omega))) rfl ?_
  refine l_alds (p' := 38) rfl rfl rfl rfl ?_
  refine l_ild (p' := 40) rfl rfl rfl rfl ?_
  refine l_ialz (p' := 41) (m := i) (z := (xs i)) rfl rfl (inb_nI (by omega) (by omega)) (mI_cl (by omega)) rfl rfl ?_
  refine l_bip (p' := 43) rfl rfl rfl ?_
  refine l_bz (p' := 44) (z := (nI 21)) rfl rfl rfl rfl rfl hk ?_
  refine l_sp (p' := 1328) (ls' := _) rfl rfl rfl rfl rfl ?_
  refine l_aldn (p' := 1329) rfl rfl rfl rfl ?_
  refine l_alds (p' := 1330) rfl rfl rfl rfl ?_
  refine l_ild (p' := 1332) rfl rfl rfl rfl ?_
  refine l_con (p' := 1333) rfl rfl rfl ?_
  refine l_bz (p' := 1334) (z := (nI (i + 1))) rfl rfl rfl rfl rfl (mI_add _ _) ?_
  refine l_ialz (p' := 1335) (m := (i + 1)) (z := (nI 0)) rfl rfl (inb_nI (by omega) (by omega)) (mI_cl (by omega)) hx1 rfl ?_
  refine l_aldn (p' := 1336) rfl rfl rfl rfl ?_
  refine l_call (p' := 1339) (kc := 99) (ls0 := [_, _, _, _]) rfl rfl rfl rfl rfl rfl rfl rfl rfl rfl ?_
  refine s_aldn (p' := 1) rfl rfl rfl ?_
  refine s_con (p' := 2) rfl rfl ?_
  refine s_aldn (p' := 3) rfl rfl rfl ?_
  refine s_ildn (p' := 4) rfl rfl rfl ?_
  refine c_call (p' := 7) (kc := 98) (ls0 := [_, _]) rfl rfl rfl rfl rfl (mj_rcv_is H0) rfl rfl rfl ?_
  refine s_aldn (p' := 1) rfl rfl rfl ?_
  refine s_gf (p' := 4) rfl H0 rfl rfl ?_
  refine s_ildn (p' := 5) rfl rfl rfl ?_
  refine c_call (p' := 8) (kc := 97) (ls0 := [_, _]) rfl rfl rfl rfl rfl (mj_rcv_is H381) rfl rfl rfl ?_
  refine s_ildn (p' := 1) rfl rfl rfl ?_
  refine s_if (p' := 4) false rfl (by decide +kernel) rfl ?_
  refine s_ildn (p' := 5) rfl rfl rfl ?_
  refine s_aldn (p' := 6) rfl rfl rfl ?_
  refine s_gf (p' := 9) rfl H381 rfl rfl ?_
  refine s_icmp (p' := 12) false rfl (by decide +kernel) rfl ?_
  refine s_con (p' := 13) rfl rfl ?_
  refine s_goto (p' := 17) rfl rfl ?_
  refine c_iret rfl (by decide +kernel) ?_
  refine s_if (p' := 21) true rfl (by decide +kernel) rfl ?_
  refine s_aldn (p' := 22) rfl rfl rfl ?_
  refine s_gf (p' := 25) rfl H0 rfl rfl ?_
  refine s_ildn (p' := 26) rfl rfl rfl ?_
  refine c_call (p' := 29) (kc := 97) (ls0 := [_, _]) rfl rfl rfl rfl rfl (mj_rcv_is H381) rfl rfl rfl ?_
  refine s_ildn (p' := 1) rfl rfl rfl ?_
  refine s_if (p' := 4) false rfl (by decide +kernel) rfl ?_
  refine s_ildn (p' := 5) rfl rfl rfl ?_
  refine s_aldn (p' := 6) rfl rfl rfl ?_
  refine s_gf (p' := 9) rfl H381 rfl rfl ?_
  refine s_lenz (p' := 10) rfl (mj_rdA_is H385 (by decide)) rfl rfl ?_
  refine s_icmp (p' := 13) false rfl (by decide +kernel) rfl ?_
  refine s_aldn (p' := 14) rfl rfl rfl ?_
  refine s_gf (p' := 17) rfl H381 rfl rfl ?_
  refine s_ildn (p' := 18) rfl rfl rfl ?_
  refine s_calz (p' := 19) (m := 0) (v := (nI (wl 0))) rfl H385 (by decide +kernel) rfl (hle 0 (by omega)).1 rfl ?_
  refine s_goto (p' := 24) rfl rfl ?_
  refine c_iret rfl (nar_ch (by omega)) ?_
  refine c_iret rfl (nar_ch (by omega)) ?_
  refine s_bzL (p' := 8) (z := (Int32.toInt64 (nI (wl 0)))) rfl rfl rfl rfl ?_
  refine s_lasz (p' := 9) (m := 0) rfl rfl H412 (by decide +kernel) rfl rfl rfl ?_
  refine s_goto (p' := 15) rfl rfl ?_
  refine s_con (p' := 16) rfl rfl ?_
  refine k_iret rfl rfl ?_
  refine l_ist (p' := 1341) (ls' := [_, _, _, _, _, _, _, _, _, _]) rfl rfl rfl rfl rfl ?_
  refine l_aldn (p' := 1342) rfl rfl rfl rfl ?_
  refine l_alds (p' := 1343) rfl rfl rfl rfl ?_
  refine l_ild (p' := 1345) rfl rfl rfl rfl ?_
  refine l_con (p' := 1346) rfl rfl rfl ?_
  refine l_bz (p' := 1347) (z := (nI (i + 1))) rfl rfl rfl rfl rfl (mI_add _ _) ?_
  refine l_ialz (p' := 1348) (m := (i + 1)) (z := (nI 0)) rfl rfl (inb_nI (by omega) (by omega)) (mI_cl (by omega)) hx1 rfl ?_
  refine l_call (p' := 1351) (kc := 99) (ls0 := [_, _]) rfl rfl rfl rfl rfl rfl (mj_rcv_is (rd_sn rfl H400)) rfl rfl rfl ?_
  refine s_aldn (p' := 1) rfl rfl rfl ?_
  refine s_ildn (p' := 2) rfl rfl rfl ?_
  refine c_call (p' := 5) (kc := 98) (ls0 := [_, _]) rfl rfl rfl rfl rfl (mj_rcv_is (rd_sn rfl H400)) rfl rfl rfl ?_
  refine s_aldn (p' := 1) rfl rfl rfl ?_
  refine s_aldn (p' := 2) rfl rfl rfl ?_
  refine s_gf (p' := 5) rfl (rd_sn rfl H400) rfl rfl ?_
  refine s_gf (p' := 8) rfl (rd_sn rfl H402) rfl rfl ?_
  refine s_con (p' := 9) rfl rfl ?_
  refine s_icmp (p' := 12) false rfl ((cg_eq (w := -1) (by decide +kernel)).trans (decide_eq_false (by rw [mI_ti (by omega)]; omega))) rfl ?_
  refine s_ildn (p' := 13) rfl rfl rfl ?_
  refine s_con (p' := 14) rfl rfl ?_
  refine s_aldn (p' := 15) rfl rfl rfl ?_
  refine s_gf (p' := 18) rfl (rd_sn rfl H400) rfl rfl ?_
  refine s_gf (p' := 21) rfl (rd_sn rfl H402) rfl rfl ?_
  refine s_con (p' := 22) rfl rfl ?_
  refine s_bz (p' := 23) (z := (nI 0)) rfl rfl rfl (by decide +kernel) ?_
  refine c_call (p' := 26) (kc := 97) (ls0 := [_, _, _]) rfl rfl rfl rfl rfl rfl rfl rfl rfl ?_
  refine s_ildn (p' := 1) rfl rfl rfl ?_
  refine s_ildn (p' := 2) rfl rfl rfl ?_
  refine s_icmp (p' := 5) false rfl (by decide +kernel) rfl ?_
  refine s_ildn (p' := 6) rfl rfl rfl ?_
  refine s_ildn (p' := 7) rfl rfl rfl ?_
  refine s_icmp (p' := 10) false rfl (by decide +kernel) rfl ?_
  refine s_con (p' := 11) rfl rfl ?_
  refine s_goto (p' := 15) rfl rfl ?_
  refine c_iret rfl (by decide +kernel) ?_
  refine s_if (p' := 29) false rfl (by decide +kernel) rfl ?_
  refine s_con (p' := 30) rfl rfl ?_
  refine s_goto (p' := 34) rfl rfl ?_
  refine c_call (p' := 37) (kc := 97) (ls0 := [_, _]) rfl rfl rfl rfl rfl (mj_rcv_is (rd_sn rfl H400)) rfl rfl rfl ?_
  refine s_aldn (p' := 1) rfl rfl rfl ?_
  refine s_ildn (p' := 2) rfl rfl rfl ?_
  refine s_pfz (p' := 5) (fs' := [_, _, _, _, _, _, _, _, _, _, _]) rfl rfl (rd_sn rfl H400) rfl rfl rfl rfl ?_
  refine s_ildn (p' := 6) rfl rfl rfl ?_
  refine s_if (p' := 13) true rfl (by decide +kernel) rfl ?_
  refine s_con (p' := 14) rfl rfl ?_
  refine c_iret rfl (by decide +kernel) ?_
  refine c_iret rfl (by decide +kernel) ?_
  refine s_if (p' := 12) true rfl (by decide +kernel) rfl ?_
  refine s_aldn (p' := 13) rfl rfl rfl ?_
  refine s_gf (p' := 16) rfl (rd_ss rfl (rd_sn rfl H400)) rfl rfl ?_
  refine s_gf (p' := 19) rfl (rd_sn rfl (rd_sn rfl H402)) rfl rfl ?_
  refine s_ildn (p' := 20) rfl rfl rfl ?_
  refine s_calz (p' := 21) (m := 0) (v := (nI (wl 0))) rfl (rd_sn rfl (rd_sn rfl H408)) (by decide +kernel) rfl (hlf 0 (by omega)) rfl ?_
  refine k_iret rfl (nar_ch (by omega)) ?_
  refine l_ist (p' := 1353) (ls' := [_, _, _, _, _, _, _, _, _, _]) rfl rfl rfl rfl rfl ?_
  refine l_aldn (p' := 1354) rfl rfl rfl rfl ?_
  refine l_call (p' := 1357) (kc := 99) (ls0 := [_]) rfl rfl rfl rfl rfl rfl (mj_rcv_is (rd_ss rfl (rd_sn rfl H400))) rfl rfl rfl ?_
  refine s_aldn (p' := 1) rfl rfl rfl ?_
  refine s_gf (p' := 4) rfl (rd_ss rfl (rd_sn rfl H400)) rfl rfl ?_
  refine k_iret rfl rfl ?_
  refine l_ild (p' := 1359) rfl rfl rfl rfl ?_
  refine l_icmp (p' := 1364) true rfl rfl (by decide +kernel) rfl ?_
  refine l_ild (p' := 1366) rfl rfl rfl rfl ?_
  refine l_if (p' := 1369) false rfl rfl (by decide +kernel) rfl ?_
  refine l_aldn (p' := 1370) rfl rfl rfl rfl ?_
  refine l_con (p' := 1371) rfl rfl rfl ?_
  refine l_lalz (p' := 1372) (m := 0) (v := (Int32.toInt64 (nI (wl 0)))) rfl rfl (rd_sn rfl (rd_ss rfl H412)) (by decide +kernel) rfl rfl rfl ?_
  refine l_ild (p' := 1374) rfl rfl rfl rfl ?_
  refine l_bzL (p' := 1375) (z := (Int32.toInt64 (nI (wl 0)))) rfl rfl rfl rfl rfl rfl ?_
  refine l_bz (p' := 1376) (z := nI 0) rfl rfl rfl rfl rfl (lcmp_self _) ?_
  refine l_if (p' := 1381) true rfl rfl (by decide +kernel) rfl ?_
  refine l_goto (p' := 2541) rfl rfl rfl ?_
  refine l_incz (p' := 2544) (w := (nI (i + 4))) (ls' := [_, _, _, _, _, _, _, _, _, _]) rfl rfl rfl rfl (mI_add _ _) rfl rfl ?_
  refine l_goto (p' := 28) rfl rfl rfl ?_
  exact hn _ _ _ _ _ ⟨(rd_ss rfl (rd_sn rfl H400)), (rd_sn rfl (rd_ss rfl H412)), (mz_fr.s (by decide) (mz_fr.s (by decide) (mz_fr.rf _ h))), (Nat.le_trans (Nat.le_of_eq (len_s (len_s HL))) (by omega)), (Nat.le_trans (sz_s rfl (rd_sn rfl H400) rfl (sz_sA rfl H412 (Nat.le_refl (mj_sz h)))) (by omega))⟩
theorem w_22_1b {L i N : Nat} {xs : Nat → Int32} {h : mj_H} {l6 l7 l8 l9 : Option Value} {P : mj_H → Prop} (hL : L ≤ 2048) (hi : i + 4 ≤ L) (hN : N + 2000 < mj_CB) (hN0 : 414 ≤ N) (HL : h.length = N) (hk : xs i &&& nI 63 = nI 22) {gs pl ty wa nw nx dp ca mf : Value} {th : Int32} {sd be : Int64} {ou : Nat → Int64} {vf wf sf uf im jm : Nat → Int32} {k g : Nat} (hk20 : k ≤ 20) (hvw : ∀ j, j < 8 → wf j = vf j) (hsu : ∀ j, j < k → uf j = sf j) (him : ∀ j, j < 8 → jm j = im j) {pe pm ge gm : Value} {q : Nat} (hq6 : q ≤ 6) (hg24 : g ≤ 24) {pr pp pd ga1 : Value} {le nu lf nv : Nat → Int32} {wl : Nat → Nat} {d : Nat} (hd : d ≤ 20) (hle : ∀ j, j < 1 → le j = nI (wl j) ∧ wl j < 65536) (hlf : ∀ j, j < 1 → lf j = nI (wl j)) (hnv : ∀ j, j < 1 → nv j = nu j)  (hx1 : xs (i + 1) = nI 0) (H0 : mj_rd h 0 = some (.inr (0, [.ref 1, .ref 38, .ref 299, .ref 336, .ref 373, .ref 375, .ref 378, .ref 381, .ref 387, .ref 393, gs, pl, .ref 397, .ref 398, .ref 399, .long sd, .long be]))) (H381 : mj_rd h 381 = some (.inr (8, [.ref 38, .ref 375, .ref 382, .ref 383, .ref 384, .ref 385, .ref 386, .int (nI 1), .int (nI 1), pr, pp, pd, ga1]))) (H386 : mj_rd h 386 = some (.inl (0, (2, .inl (nu))))) (H400 : mj_rd h 400 = some (.inr (17, [.int th, .ref 401, .ref 402, ty, .long sd, .long be, .ref 410, wa, nw, nx, .ref 411]))) (H402 : mj_rd h 402 = some (.inr (19, [.ref 403, .ref 404, .ref 405, .ref 406, .ref 407, .ref 408, .ref 409, .int (nI k), .int (nI d), .int (nI 1), .ref 400]))) (H409 : mj_rd h 409 = some (.inl (0, (2, .inl (nv))))) (H412 : mj_rd h 412 = some (.inl (4, (1, .inr (.inl (ou)))))) (hn : ∀ (l6 l7 l8 l9 : Option Value) (h' : mj_H), mj_rd h' 400 = some (.inr (17, [.int (nI 0), .ref 401, .ref 402, ty, .long sd, .long be, .ref 410, wa, nw, nx, .ref 411])) ∧ mj_rd h' 412 = some (.inl (4, (1, .inr (.inl ((vp_updL ou 0 (Int32.toInt64 (nu 0)))))))) ∧ mz_fr [400, 412] h h' ∧ h'.length ≤ N + 0 ∧ mj_sz h' ≤ mj_sz h + 0 → mj_lrun L xs (28, [some (.retAddr 1), some (.ref 0), some (.ref 400), some (.ref 412), some (.ref 413), some (.int (nI (i + 4))), l6, l7, l8, l9], [], h') P) : mj_lrun L xs (28, [some (.retAddr 1), some (.ref 0), some (.ref 400), some (.ref 412), some (.ref 413), some (.int (nI i)), l6, l7, l8, l9], [], h) P := by
  have hw0 := (hle 0 (by omega)).2
  refine l_ild (p' := 30) rfl rfl rfl rfl ?_
  refine l_alds (p' := 31) rfl rfl rfl rfl ?_
  refine l_lens (p' := 32) rfl rfl rfl ?_
  refine l_con (p' := 33) rfl rfl rfl ?_
  refine l_bz (p' := 34) (z := (nI (L - 4))) rfl rfl rfl rfl rfl (mI_sub (by omega)) ?_
  refine l_icmp (p' := 37) false rfl rfl ((ci_gt (by omega) (by omega)).trans (decide_eq_false (by omega))) rfl ?_
  refine l_alds (p' := 38) rfl rfl rfl rfl ?_
  refine l_ild (p' := 40) rfl rfl rfl rfl ?_
  refine l_ialz (p' := 41) (m := i) (z := (xs i)) rfl rfl (inb_nI (by omega) (by omega)) (mI_cl (by omega)) rfl rfl ?_
  refine l_bip (p' := 43) rfl rfl rfl ?_
  refine l_bz (p' := 44) (z := (nI 22)) rfl rfl rfl rfl rfl hk ?_
  refine l_sp (p' := 1384) (ls' := _) rfl rfl rfl rfl rfl ?_
  refine l_aldn (p' := 1385) rfl rfl rfl rfl ?_
  refine l_alds (p' := 1386) rfl rfl rfl rfl ?_
  refine l_ild (p' := 1388) rfl rfl rfl rfl ?_
  refine l_con (p' := 1389) rfl rfl rfl ?_
  refine l_bz (p' := 1390) (z := (nI (i + 1))) rfl rfl rfl rfl rfl (mI_add _ _) ?_
  refine l_ialz (p' := 1391) (m := (i + 1)) (z := (nI 0)) rfl rfl (inb_nI (by omega) (by omega)) (mI_cl (by omega)) hx1 rfl ?_
  refine l_aldn (p' := 1392) rfl rfl rfl rfl ?_
  refine l_call (p' := 1395) (kc := 99) (ls0 := [_, _, _, _]) rfl rfl rfl rfl rfl rfl rfl rfl rfl rfl ?_
  refine s_aldn (p' := 1) rfl rfl rfl ?_
  refine s_con (p' := 2) rfl rfl ?_
  refine s_aldn (p' := 3) rfl rfl rfl ?_
  refine s_ildn (p' := 4) rfl rfl rfl ?_
  refine c_call (p' := 7) (kc := 98) (ls0 := [_, _]) rfl rfl rfl rfl rfl (mj_rcv_is H0) rfl rfl rfl ?_
  refine s_aldn (p' := 1) rfl rfl rfl ?_
  refine s_gf (p' := 4) rfl H0 rfl rfl ?_
  refine s_ildn (p' := 5) rfl rfl rfl ?_
  refine c_call (p' := 8) (kc := 97) (ls0 := [_, _]) rfl rfl rfl rfl rfl (mj_rcv_is H381) rfl rfl rfl ?_
  refine s_ildn (p' := 1) rfl rfl rfl ?_
  refine s_if (p' := 4) false rfl (by decide +kernel) rfl ?_
  refine s_ildn (p' := 5) rfl rfl rfl ?_
  refine s_aldn (p' := 6) rfl rfl rfl ?_
  refine s_gf (p' := 9) rfl H381 rfl rfl ?_
  refine s_icmp (p' := 12) false rfl (by decide +kernel) rfl ?_
  refine s_con (p' := 13) rfl rfl ?_
  refine s_goto (p' := 17) rfl rfl ?_
  refine c_iret rfl (by decide +kernel) ?_
  refine s_if (p' := 21) true rfl (by decide +kernel) rfl ?_
  refine s_aldn (p' := 22) rfl rfl rfl ?_
  refine s_gf (p' := 25) rfl H0 rfl rfl ?_
  refine s_ildn (p' := 26) rfl rfl rfl ?_
  refine c_call (p' := 29) (kc := 97) (ls0 := [_, _]) rfl rfl rfl rfl rfl (mj_rcv_is H381) rfl rfl rfl ?_
  refine s_ildn (p' := 1) rfl rfl rfl ?_
  refine s_if (p' := 4) false rfl (by decide +kernel) rfl ?_
  refine s_ildn (p' := 5) rfl rfl rfl ?_
  refine s_aldn (p' := 6) rfl rfl rfl ?_
  refine s_gf (p' := 9) rfl H381 rfl rfl ?_
  refine s_lenz (p' := 10) rfl (mj_rdA_is H386 (by decide)) rfl rfl ?_
  refine s_icmp (p' := 13) false rfl (by decide +kernel) rfl ?_
  refine s_aldn (p' := 14) rfl rfl rfl ?_
  refine s_gf (p' := 17) rfl H381 rfl rfl ?_
  refine s_ildn (p' := 18) rfl rfl rfl ?_
  refine s_ialz (p' := 19) (m := 0) (v := (nu 0)) rfl H386 (by decide +kernel) rfl rfl rfl ?_
  refine s_goto (p' := 23) rfl rfl ?_
  refine c_iret rfl rfl ?_
  refine c_iret rfl rfl ?_
  refine s_bzL (p' := 8) (z := (Int32.toInt64 (nu 0))) rfl rfl rfl rfl ?_
  refine s_lasz (p' := 9) (m := 0) rfl rfl H412 (by decide +kernel) rfl rfl rfl ?_
  refine s_goto (p' := 15) rfl rfl ?_
  refine s_con (p' := 16) rfl rfl ?_
  refine k_iret rfl rfl ?_
  refine l_ist (p' := 1397) (ls' := [_, _, _, _, _, _, _, _, _, _]) rfl rfl rfl rfl rfl ?_
  refine l_aldn (p' := 1398) rfl rfl rfl rfl ?_
  refine l_alds (p' := 1399) rfl rfl rfl rfl ?_
  refine l_ild (p' := 1401) rfl rfl rfl rfl ?_
  refine l_con (p' := 1402) rfl rfl rfl ?_
  refine l_bz (p' := 1403) (z := (nI (i + 1))) rfl rfl rfl rfl rfl (mI_add _ _) ?_
  refine l_ialz (p' := 1404) (m := (i + 1)) (z := (nI 0)) rfl rfl (inb_nI (by omega) (by omega)) (mI_cl (by omega)) hx1 rfl ?_
  refine l_call (p' := 1407) (kc := 99) (ls0 := [_, _]) rfl rfl rfl rfl rfl rfl (mj_rcv_is (rd_sn rfl H400)) rfl rfl rfl ?_
  refine s_aldn (p' := 1) rfl rfl rfl ?_
  refine s_ildn (p' := 2) rfl rfl rfl ?_
  refine c_call (p' := 5) (kc := 98) (ls0 := [_, _]) rfl rfl rfl rfl rfl (mj_rcv_is (rd_sn rfl H400)) rfl rfl rfl ?_
  refine s_aldn (p' := 1) rfl rfl rfl ?_
  refine s_aldn (p' := 2) rfl rfl rfl ?_
  refine s_gf (p' := 5) rfl (rd_sn rfl H400) rfl rfl ?_
  refine s_gf (p' := 8) rfl (rd_sn rfl H402) rfl rfl ?_
  refine s_con (p' := 9) rfl rfl ?_
  refine s_icmp (p' := 12) false rfl ((cg_eq (w := -1) (by decide +kernel)).trans (decide_eq_false (by rw [mI_ti (by omega)]; omega))) rfl ?_
  refine s_ildn (p' := 13) rfl rfl rfl ?_
  refine s_con (p' := 14) rfl rfl ?_
  refine s_aldn (p' := 15) rfl rfl rfl ?_
  refine s_gf (p' := 18) rfl (rd_sn rfl H400) rfl rfl ?_
  refine s_gf (p' := 21) rfl (rd_sn rfl H402) rfl rfl ?_
  refine s_con (p' := 22) rfl rfl ?_
  refine s_bz (p' := 23) (z := (nI 0)) rfl rfl rfl (by decide +kernel) ?_
  refine c_call (p' := 26) (kc := 97) (ls0 := [_, _, _]) rfl rfl rfl rfl rfl rfl rfl rfl rfl ?_
  refine s_ildn (p' := 1) rfl rfl rfl ?_
  refine s_ildn (p' := 2) rfl rfl rfl ?_
  refine s_icmp (p' := 5) false rfl (by decide +kernel) rfl ?_
  refine s_ildn (p' := 6) rfl rfl rfl ?_
  refine s_ildn (p' := 7) rfl rfl rfl ?_
  refine s_icmp (p' := 10) false rfl (by decide +kernel) rfl ?_
  refine s_con (p' := 11) rfl rfl ?_
  refine s_goto (p' := 15) rfl rfl ?_
  refine c_iret rfl (by decide +kernel) ?_
  refine s_if (p' := 29) false rfl (by decide +kernel) rfl ?_
  refine s_con (p' := 30) rfl rfl ?_
  refine s_goto (p' := 34) rfl rfl ?_
  refine c_call (p' := 37) (kc := 97) (ls0 := [_, _]) rfl rfl rfl rfl rfl (mj_rcv_is (rd_sn rfl H400)) rfl rfl rfl ?_
  refine s_aldn (p' := 1) rfl rfl rfl ?_
  refine s_ildn (p' := 2) rfl rfl rfl ?_
  refine s_pfz (p' := 5) (fs' := [_, _, _, _, _, _, _, _, _, _, _]) rfl rfl (rd_sn rfl H400) rfl rfl rfl rfl ?_
  refine s_ildn (p' := 6) rfl rfl rfl ?_
  refine s_if (p' := 13) true rfl (by decide +kernel) rfl ?_
  refine s_con (p' := 14) rfl rfl ?_
  refine c_iret rfl (by decide +kernel) ?_
  refine c_iret rfl (by decide +kernel) ?_
  refine s_if (p' := 12) true rfl (by decide +kernel) rfl ?_
  refine s_aldn (p' := 13) rfl rfl rfl ?_
  refine s_gf (p' := 16) rfl (rd_ss rfl (rd_sn rfl H400)) rfl rfl ?_
  refine s_gf (p' := 19) rfl (rd_sn rfl (rd_sn rfl H402)) rfl rfl ?_
  refine s_ildn (p' := 20) rfl rfl rfl ?_
  refine s_ialz (p' := 21) (m := 0) (v := (nu 0)) rfl (rd_sn rfl (rd_sn rfl H409)) (by decide +kernel) rfl (hnv 0 (by omega)) rfl ?_
  refine k_iret rfl rfl ?_
  refine l_ist (p' := 1409) (ls' := [_, _, _, _, _, _, _, _, _, _]) rfl rfl rfl rfl rfl ?_
  refine l_aldn (p' := 1410) rfl rfl rfl rfl ?_
  refine l_call (p' := 1413) (kc := 99) (ls0 := [_]) rfl rfl rfl rfl rfl rfl (mj_rcv_is (rd_ss rfl (rd_sn rfl H400))) rfl rfl rfl ?_
  refine s_aldn (p' := 1) rfl rfl rfl ?_
  refine s_gf (p' := 4) rfl (rd_ss rfl (rd_sn rfl H400)) rfl rfl ?_
  refine k_iret rfl rfl ?_
  refine l_ild (p' := 1415) rfl rfl rfl rfl ?_
  refine l_icmp (p' := 1420) true rfl rfl (by decide +kernel) rfl ?_
  refine l_ild (p' := 1422) rfl rfl rfl rfl ?_
  refine l_if (p' := 1425) false rfl rfl (by decide +kernel) rfl ?_
  refine l_aldn (p' := 1426) rfl rfl rfl rfl ?_
  refine l_con (p' := 1427) rfl rfl rfl ?_
  refine l_lalz (p' := 1428) (m := 0) (v := (Int32.toInt64 (nu 0))) rfl rfl (rd_sn rfl (rd_ss rfl H412)) (by decide +kernel) rfl rfl rfl ?_
  refine l_ild (p' := 1430) rfl rfl rfl rfl ?_
  refine l_bzL (p' := 1431) (z := (Int32.toInt64 (nu 0))) rfl rfl rfl rfl rfl rfl ?_
  refine l_bz (p' := 1432) (z := nI 0) rfl rfl rfl rfl rfl (lcmp_self _) ?_
  refine l_if (p' := 1437) true rfl rfl (by decide +kernel) rfl ?_
  refine l_goto (p' := 2541) rfl rfl rfl ?_
  refine l_incz (p' := 2544) (w := (nI (i + 4))) (ls' := [_, _, _, _, _, _, _, _, _, _]) rfl rfl rfl rfl (mI_add _ _) rfl rfl ?_
  refine l_goto (p' := 28) rfl rfl rfl ?_
  exact hn _ _ _ _ _ ⟨(rd_ss rfl (rd_sn rfl H400)), (rd_sn rfl (rd_ss rfl H412)), (mz_fr.s (by decide) (mz_fr.s (by decide) (mz_fr.rf _ h))), (Nat.le_trans (Nat.le_of_eq (len_s (len_s HL))) (by omega)), (Nat.le_trans (sz_s rfl (rd_sn rfl H400) rfl (sz_sA rfl H412 (Nat.le_refl (mj_sz h)))) (by omega))⟩
theorem w_29Y {L i N : Nat} {xs : Nat → Int32} {h : mj_H} {l6 l7 l8 l9 : Option Value} {P : mj_H → Prop} (hL : L ≤ 2048) (hi : i + 4 ≤ L) (hN : N + 2000 < mj_CB) (hN0 : 414 ≤ N) (HL : h.length = N) (hk : xs i &&& nI 63 = nI 29) {gs pl ty wa nw nx dp ca mf : Value} {th : Int32} {sd be : Int64} {ou : Nat → Int64} {vf wf sf uf im jm : Nat → Int32} {k g : Nat} (hk20 : k ≤ 20) (hvw : ∀ j, j < 8 → wf j = vf j) (hsu : ∀ j, j < k → uf j = sf j) (him : ∀ j, j < 8 → jm j = im j) {pe pm ge gm : Value} {q : Nat} (hq6 : q ≤ 6) (hg24 : g ≤ 24) {rf : Nat → Int32} {E cap : Nat} {mc : Int32} {ef : Nat → Option Nat} {G : Nat → Nat} (hG1 : ∀ j, j < g → rf j = nI (G j) ∧ G j < 24) (hE0 : 414 ≤ E) (hEN : E < N ∨ E = 1000000) (hEA : mj_rdA h E = some (6, (cap, objs ef))) (hG2 : ∀ j, j < g → ef j = some (1000138 + G j) ∧ G j < 24) (hgc : g ≤ cap) (hc31 : cap < 1000) (hE3 : E < mj_CB ∧ 0 < cap ∨ E = 1000000 ∧ cap = 0) {l c : Nat} (hl : l < 3) (hc : c < 8) (hcl : nI c &&& (nI 1 <<< (nI l &&& 31)) = nI 0) (hcr : (nI c >>> (nI l &&& 31)) &&& nI 1 = nI 0) (hg2 : g < 24)  (hx1 : xs (i + 1) = nI l) (hx2 : xs (i + 2) = nI c) (H0 : mj_rd h 0 = some (.inr (0, [.ref 1, .ref 38, .ref 299, .ref 336, .ref 373, .ref 375, .ref 378, .ref 381, .ref 387, .ref 393, gs, pl, .ref 397, .ref 398, .ref 399, .long sd, .long be]))) (H393 : mj_rd h 393 = some (.inr (9, [.ref 394, .ref 395, .ref 396, .int (nI g), mf]))) (H394 : mj_rd h 394 = some (.inl (0, (24, .inl (rf))))) (H400 : mj_rd h 400 = some (.inr (17, [.int th, .ref 401, .ref 402, ty, .long sd, .long be, .ref 410, wa, nw, nx, .ref 411]))) (H410 : mj_rd h 410 = some (.inr (18, [.ref E, .int (nI g), .int mc]))) (H412 : mj_rd h 412 = some (.inl (4, (1, .inr (.inl (ou)))))) (hn : ∀ (l6 l7 l8 l9 : Option Value) (h' : mj_H), mj_rd h' 393 = some (.inr (9, [.ref 394, .ref 395, .ref 396, .int (nI (g + 1)), mf])) ∧ mj_rd h' 394 = some (.inl (0, (24, .inl ((upd rf g (nI ((8 * l) + c))))))) ∧ mj_rd h' 400 = some (.inr (17, [.int (nI 0), .ref 401, .ref 402, ty, .long sd, .long be, .ref 410, wa, nw, nx, .ref 411])) ∧ mj_rd h' 412 = some (.inl (4, (1, .inr (.inl ((vp_updL ou 0 (Int32.toInt64 (nI (g + 1))))))))) ∧ (∃ E', yLs h' 410 E' (g + 1) (upN (gI G) g (1000138 + (8 * l + c))) ∧ (E' = E ∨ E' = N) ∧ E' < mj_CB) ∧ mz_fr [393, 394, 400, 410, 412, E] h h' ∧ h'.length ≤ N + 1 ∧ mj_sz h' ≤ mj_sz h + 58 → mj_lrun L xs (28, [some (.retAddr 1), some (.ref 0), some (.ref 400), some (.ref 412), some (.ref 413), some (.int (nI (i + 4))), l6, l7, l8, l9], [], h') P) : mj_lrun L xs (28, [some (.retAddr 1), some (.ref 0), some (.ref 400), some (.ref 412), some (.ref 413), some (.int (nI i)), l6, l7, l8, l9], [], h) P := by
  refine l_ild (p' := 30) rfl rfl rfl rfl ?_
  refine l_alds (p' := 31) rfl rfl rfl rfl ?_
  refine l_lens (p' := 32) rfl rfl rfl ?_
  refine l_con (p' := 33) rfl rfl rfl ?_
  refine l_bz (p' := 34) (z := (nI (L - 4))) rfl rfl rfl rfl rfl (mI_sub (by omega)) ?_
  refine l_icmp (p' := 37) false rfl rfl ((ci_gt (by omega) (by omega)).trans (decide_eq_false (by omega))) rfl ?_
  refine l_alds (p' := 38) rfl rfl rfl rfl ?_
  refine l_ild (p' := 40) rfl rfl rfl rfl ?_
  refine l_ialz (p' := 41) (m := i) (z := (xs i)) rfl rfl (inb_nI (by omega) (by omega)) (mI_cl (by omega)) rfl rfl ?_
  refine l_bip (p' := 43) rfl rfl rfl ?_
  refine l_bz (p' := 44) (z := (nI 29)) rfl rfl rfl rfl rfl hk ?_
  refine l_sp (p' := 1817) (ls' := _) rfl rfl rfl rfl rfl ?_
  refine l_aldn (p' := 1818) rfl rfl rfl rfl ?_
  refine l_alds (p' := 1819) rfl rfl rfl rfl ?_
  refine l_ild (p' := 1821) rfl rfl rfl rfl ?_
  refine l_con (p' := 1822) rfl rfl rfl ?_
  refine l_bz (p' := 1823) (z := (nI (i + 1))) rfl rfl rfl rfl rfl (mI_add _ _) ?_
  refine l_ialz (p' := 1824) (m := (i + 1)) (z := (nI l)) rfl rfl (inb_nI (by omega) (by omega)) (mI_cl (by omega)) hx1 rfl ?_
  refine l_alds (p' := 1825) rfl rfl rfl rfl ?_
  refine l_ild (p' := 1827) rfl rfl rfl rfl ?_
  refine l_con (p' := 1828) rfl rfl rfl ?_
  refine l_bz (p' := 1829) (z := (nI (i + 2))) rfl rfl rfl rfl rfl (mI_add _ _) ?_
  refine l_ialz (p' := 1830) (m := (i + 2)) (z := (nI c)) rfl rfl (inb_nI (by omega) (by omega)) (mI_cl (by omega)) hx2 rfl ?_
  refine l_aldn (p' := 1831) rfl rfl rfl rfl ?_
  refine l_call (p' := 1834) (kc := 99) (ls0 := [_, _, _, _, _]) rfl rfl rfl rfl rfl rfl rfl rfl rfl rfl ?_
  refine s_aldn (p' := 1) rfl rfl rfl ?_
  refine s_con (p' := 2) rfl rfl ?_
  refine s_aldn (p' := 3) rfl rfl rfl ?_
  refine s_ildn (p' := 4) rfl rfl rfl ?_
  refine s_ildn (p' := 5) rfl rfl rfl ?_
  refine c_call (p' := 8) (kc := 98) (ls0 := [_, _, _]) rfl rfl rfl rfl rfl (mj_rcv_is H0) rfl rfl rfl ?_
  refine s_ildn (p' := 1) rfl rfl rfl ?_
  refine s_if (p' := 4) false rfl ((cg_lt (w := 0) (by decide +kernel)).trans (decide_eq_false (by rw [mI_ti (by omega)]; omega))) rfl ?_
  refine s_ildn (p' := 5) rfl rfl rfl ?_
  refine s_con (p' := 6) rfl rfl ?_
  refine s_icmp (p' := 9) false rfl ((cg_ge (w := 3) (by decide +kernel)).trans (decide_eq_false (by rw [mI_ti (by omega)]; omega))) rfl ?_
  refine s_ildn (p' := 10) rfl rfl rfl ?_
  refine s_if (p' := 13) false rfl ((cg_lt (w := 0) (by decide +kernel)).trans (decide_eq_false (by rw [mI_ti (by omega)]; omega))) rfl ?_
  refine s_ildn (p' := 14) rfl rfl rfl ?_
  refine s_bip (p' := 16) rfl rfl ?_
  refine s_icmp (p' := 30) true rfl ((cg_lt (w := 8) (by decide +kernel)).trans (decide_eq_true (by rw [mI_ti (by omega)]; omega))) rfl ?_
  refine s_ildn (p' := 31) rfl rfl rfl ?_
  refine s_con (p' := 32) rfl rfl ?_
  refine s_ildn (p' := 33) rfl rfl rfl ?_
  refine s_bz (p' := 34) (z := (nI 1 <<< (nI l &&& 31))) rfl rfl rfl rfl ?_
  refine s_bz (p' := 35) (z := (nI 0)) rfl rfl rfl hcl ?_
  refine s_if (p' := 49) true rfl (by decide +kernel) rfl ?_
  refine s_aldn (p' := 50) rfl rfl rfl ?_
  refine s_gf (p' := 53) rfl H0 rfl rfl ?_
  refine c_call (p' := 56) (kc := 97) (ls0 := [_]) rfl rfl rfl rfl rfl (mj_rcv_is H393) rfl rfl rfl ?_
  refine s_aldn (p' := 1) rfl rfl rfl ?_
  refine s_gf (p' := 4) rfl H393 rfl rfl ?_
  refine s_bip (p' := 6) rfl rfl ?_
  refine s_icmp (p' := 13) true rfl ((cg_lt (w := 24) (by decide +kernel)).trans (decide_eq_true (by rw [mI_ti (by omega)]; omega))) rfl ?_
  refine s_con (p' := 14) rfl rfl ?_
  refine c_iret rfl (by decide +kernel) ?_
  refine s_if (p' := 70) true rfl (by decide +kernel) rfl ?_
  refine s_aldn (p' := 71) rfl rfl rfl ?_
  refine s_gf (p' := 74) rfl H0 rfl rfl ?_
  refine s_bip (p' := 76) rfl rfl ?_
  refine s_ildn (p' := 77) rfl rfl rfl ?_
  refine s_bz (p' := 78) (z := (nI (8 * l))) rfl rfl rfl (mI_mul _ _) ?_
  refine s_ildn (p' := 79) rfl rfl rfl ?_
  refine s_bz (p' := 80) (z := (nI ((8 * l) + c))) rfl rfl rfl (mI_add _ _) ?_
  refine c_call (p' := 83) (kc := 97) (ls0 := [_, _]) rfl rfl rfl rfl rfl (mj_rcv_is H393) rfl rfl rfl ?_
  refine s_aldn (p' := 1) rfl rfl rfl ?_
  refine s_gf (p' := 4) rfl H393 rfl rfl ?_
  refine s_if (p' := 7) false rfl ((cg_lt (w := 0) (by decide +kernel)).trans (decide_eq_false (by rw [mI_ti (by omega)]; omega))) rfl ?_
  refine s_aldn (p' := 8) rfl rfl rfl ?_
  refine s_gf (p' := 11) rfl H393 rfl rfl ?_
  refine s_aldn (p' := 12) rfl rfl rfl ?_
  refine s_gf (p' := 15) rfl H393 rfl rfl ?_
  refine s_lenz (p' := 16) rfl (mj_rdA_is H394 (by decide)) rfl rfl ?_
  refine s_icmp (p' := 19) false rfl ((cg_ge (w := 24) (by decide +kernel)).trans (decide_eq_false (by rw [mI_ti (by omega)]; omega))) rfl ?_
  refine s_aldn (p' := 20) rfl rfl rfl ?_
  refine s_gf (p' := 23) rfl H393 rfl rfl ?_
  refine s_aldn (p' := 24) rfl rfl rfl ?_
  refine s_gf (p' := 27) rfl H393 rfl rfl ?_
  refine s_ildn (p' := 28) rfl rfl rfl ?_
  refine s_iasz (p' := 29) (m := g) rfl rfl H394 (inb_nI (by omega) (by omega)) (mI_cl (by omega)) rfl rfl ?_
  refine s_aldn (p' := 30) rfl rfl rfl ?_
  refine s_dupr (p' := 31) rfl rfl ?_
  refine s_gf (p' := 34) rfl (rd_sn rfl H393) rfl rfl ?_
  refine s_con (p' := 35) rfl rfl ?_
  refine s_bz (p' := 36) (z := (nI (g + 1))) rfl rfl rfl (mI_add _ _) ?_
  refine s_pfz (p' := 39) (fs' := [_, _, _, _, _]) rfl rfl (rd_sn rfl H393) rfl rfl rfl rfl ?_
  refine c_ret rfl ?_
  refine s_aldn (p' := 84) rfl rfl rfl ?_
  refine s_gf (p' := 87) rfl (rd_sn rfl (rd_sn rfl H0)) rfl rfl ?_
  refine c_call (p' := 90) (kc := 97) (ls0 := [_]) rfl rfl rfl rfl rfl (mj_rcv_is (rd_ss rfl (rd_sn rfl H393))) rfl rfl rfl ?_
  refine s_aldn (p' := 1) rfl rfl rfl ?_
  refine s_gf (p' := 4) rfl (rd_ss rfl (rd_sn rfl H393)) rfl rfl ?_
  refine c_iret rfl rfl ?_
  refine c_iret rfl rfl ?_
  refine s_bzL (p' := 9) (z := (Int32.toInt64 (nI (g + 1)))) rfl rfl rfl rfl ?_
  refine s_lasz (p' := 10) (m := 0) rfl rfl (rd_sn rfl (rd_sn rfl H412)) (by decide +kernel) rfl rfl rfl ?_
  refine s_goto (p' := 21) rfl rfl ?_
  refine s_con (p' := 22) rfl rfl ?_
  refine k_iret rfl rfl ?_
  refine l_ist (p' := 1836) (ls' := [_, _, _, _, _, _, _, _, _, _]) rfl rfl rfl rfl rfl ?_
  refine l_aldn (p' := 1837) rfl rfl rfl rfl ?_
  refine l_alds (p' := 1838) rfl rfl rfl rfl ?_
  refine l_ild (p' := 1840) rfl rfl rfl rfl ?_
  refine l_con (p' := 1841) rfl rfl rfl ?_
  refine l_bz (p' := 1842) (z := (nI (i + 1))) rfl rfl rfl rfl rfl (mI_add _ _) ?_
  refine l_ialz (p' := 1843) (m := (i + 1)) (z := (nI l)) rfl rfl (inb_nI (by omega) (by omega)) (mI_cl (by omega)) hx1 rfl ?_
  refine l_alds (p' := 1844) rfl rfl rfl rfl ?_
  refine l_ild (p' := 1846) rfl rfl rfl rfl ?_
  refine l_con (p' := 1847) rfl rfl rfl ?_
  refine l_bz (p' := 1848) (z := (nI (i + 2))) rfl rfl rfl rfl rfl (mI_add _ _) ?_
  refine l_ialz (p' := 1849) (m := (i + 2)) (z := (nI c)) rfl rfl (inb_nI (by omega) (by omega)) (mI_cl (by omega)) hx2 rfl ?_
  refine l_call (p' := 1852) (kc := 99) (ls0 := [_, _, _, _]) rfl rfl rfl rfl rfl rfl (mj_rcv_is (rd_sn rfl (rd_sn rfl (rd_sn rfl H400)))) rfl rfl rfl ?_
  refine s_ildn (p' := 1) rfl rfl rfl ?_
  refine s_con (p' := 2) rfl rfl ?_
  refine s_con (p' := 3) rfl rfl ?_
  refine c_call (p' := 6) (kc := 98) (ls0 := [_, _, _]) rfl rfl rfl rfl rfl rfl rfl rfl rfl ?_
  refine s_ildn (p' := 1) rfl rfl rfl ?_
  refine s_ildn (p' := 2) rfl rfl rfl ?_
  refine s_icmp (p' := 5) false rfl ((ch_gt (w := 0) (by decide +kernel)).trans (decide_eq_false (by rw [mI_ti (by omega)]; omega))) rfl ?_
  refine s_ildn (p' := 6) rfl rfl rfl ?_
  refine s_ildn (p' := 7) rfl rfl rfl ?_
  refine s_icmp (p' := 10) false rfl ((cg_gt (w := 2) (by decide +kernel)).trans (decide_eq_false (by rw [mI_ti (by omega)]; omega))) rfl ?_
  refine s_con (p' := 11) rfl rfl ?_
  refine s_goto (p' := 15) rfl rfl ?_
  refine c_iret rfl (by decide +kernel) ?_
  refine s_if (p' := 9) false rfl (by decide +kernel) rfl ?_
  refine s_ildn (p' := 10) rfl rfl rfl ?_
  refine s_con (p' := 11) rfl rfl ?_
  refine s_bip (p' := 13) rfl rfl ?_
  refine c_call (p' := 16) (kc := 98) (ls0 := [_, _, _]) rfl rfl rfl rfl rfl rfl rfl rfl rfl ?_
  refine s_ildn (p' := 1) rfl rfl rfl ?_
  refine s_ildn (p' := 2) rfl rfl rfl ?_
  refine s_icmp (p' := 5) false rfl ((ch_gt (w := 0) (by decide +kernel)).trans (decide_eq_false (by rw [mI_ti (by omega)]; omega))) rfl ?_
  refine s_ildn (p' := 6) rfl rfl rfl ?_
  refine s_ildn (p' := 7) rfl rfl rfl ?_
  refine s_icmp (p' := 10) false rfl ((cg_gt (w := 7) (by decide +kernel)).trans (decide_eq_false (by rw [mI_ti (by omega)]; omega))) rfl ?_
  refine s_con (p' := 11) rfl rfl ?_
  refine s_goto (p' := 15) rfl rfl ?_
  refine c_iret rfl (by decide +kernel) ?_
  refine s_if (p' := 19) false rfl (by decide +kernel) rfl ?_
  refine s_ildn (p' := 20) rfl rfl rfl ?_
  refine s_ildn (p' := 21) rfl rfl rfl ?_
  refine s_bz (p' := 22) (z := (nI c >>> (nI l &&& 31))) rfl rfl rfl rfl ?_
  refine s_con (p' := 23) rfl rfl ?_
  refine s_bz (p' := 24) (z := (nI 0)) rfl rfl rfl hcr ?_
  refine s_if (p' := 27) false rfl (by decide +kernel) rfl ?_
  refine s_con (p' := 28) rfl rfl ?_
  refine s_goto (p' := 32) rfl rfl ?_
  refine s_istn (p' := 33) (ls' := [_, _, _, _]) rfl rfl rfl rfl ?_
  refine s_aldn (p' := 34) rfl rfl rfl ?_
  refine s_ildn (p' := 35) rfl rfl rfl ?_
  refine s_if (p' := 42) true rfl (by decide +kernel) rfl ?_
  refine s_aldn (p' := 43) rfl rfl rfl ?_
  refine s_gf (p' := 46) rfl (rd_sn rfl (rd_sn rfl (rd_sn rfl H400))) rfl rfl ?_
  refine c_call (p' := 51) (kc := 98) (ls0 := [_]) rfl rfl rfl rfl rfl (mj_rcv_is (rd_sn rfl (rd_sn rfl (rd_sn rfl H410)))) rfl rfl rfl ?_
  refine s_aldn (p' := 1) rfl rfl rfl ?_
  refine s_gf (p' := 4) rfl (rd_sn rfl (rd_sn rfl (rd_sn rfl H410))) rfl rfl ?_
  refine c_iret rfl rfl ?_
  refine s_bip (p' := 53) rfl rfl ?_
  refine s_icmp (p' := 60) true rfl ((cg_ne (w := 24) (by decide +kernel)).trans (decide_eq_true (by rw [mI_ti (by omega)]; omega))) rfl ?_
  refine s_con (p' := 61) rfl rfl ?_
  refine c_call (p' := 64) (kc := 98) (ls0 := [_, _]) rfl rfl rfl rfl rfl (mj_rcv_is (rd_sn rfl (rd_sn rfl (rd_sn rfl H400)))) rfl rfl rfl ?_
  refine s_aldn (p' := 1) rfl rfl rfl ?_
  refine s_ildn (p' := 2) rfl rfl rfl ?_
  refine s_pfz (p' := 5) (fs' := [_, _, _, _, _, _, _, _, _, _, _]) rfl rfl (rd_sn rfl (rd_sn rfl (rd_sn rfl H400))) rfl rfl rfl rfl ?_
  refine s_ildn (p' := 6) rfl rfl rfl ?_
  refine s_if (p' := 13) true rfl (by decide +kernel) rfl ?_
  refine s_con (p' := 14) rfl rfl ?_
  refine c_iret rfl (by decide +kernel) ?_
  refine s_if (p' := 69) true rfl (by decide +kernel) rfl ?_
  refine s_aldn (p' := 70) rfl rfl rfl ?_
  refine s_gf (p' := 73) rfl (rd_ss rfl (rd_sn rfl (rd_sn rfl (rd_sn rfl H400)))) rfl rfl ?_
  refine s_bip (p' := 75) rfl rfl ?_
  refine s_ildn (p' := 76) rfl rfl rfl ?_
  refine s_bz (p' := 77) (z := (nI (8 * l))) rfl rfl rfl (mI_mul _ _) ?_
  refine s_ildn (p' := 78) rfl rfl rfl ?_
  refine s_bz (p' := 79) (z := (nI ((8 * l) + c))) rfl rfl rfl (mI_add _ _) ?_
  refine s_callV (p' := 82) (kc := 0) (ls0 := [_]) rfl rfl rfl rfl rfl rfl rfl (y_vo (by omega)) (by decide) rfl ?_
  refine s_callEV (p' := 87) (ls0 := [_, _]) rfl rfl rfl rfl rfl (mj_rcv_is (rd_sn rfl (rd_sn rfl (rd_sn rfl (rd_sn rfl H410))))) rfl (y_ad (by decide) (by rw [(len_s (len_s (len_s (len_s HL))))]; omega) (by omega) ⟨cap, mc, ef, (rd_sn rfl (rd_sn rfl (rd_sn rfl (rd_sn rfl H410)))), (rdA_sn (beq_eq_false_iff_ne.mpr (by omega)) (rdA_sn (beq_eq_false_iff_ne.mpr (by omega)) (rdA_sn (beq_eq_false_iff_ne.mpr (by omega)) (rdA_sn (beq_eq_false_iff_ne.mpr (by omega)) hEA)))), hgc, hc31, hE3, fun j hj => ⟨(hG2 j hj).1, gE_k _ (hG2 j hj).2⟩⟩ (gE_k _ (show 8 * l + c < 24 by omega))) rfl rfl ?_
  rintro _ h1 ⟨rfl, E1, k1, k2, k3, k4⟩
  obtain ⟨mc1, k5⟩ := k1.c
  rw [(len_s (len_s (len_s (len_s HL))))] at k2
  replace k4 : mz_mo [410, E] 1 58 _ h1 := k4.wk (fun _ hy => Or.inl hy) (by omega) (by omega)
  refine s_sp (p' := 88) (ls' := _) rfl rfl rfl ?_
  refine s_aldn (p' := 89) rfl rfl rfl ?_
  refine s_gf (p' := 92) rfl (k4.1 400 (by simp <;> omega) _ (rd_ss rfl (rd_sn rfl (rd_sn rfl (rd_sn rfl H400))))) rfl rfl ?_
  refine c_call (p' := 97) (kc := 98) (ls0 := [_]) rfl rfl rfl rfl rfl (mj_rcv_is k5) rfl rfl rfl ?_
  refine s_aldn (p' := 1) rfl rfl rfl ?_
  refine s_gf (p' := 4) rfl k5 rfl rfl ?_
  refine c_iret rfl rfl ?_
  refine k_iret rfl rfl ?_
  refine l_ist (p' := 1854) (ls' := [_, _, _, _, _, _, _, _, _, _]) rfl rfl rfl rfl rfl ?_
  refine l_aldn (p' := 1855) rfl rfl rfl rfl ?_
  refine l_call (p' := 1858) (kc := 99) (ls0 := [_]) rfl rfl rfl rfl rfl rfl (mj_rcv_is (k4.1 400 (by simp <;> omega) _ (rd_ss rfl (rd_sn rfl (rd_sn rfl (rd_sn rfl H400)))))) rfl rfl rfl ?_
  refine s_aldn (p' := 1) rfl rfl rfl ?_
  refine s_gf (p' := 4) rfl (k4.1 400 (by simp <;> omega) _ (rd_ss rfl (rd_sn rfl (rd_sn rfl (rd_sn rfl H400))))) rfl rfl ?_
  refine k_iret rfl rfl ?_
  refine l_ild (p' := 1860) rfl rfl rfl rfl ?_
  refine l_icmp (p' := 1865) true rfl rfl (by decide +kernel) rfl ?_
  refine l_ild (p' := 1867) rfl rfl rfl rfl ?_
  refine l_if (p' := 1870) false rfl rfl (by decide +kernel) rfl ?_
  refine l_aldn (p' := 1871) rfl rfl rfl rfl ?_
  refine l_con (p' := 1872) rfl rfl rfl ?_
  refine l_lalz (p' := 1873) (m := 0) (v := (Int32.toInt64 (nI (g + 1)))) rfl rfl (k4.1 412 (by simp <;> omega) _ (rd_sn rfl (rd_ss rfl (rd_sn rfl (rd_sn rfl H412))))) (by decide +kernel) rfl rfl rfl ?_
  refine l_ild (p' := 1875) rfl rfl rfl rfl ?_
  refine l_bzL (p' := 1876) (z := (Int32.toInt64 (nI (g + 1)))) rfl rfl rfl rfl rfl rfl ?_
  refine l_bz (p' := 1877) (z := nI 0) rfl rfl rfl rfl rfl (lcmp_self _) ?_
  refine l_if (p' := 1882) true rfl rfl (by decide +kernel) rfl ?_
  refine l_goto (p' := 2541) rfl rfl rfl ?_
  refine l_incz (p' := 2544) (w := (nI (i + 4))) (ls' := [_, _, _, _, _, _, _, _, _, _]) rfl rfl rfl rfl (mI_add _ _) rfl rfl ?_
  refine l_goto (p' := 28) rfl rfl rfl ?_
  exact hn _ _ _ _ _ ⟨(k4.1 393 (by simp <;> omega) _ (rd_sn rfl (rd_sn rfl (rd_ss rfl (rd_sn rfl H393))))), (k4.1 394 (by simp <;> omega) _ (rd_sn rfl (rd_sn rfl (rd_sn rfl (rd_ss rfl H394))))), (k4.1 400 (by simp <;> omega) _ (rd_ss rfl (rd_sn rfl (rd_sn rfl (rd_sn rfl H400))))), (k4.1 412 (by simp <;> omega) _ (rd_sn rfl (rd_ss rfl (rd_sn rfl (rd_sn rfl H412))))), ⟨E1, k1, k2, k3⟩, ((mz_fr.s (by simp) (mz_fr.s (by simp) (mz_fr.s (by simp) (mz_fr.s (by simp) (mz_fr.rf _ h))))).tr2 k4.1 (fun y hy => Or.inl (by simp at hy ⊢ <;> omega))), (Nat.le_trans (k4.len (Nat.le_of_eq (len_s (len_s (len_s (len_s HL))))) rfl) (by omega)), (Nat.le_trans (k4.sz (K := 58) (sz_s rfl (rd_sn rfl (rd_sn rfl (rd_sn rfl H400))) rfl (sz_sA rfl (rd_sn rfl (rd_sn rfl H412)) (sz_s rfl (rd_sn rfl H393) rfl (sz_sA rfl H394 (Nat.le_refl (mj_sz h)))))) (by omega) rfl) (by omega))⟩
theorem lr_6_0 {L i : Nat} {xs : Nat → Int32} {h : mj_H} {l6 l7 l8 l9 : Option Value} {P A B : mj_H → Prop} {b : Int32} (hL : L ≤ 2048) (hi : i + 4 ≤ L) (hk : xs i &&& nI 63 = nI 6) (hw : mj_Wp 250 136 (0, [some (.ref 0), some (.int (xs (i + 1))), some (.ref 412), none], [], h) (mz_V fun r g => r = .int (nI 0) ∧ A g)) (hA : ∀ g, A g → ∃ fs : List Value, mj_rd g 400 = some (.inr (17, fs))) (hm : ∀ g, A g → mj_Wp 250 368 (0, [some (.ref 400), some (.int (xs (i + 1)))], [], g) (mz_V fun r g2 => r = .int b ∧ B g2)) (hB : ∀ g, B g → ∃ rs : List Value, mj_rd g 400 = some (.inr (17, .int (nI 0) :: rs)) ∧ ∃ ou : Nat → Int64, mj_rd g 412 = some (.inl (4, (1, .inr (.inl ou)))) ∧ ou 0 = Int32.toInt64 b) (hn : ∀ (l6 l7 l8 l9 : Option Value) (g : mj_H), B g → mj_lrun L xs (28, [some (.retAddr 1), some (.ref 0), some (.ref 400), some (.ref 412), some (.ref 413), some (.int (nI (i + 4))), l6, l7, l8, l9], [], g) P) : mj_lrun L xs (28, [some (.retAddr 1), some (.ref 0), some (.ref 400), some (.ref 412), some (.ref 413), some (.int (nI i)), l6, l7, l8, l9], [], h) P := by
  refine l_ild (p' := 30) rfl rfl rfl rfl ?_
  refine l_alds (p' := 31) rfl rfl rfl rfl ?_
  refine l_lens (p' := 32) rfl rfl rfl ?_
  refine l_con (p' := 33) rfl rfl rfl ?_
  refine l_bz (p' := 34) (z := (nI (L - 4))) rfl rfl rfl rfl rfl (mI_sub (by omega)) ?_
  refine l_icmp (p' := 37) false rfl rfl ((ci_gt (by omega) (by omega)).trans (decide_eq_false (by omega))) rfl ?_
  refine l_alds (p' := 38) rfl rfl rfl rfl ?_
  refine l_ild (p' := 40) rfl rfl rfl rfl ?_
  refine l_ialz (p' := 41) (m := i) (z := (xs i)) rfl rfl (inb_nI (by omega) (by omega)) (mI_cl (by omega)) rfl rfl ?_
  refine l_bip (p' := 43) rfl rfl rfl ?_
  refine l_bz (p' := 44) (z := (nI 6)) rfl rfl rfl rfl rfl hk ?_
  refine l_sp (p' := 519) (ls' := _) rfl rfl rfl rfl rfl ?_
  refine l_aldn (p' := 520) rfl rfl rfl rfl ?_
  refine l_alds (p' := 521) rfl rfl rfl rfl ?_
  refine l_ild (p' := 523) rfl rfl rfl rfl ?_
  refine l_con (p' := 524) rfl rfl rfl ?_
  refine l_bz (p' := 525) (z := (nI (i + 1))) rfl rfl rfl rfl rfl (mI_add _ _) ?_
  refine l_ialz (p' := 526) (m := i + 1) (z := (xs (i + 1))) rfl rfl (inb_nI (by omega) (by omega)) (mI_cl (by omega)) rfl rfl ?_
  refine l_aldn (p' := 527) rfl rfl rfl rfl ?_
  refine l_call (p' := 530) (kc := 250) (ls0 := [_, _, _, _]) rfl rfl rfl rfl rfl rfl rfl rfl rfl rfl ?_
  refine hw.imp ?_
  rintro _ ⟨_, h1, rfl, rfl, hA1⟩
  show mj_lrun _ _ (530, _, _, _) _
  try dsimp only
  refine l_ist (p' := 532) (ls' := [_, _, _, _, _, _, _, _, _, _]) rfl rfl rfl rfl rfl ?_
  refine l_aldn (p' := 533) rfl rfl rfl rfl ?_
  refine l_alds (p' := 534) rfl rfl rfl rfl ?_
  refine l_ild (p' := 536) rfl rfl rfl rfl ?_
  refine l_con (p' := 537) rfl rfl rfl ?_
  refine l_bz (p' := 538) (z := (nI (i + 1))) rfl rfl rfl rfl rfl (mI_add _ _) ?_
  refine l_ialz (p' := 539) (m := i + 1) (z := (xs (i + 1))) rfl rfl (inb_nI (by omega) (by omega)) (mI_cl (by omega)) rfl rfl ?_
  obtain ⟨fs4, q4⟩ := hA _ hA1
  refine l_call (p' := 542) (kc := 250) (ls0 := [_, _]) rfl rfl rfl rfl rfl rfl (mj_rcv_is q4) rfl rfl rfl ?_
  refine (hm h1 hA1).imp ?_
  rintro _ ⟨_, h2, rfl, rfl, hB1⟩
  show mj_lrun _ _ (542, _, _, _) _
  try dsimp only
  obtain ⟨rs5, q5, ou, q6, q7⟩ := hB _ hB1
  refine l_ist (p' := 544) (ls' := [_, _, _, _, _, _, _, _, _, _]) rfl rfl rfl rfl rfl ?_
  refine l_aldn (p' := 545) rfl rfl rfl rfl ?_
  refine l_call (p' := 548) (kc := 99) (ls0 := [_]) rfl rfl rfl rfl rfl rfl (mj_rcv_is q5) rfl rfl rfl ?_
  refine s_aldn (p' := 1) rfl rfl rfl ?_
  refine s_gf (p' := 4) rfl q5 rfl rfl ?_
  refine k_iret rfl rfl ?_
  refine l_ild (p' := 550) rfl rfl rfl rfl ?_
  refine l_icmp (p' := 555) true rfl rfl (ci_sf _) rfl ?_
  refine l_ild (p' := 557) rfl rfl rfl rfl ?_
  refine l_if (p' := 560) false rfl rfl (by decide +kernel) rfl ?_
  refine l_aldn (p' := 561) rfl rfl rfl rfl ?_
  refine l_con (p' := 562) rfl rfl rfl ?_
  refine l_lalz (p' := 563) (m := 0) (v := Int32.toInt64 b) rfl rfl q6 (by decide) rfl q7 rfl ?_
  refine l_ild (p' := 565) rfl rfl rfl rfl ?_
  refine l_bzL (p' := 566) (z := Int32.toInt64 b) rfl rfl rfl rfl rfl rfl ?_
  refine l_bz (p' := 567) (z := nI 0) rfl rfl rfl rfl rfl (lcmp_self _) ?_
  refine l_if (p' := 572) true rfl rfl (by decide +kernel) rfl ?_
  refine l_goto (p' := 2541) rfl rfl rfl ?_
  refine l_incz (p' := 2544) (w := (nI (i + 4))) (ls' := [_, _, _, _, _, _, _, _, _, _]) rfl rfl rfl rfl (mI_add _ _) rfl rfl ?_
  refine l_goto (p' := 28) rfl rfl rfl ?_
  exact hn _ _ _ _ _ hB1
theorem lr_6_1 {L i : Nat} {xs : Nat → Int32} {h : mj_H} {l6 l7 l8 l9 : Option Value} {P A B : mj_H → Prop} {b : Int32} (hL : L ≤ 2048) (hi : i + 4 ≤ L) (hk : xs i &&& nI 63 = nI 6) (hw : mj_Wp 250 136 (0, [some (.ref 0), some (.int (xs (i + 1))), some (.ref 412), none], [], h) (mz_V fun r g => r = .int (nI 1) ∧ A g)) (hA : ∀ g, A g → ∃ fs : List Value, mj_rd g 400 = some (.inr (17, fs))) (hm : ∀ g, A g → mj_Wp 250 368 (0, [some (.ref 400), some (.int (xs (i + 1)))], [], g) (mz_V fun r g2 => r = .int b ∧ B g2)) (hB : ∀ g, B g → ∃ rs : List Value, mj_rd g 400 = some (.inr (17, .int (nI 1) :: rs))) (hn : ∀ (l6 l7 l8 l9 : Option Value) (g : mj_H), B g → mj_lrun L xs (28, [some (.retAddr 1), some (.ref 0), some (.ref 400), some (.ref 412), some (.ref 413), some (.int (nI (i + 4))), l6, l7, l8, l9], [], g) P) : mj_lrun L xs (28, [some (.retAddr 1), some (.ref 0), some (.ref 400), some (.ref 412), some (.ref 413), some (.int (nI i)), l6, l7, l8, l9], [], h) P := by
  refine l_ild (p' := 30) rfl rfl rfl rfl ?_
  refine l_alds (p' := 31) rfl rfl rfl rfl ?_
  refine l_lens (p' := 32) rfl rfl rfl ?_
  refine l_con (p' := 33) rfl rfl rfl ?_
  refine l_bz (p' := 34) (z := (nI (L - 4))) rfl rfl rfl rfl rfl (mI_sub (by omega)) ?_
  refine l_icmp (p' := 37) false rfl rfl ((ci_gt (by omega) (by omega)).trans (decide_eq_false (by omega))) rfl ?_
  refine l_alds (p' := 38) rfl rfl rfl rfl ?_
  refine l_ild (p' := 40) rfl rfl rfl rfl ?_
  refine l_ialz (p' := 41) (m := i) (z := (xs i)) rfl rfl (inb_nI (by omega) (by omega)) (mI_cl (by omega)) rfl rfl ?_
  refine l_bip (p' := 43) rfl rfl rfl ?_
  refine l_bz (p' := 44) (z := (nI 6)) rfl rfl rfl rfl rfl hk ?_
  refine l_sp (p' := 519) (ls' := _) rfl rfl rfl rfl rfl ?_
  refine l_aldn (p' := 520) rfl rfl rfl rfl ?_
  refine l_alds (p' := 521) rfl rfl rfl rfl ?_
  refine l_ild (p' := 523) rfl rfl rfl rfl ?_
  refine l_con (p' := 524) rfl rfl rfl ?_
  refine l_bz (p' := 525) (z := (nI (i + 1))) rfl rfl rfl rfl rfl (mI_add _ _) ?_
  refine l_ialz (p' := 526) (m := i + 1) (z := (xs (i + 1))) rfl rfl (inb_nI (by omega) (by omega)) (mI_cl (by omega)) rfl rfl ?_
  refine l_aldn (p' := 527) rfl rfl rfl rfl ?_
  refine l_call (p' := 530) (kc := 250) (ls0 := [_, _, _, _]) rfl rfl rfl rfl rfl rfl rfl rfl rfl rfl ?_
  refine hw.imp ?_
  rintro _ ⟨_, h1, rfl, rfl, hA1⟩
  show mj_lrun _ _ (530, _, _, _) _
  try dsimp only
  refine l_ist (p' := 532) (ls' := [_, _, _, _, _, _, _, _, _, _]) rfl rfl rfl rfl rfl ?_
  refine l_aldn (p' := 533) rfl rfl rfl rfl ?_
  refine l_alds (p' := 534) rfl rfl rfl rfl ?_
  refine l_ild (p' := 536) rfl rfl rfl rfl ?_
  refine l_con (p' := 537) rfl rfl rfl ?_
  refine l_bz (p' := 538) (z := (nI (i + 1))) rfl rfl rfl rfl rfl (mI_add _ _) ?_
  refine l_ialz (p' := 539) (m := i + 1) (z := (xs (i + 1))) rfl rfl (inb_nI (by omega) (by omega)) (mI_cl (by omega)) rfl rfl ?_
  obtain ⟨fs4, q4⟩ := hA _ hA1
  refine l_call (p' := 542) (kc := 250) (ls0 := [_, _]) rfl rfl rfl rfl rfl rfl (mj_rcv_is q4) rfl rfl rfl ?_
  refine (hm h1 hA1).imp ?_
  rintro _ ⟨_, h2, rfl, rfl, hB1⟩
  show mj_lrun _ _ (542, _, _, _) _
  try dsimp only
  obtain ⟨rs5, q5⟩ := hB _ hB1
  refine l_ist (p' := 544) (ls' := [_, _, _, _, _, _, _, _, _, _]) rfl rfl rfl rfl rfl ?_
  refine l_aldn (p' := 545) rfl rfl rfl rfl ?_
  refine l_call (p' := 548) (kc := 99) (ls0 := [_]) rfl rfl rfl rfl rfl rfl (mj_rcv_is q5) rfl rfl rfl ?_
  refine s_aldn (p' := 1) rfl rfl rfl ?_
  refine s_gf (p' := 4) rfl q5 rfl rfl ?_
  refine k_iret rfl rfl ?_
  refine l_ild (p' := 550) rfl rfl rfl rfl ?_
  refine l_icmp (p' := 555) true rfl rfl (ci_sf _) rfl ?_
  refine l_ild (p' := 557) rfl rfl rfl rfl ?_
  refine l_if (p' := 572) true rfl rfl (by decide +kernel) rfl ?_
  refine l_goto (p' := 2541) rfl rfl rfl ?_
  refine l_incz (p' := 2544) (w := (nI (i + 4))) (ls' := [_, _, _, _, _, _, _, _, _, _]) rfl rfl rfl rfl (mI_add _ _) rfl rfl ?_
  refine l_goto (p' := 28) rfl rfl rfl ?_
  exact hn _ _ _ _ _ hB1
theorem lr_8_0 {L i : Nat} {xs : Nat → Int32} {h : mj_H} {l6 l7 l8 l9 : Option Value} {P A B : mj_H → Prop} {b : Int32} (hL : L ≤ 2048) (hi : i + 4 ≤ L) (hk : xs i &&& nI 63 = nI 8) (hw : mj_Wp 250 141 (0, [some (.ref 0), some (.int (xs (i + 1))), some (.ref 412), none], [], h) (mz_V fun r g => r = .int (nI 0) ∧ A g)) (hA : ∀ g, A g → ∃ fs : List Value, mj_rd g 400 = some (.inr (17, fs))) (hm : ∀ g, A g → mj_Wp 250 370 (0, [some (.ref 400), some (.int (xs (i + 1)))], [], g) (mz_V fun r g2 => r = .int b ∧ B g2)) (hB : ∀ g, B g → ∃ rs : List Value, mj_rd g 400 = some (.inr (17, .int (nI 0) :: rs)) ∧ ∃ ou : Nat → Int64, mj_rd g 412 = some (.inl (4, (1, .inr (.inl ou)))) ∧ ou 0 = Int32.toInt64 b) (hn : ∀ (l6 l7 l8 l9 : Option Value) (g : mj_H), B g → mj_lrun L xs (28, [some (.retAddr 1), some (.ref 0), some (.ref 400), some (.ref 412), some (.ref 413), some (.int (nI (i + 4))), l6, l7, l8, l9], [], g) P) : mj_lrun L xs (28, [some (.retAddr 1), some (.ref 0), some (.ref 400), some (.ref 412), some (.ref 413), some (.int (nI i)), l6, l7, l8, l9], [], h) P := by
  refine l_ild (p' := 30) rfl rfl rfl rfl ?_
  refine l_alds (p' := 31) rfl rfl rfl rfl ?_
  refine l_lens (p' := 32) rfl rfl rfl ?_
  refine l_con (p' := 33) rfl rfl rfl ?_
  refine l_bz (p' := 34) (z := (nI (L - 4))) rfl rfl rfl rfl rfl (mI_sub (by omega)) ?_
  refine l_icmp (p' := 37) false rfl rfl ((ci_gt (by omega) (by omega)).trans (decide_eq_false (by omega))) rfl ?_
  refine l_alds (p' := 38) rfl rfl rfl rfl ?_
  refine l_ild (p' := 40) rfl rfl rfl rfl ?_
  refine l_ialz (p' := 41) (m := i) (z := (xs i)) rfl rfl (inb_nI (by omega) (by omega)) (mI_cl (by omega)) rfl rfl ?_
  refine l_bip (p' := 43) rfl rfl rfl ?_
  refine l_bz (p' := 44) (z := (nI 8)) rfl rfl rfl rfl rfl hk ?_
  refine l_sp (p' := 643) (ls' := _) rfl rfl rfl rfl rfl ?_
  refine l_aldn (p' := 644) rfl rfl rfl rfl ?_
  refine l_alds (p' := 645) rfl rfl rfl rfl ?_
  refine l_ild (p' := 647) rfl rfl rfl rfl ?_
  refine l_con (p' := 648) rfl rfl rfl ?_
  refine l_bz (p' := 649) (z := (nI (i + 1))) rfl rfl rfl rfl rfl (mI_add _ _) ?_
  refine l_ialz (p' := 650) (m := i + 1) (z := (xs (i + 1))) rfl rfl (inb_nI (by omega) (by omega)) (mI_cl (by omega)) rfl rfl ?_
  refine l_aldn (p' := 651) rfl rfl rfl rfl ?_
  refine l_call (p' := 654) (kc := 250) (ls0 := [_, _, _, _]) rfl rfl rfl rfl rfl rfl rfl rfl rfl rfl ?_
  refine hw.imp ?_
  rintro _ ⟨_, h1, rfl, rfl, hA1⟩
  show mj_lrun _ _ (654, _, _, _) _
  try dsimp only
  refine l_ist (p' := 656) (ls' := [_, _, _, _, _, _, _, _, _, _]) rfl rfl rfl rfl rfl ?_
  refine l_aldn (p' := 657) rfl rfl rfl rfl ?_
  refine l_alds (p' := 658) rfl rfl rfl rfl ?_
  refine l_ild (p' := 660) rfl rfl rfl rfl ?_
  refine l_con (p' := 661) rfl rfl rfl ?_
  refine l_bz (p' := 662) (z := (nI (i + 1))) rfl rfl rfl rfl rfl (mI_add _ _) ?_
  refine l_ialz (p' := 663) (m := i + 1) (z := (xs (i + 1))) rfl rfl (inb_nI (by omega) (by omega)) (mI_cl (by omega)) rfl rfl ?_
  obtain ⟨fs4, q4⟩ := hA _ hA1
  refine l_call (p' := 666) (kc := 250) (ls0 := [_, _]) rfl rfl rfl rfl rfl rfl (mj_rcv_is q4) rfl rfl rfl ?_
  refine (hm h1 hA1).imp ?_
  rintro _ ⟨_, h2, rfl, rfl, hB1⟩
  show mj_lrun _ _ (666, _, _, _) _
  try dsimp only
  obtain ⟨rs5, q5, ou, q6, q7⟩ := hB _ hB1
  refine l_ist (p' := 668) (ls' := [_, _, _, _, _, _, _, _, _, _]) rfl rfl rfl rfl rfl ?_
  refine l_aldn (p' := 669) rfl rfl rfl rfl ?_
  refine l_call (p' := 672) (kc := 99) (ls0 := [_]) rfl rfl rfl rfl rfl rfl (mj_rcv_is q5) rfl rfl rfl ?_
  refine s_aldn (p' := 1) rfl rfl rfl ?_
  refine s_gf (p' := 4) rfl q5 rfl rfl ?_
  refine k_iret rfl rfl ?_
  refine l_ild (p' := 674) rfl rfl rfl rfl ?_
  refine l_icmp (p' := 679) true rfl rfl (ci_sf _) rfl ?_
  refine l_ild (p' := 681) rfl rfl rfl rfl ?_
  refine l_if (p' := 684) false rfl rfl (by decide +kernel) rfl ?_
  refine l_aldn (p' := 685) rfl rfl rfl rfl ?_
  refine l_con (p' := 686) rfl rfl rfl ?_
  refine l_lalz (p' := 687) (m := 0) (v := Int32.toInt64 b) rfl rfl q6 (by decide) rfl q7 rfl ?_
  refine l_ild (p' := 689) rfl rfl rfl rfl ?_
  refine l_bzL (p' := 690) (z := Int32.toInt64 b) rfl rfl rfl rfl rfl rfl ?_
  refine l_bz (p' := 691) (z := nI 0) rfl rfl rfl rfl rfl (lcmp_self _) ?_
  refine l_if (p' := 696) true rfl rfl (by decide +kernel) rfl ?_
  refine l_goto (p' := 2541) rfl rfl rfl ?_
  refine l_incz (p' := 2544) (w := (nI (i + 4))) (ls' := [_, _, _, _, _, _, _, _, _, _]) rfl rfl rfl rfl (mI_add _ _) rfl rfl ?_
  refine l_goto (p' := 28) rfl rfl rfl ?_
  exact hn _ _ _ _ _ hB1
theorem lr_8_1 {L i : Nat} {xs : Nat → Int32} {h : mj_H} {l6 l7 l8 l9 : Option Value} {P A B : mj_H → Prop} {b : Int32} (hL : L ≤ 2048) (hi : i + 4 ≤ L) (hk : xs i &&& nI 63 = nI 8) (hw : mj_Wp 250 141 (0, [some (.ref 0), some (.int (xs (i + 1))), some (.ref 412), none], [], h) (mz_V fun r g => r = .int (nI 1) ∧ A g)) (hA : ∀ g, A g → ∃ fs : List Value, mj_rd g 400 = some (.inr (17, fs))) (hm : ∀ g, A g → mj_Wp 250 370 (0, [some (.ref 400), some (.int (xs (i + 1)))], [], g) (mz_V fun r g2 => r = .int b ∧ B g2)) (hB : ∀ g, B g → ∃ rs : List Value, mj_rd g 400 = some (.inr (17, .int (nI 1) :: rs))) (hn : ∀ (l6 l7 l8 l9 : Option Value) (g : mj_H), B g → mj_lrun L xs (28, [some (.retAddr 1), some (.ref 0), some (.ref 400), some (.ref 412), some (.ref 413), some (.int (nI (i + 4))), l6, l7, l8, l9], [], g) P) : mj_lrun L xs (28, [some (.retAddr 1), some (.ref 0), some (.ref 400), some (.ref 412), some (.ref 413), some (.int (nI i)), l6, l7, l8, l9], [], h) P := by
  refine l_ild (p' := 30) rfl rfl rfl rfl ?_
  refine l_alds (p' := 31) rfl rfl rfl rfl ?_
  refine l_lens (p' := 32) rfl rfl rfl ?_
  refine l_con (p' := 33) rfl rfl rfl ?_
  refine l_bz (p' := 34) (z := (nI (L - 4))) rfl rfl rfl rfl rfl (mI_sub (by omega)) ?_
  refine l_icmp (p' := 37) false rfl rfl ((ci_gt (by omega) (by omega)).trans (decide_eq_false (by omega))) rfl ?_
  refine l_alds (p' := 38) rfl rfl rfl rfl ?_
  refine l_ild (p' := 40) rfl rfl rfl rfl ?_
  refine l_ialz (p' := 41) (m := i) (z := (xs i)) rfl rfl (inb_nI (by omega) (by omega)) (mI_cl (by omega)) rfl rfl ?_
  refine l_bip (p' := 43) rfl rfl rfl ?_
  refine l_bz (p' := 44) (z := (nI 8)) rfl rfl rfl rfl rfl hk ?_
  refine l_sp (p' := 643) (ls' := _) rfl rfl rfl rfl rfl ?_
  refine l_aldn (p' := 644) rfl rfl rfl rfl ?_
  refine l_alds (p' := 645) rfl rfl rfl rfl ?_
  refine l_ild (p' := 647) rfl rfl rfl rfl ?_
  refine l_con (p' := 648) rfl rfl rfl ?_
  refine l_bz (p' := 649) (z := (nI (i + 1))) rfl rfl rfl rfl rfl (mI_add _ _) ?_
  refine l_ialz (p' := 650) (m := i + 1) (z := (xs (i + 1))) rfl rfl (inb_nI (by omega) (by omega)) (mI_cl (by omega)) rfl rfl ?_
  refine l_aldn (p' := 651) rfl rfl rfl rfl ?_
  refine l_call (p' := 654) (kc := 250) (ls0 := [_, _, _, _]) rfl rfl rfl rfl rfl rfl rfl rfl rfl rfl ?_
  refine hw.imp ?_
  rintro _ ⟨_, h1, rfl, rfl, hA1⟩
  show mj_lrun _ _ (654, _, _, _) _
  try dsimp only
  refine l_ist (p' := 656) (ls' := [_, _, _, _, _, _, _, _, _, _]) rfl rfl rfl rfl rfl ?_
  refine l_aldn (p' := 657) rfl rfl rfl rfl ?_
  refine l_alds (p' := 658) rfl rfl rfl rfl ?_
  refine l_ild (p' := 660) rfl rfl rfl rfl ?_
  refine l_con (p' := 661) rfl rfl rfl ?_
  refine l_bz (p' := 662) (z := (nI (i + 1))) rfl rfl rfl rfl rfl (mI_add _ _) ?_
  refine l_ialz (p' := 663) (m := i + 1) (z := (xs (i + 1))) rfl rfl (inb_nI (by omega) (by omega)) (mI_cl (by omega)) rfl rfl ?_
  obtain ⟨fs4, q4⟩ := hA _ hA1
  refine l_call (p' := 666) (kc := 250) (ls0 := [_, _]) rfl rfl rfl rfl rfl rfl (mj_rcv_is q4) rfl rfl rfl ?_
  refine (hm h1 hA1).imp ?_
  rintro _ ⟨_, h2, rfl, rfl, hB1⟩
  show mj_lrun _ _ (666, _, _, _) _
  try dsimp only
  obtain ⟨rs5, q5⟩ := hB _ hB1
  refine l_ist (p' := 668) (ls' := [_, _, _, _, _, _, _, _, _, _]) rfl rfl rfl rfl rfl ?_
  refine l_aldn (p' := 669) rfl rfl rfl rfl ?_
  refine l_call (p' := 672) (kc := 99) (ls0 := [_]) rfl rfl rfl rfl rfl rfl (mj_rcv_is q5) rfl rfl rfl ?_
  refine s_aldn (p' := 1) rfl rfl rfl ?_
  refine s_gf (p' := 4) rfl q5 rfl rfl ?_
  refine k_iret rfl rfl ?_
  refine l_ild (p' := 674) rfl rfl rfl rfl ?_
  refine l_icmp (p' := 679) true rfl rfl (ci_sf _) rfl ?_
  refine l_ild (p' := 681) rfl rfl rfl rfl ?_
  refine l_if (p' := 696) true rfl rfl (by decide +kernel) rfl ?_
  refine l_goto (p' := 2541) rfl rfl rfl ?_
  refine l_incz (p' := 2544) (w := (nI (i + 4))) (ls' := [_, _, _, _, _, _, _, _, _, _]) rfl rfl rfl rfl (mI_add _ _) rfl rfl ?_
  refine l_goto (p' := 28) rfl rfl rfl ?_
  exact hn _ _ _ _ _ hB1
theorem lw_length_0 {h : mj_H} {A : mj_H → Prop} {v : Int32} {p0 : Int32} (h0 : ∃ fs0 : List Value, mj_rd h 0 = some (.inr (0, fs0))) (hc : mj_Wp 249 137 (0, [some (.ref 0), some (.int p0)], [], h) (mz_V fun r g => r = .int v ∧ A g)) (hA : ∀ g, A g → ∃ ou : Nat → Int64, mj_rd g 412 = some (outC ou)) : mj_Wp 250 136 (0, [some (.ref 0), some (.int p0), some (.ref 412), none], [], h) (mz_V fun r g => r = .int (nI 0) ∧ ∃ (g1 : mj_H) (ou : Nat → Int64), A g1 ∧ mj_rd g1 412 = some (outC ou) ∧ g = g1.set 412 (outC (vp_updL ou 0 (Int32.toInt64 v)))) := by
  obtain ⟨fs0, q0⟩ := h0
  refine s_aldn (p' := 1) rfl rfl rfl ?_
  refine s_con (p' := 2) rfl rfl ?_
  refine s_aldn (p' := 3) rfl rfl rfl ?_
  refine s_ildn (p' := 4) rfl rfl rfl ?_
  refine s_callEV (p' := 7) (ls0 := [_, _]) rfl rfl rfl rfl rfl (mj_rcv_is q0) rfl hc rfl rfl ?_
  rintro _ h1 ⟨rfl, hA1⟩
  obtain ⟨ou, q6⟩ := hA _ hA1
  refine s_sp (p' := 8) (ls' := _) rfl rfl rfl ?_
  refine s_las (p' := 9) rfl (by decide) q6 (by decide) rfl ?_
  refine s_goto (p' := 15) rfl rfl ?_
  refine s_con (p' := 16) rfl rfl ?_
  refine s_iret rfl rfl ?_
  exact ⟨_, _, rfl, rfl, h1, ou, hA1, q6, rfl⟩
theorem lw_length_1 {h : mj_H} {A : mj_H → Prop} {p0 : Int32} (h0 : ∃ fs0 : List Value, mj_rd h 0 = some (.inr (0, fs0))) (hc : mj_Wp 249 137 (0, [some (.ref 0), some (.int p0)], [], h) (fun o => ∃ (q : Nat) (g : mj_H), o = (.inr q, g) ∧ q < mj_CB ∧ mj_rd g q = some (.inr (14, [])) ∧ A g)) : mj_Wp 250 136 (0, [some (.ref 0), some (.int p0), some (.ref 412), none], [], h) (mz_V fun r g => r = .int (nI 1) ∧ A g) := by
  obtain ⟨fs0, q0⟩ := h0
  refine s_aldn (p' := 1) rfl rfl rfl ?_
  refine s_con (p' := 2) rfl rfl ?_
  refine s_aldn (p' := 3) rfl rfl rfl ?_
  refine s_ildn (p' := 4) rfl rfl rfl ?_
  refine c_call (p' := 7) (kc := 249) (ls0 := [_, _]) rfl rfl rfl rfl rfl (mj_rcv_is q0) rfl rfl rfl ?_
  refine (hc).imp ?_
  rintro _ ⟨q, h1, rfl, q1, q2, hA1⟩
  refine K_c (ci := 14) (hp := 12) (Nat.blt_eq.mpr q1) (mj_ocl_is q2) rfl ?_
  refine s_astn (p' := 13) (ls' := [_, _, _, _]) rfl rfl rfl rfl ?_
  refine s_con (p' := 14) rfl rfl ?_
  refine s_iret rfl rfl ?_
  exact ⟨_, _, rfl, rfl, hA1⟩
theorem lw_size_0 {h : mj_H} {A : mj_H → Prop} {v : Int32} {p0 : Int32} (h0 : ∃ fs0 : List Value, mj_rd h 0 = some (.inr (0, fs0))) (hc : mj_Wp 249 142 (0, [some (.ref 0), some (.int p0)], [], h) (mz_V fun r g => r = .int v ∧ A g)) (hA : ∀ g, A g → ∃ ou : Nat → Int64, mj_rd g 412 = some (outC ou)) : mj_Wp 250 141 (0, [some (.ref 0), some (.int p0), some (.ref 412), none], [], h) (mz_V fun r g => r = .int (nI 0) ∧ ∃ (g1 : mj_H) (ou : Nat → Int64), A g1 ∧ mj_rd g1 412 = some (outC ou) ∧ g = g1.set 412 (outC (vp_updL ou 0 (Int32.toInt64 v)))) := by
  obtain ⟨fs0, q0⟩ := h0
  refine s_aldn (p' := 1) rfl rfl rfl ?_
  refine s_con (p' := 2) rfl rfl ?_
  refine s_aldn (p' := 3) rfl rfl rfl ?_
  refine s_ildn (p' := 4) rfl rfl rfl ?_
  refine s_callEV (p' := 7) (ls0 := [_, _]) rfl rfl rfl rfl rfl (mj_rcv_is q0) rfl hc rfl rfl ?_
  rintro _ h1 ⟨rfl, hA1⟩
  obtain ⟨ou, q6⟩ := hA _ hA1
  refine s_sp (p' := 8) (ls' := _) rfl rfl rfl ?_
  refine s_las (p' := 9) rfl (by decide) q6 (by decide) rfl ?_
  refine s_goto (p' := 15) rfl rfl ?_
  refine s_con (p' := 16) rfl rfl ?_
  refine s_iret rfl rfl ?_
  exact ⟨_, _, rfl, rfl, h1, ou, hA1, q6, rfl⟩
theorem lw_size_1 {h : mj_H} {A : mj_H → Prop} {p0 : Int32} (h0 : ∃ fs0 : List Value, mj_rd h 0 = some (.inr (0, fs0))) (hc : mj_Wp 249 142 (0, [some (.ref 0), some (.int p0)], [], h) (fun o => ∃ (q : Nat) (g : mj_H), o = (.inr q, g) ∧ q < mj_CB ∧ mj_rd g q = some (.inr (14, [])) ∧ A g)) : mj_Wp 250 141 (0, [some (.ref 0), some (.int p0), some (.ref 412), none], [], h) (mz_V fun r g => r = .int (nI 1) ∧ A g) := by
  obtain ⟨fs0, q0⟩ := h0
  refine s_aldn (p' := 1) rfl rfl rfl ?_
  refine s_con (p' := 2) rfl rfl ?_
  refine s_aldn (p' := 3) rfl rfl rfl ?_
  refine s_ildn (p' := 4) rfl rfl rfl ?_
  refine c_call (p' := 7) (kc := 249) (ls0 := [_, _]) rfl rfl rfl rfl rfl (mj_rcv_is q0) rfl rfl rfl ?_
  refine (hc).imp ?_
  rintro _ ⟨q, h1, rfl, q1, q2, hA1⟩
  refine K_c (ci := 14) (hp := 12) (Nat.blt_eq.mpr q1) (mj_ocl_is q2) rfl ?_
  refine s_astn (p' := 13) (ls' := [_, _, _, _]) rfl rfl rfl rfl ?_
  refine s_con (p' := 14) rfl rfl ?_
  refine s_iret rfl rfl ?_
  exact ⟨_, _, rfl, rfl, hA1⟩
theorem lr_50 {L i : Nat} {xs : Nat → Int32} {h : mj_H} {l6 l7 l8 l9 : Option Value} {P : mj_H → Prop} (hL : L ≤ 2048) (hi : i + 4 ≤ L) (hk : xs i &&& nI 63 = nI 50) (hn : mj_lrun L xs (28, [some (.retAddr 1), some (.ref 0), some (.ref 400), some (.ref 412), some (.ref 413), some (.int (nI (i + 4))), l6, l7, l8, l9], [], h) P) : mj_lrun L xs (28, [some (.retAddr 1), some (.ref 0), some (.ref 400), some (.ref 412), some (.ref 413), some (.int (nI i)), l6, l7, l8, l9], [], h) P := by
  refine l_ild (p' := 30) rfl rfl rfl rfl ?_
  refine l_alds (p' := 31) rfl rfl rfl rfl ?_
  refine l_lens (p' := 32) rfl rfl rfl ?_
  refine l_con (p' := 33) rfl rfl rfl ?_
  refine l_bz (p' := 34) (z := (nI (L - 4))) rfl rfl rfl rfl rfl (mI_sub (by omega)) ?_
  refine l_icmp (p' := 37) false rfl rfl ((ci_gt (by omega) (by omega)).trans (decide_eq_false (by omega))) rfl ?_
  refine l_alds (p' := 38) rfl rfl rfl rfl ?_
  refine l_ild (p' := 40) rfl rfl rfl rfl ?_
  refine l_ialz (p' := 41) (m := i) (z := (xs i)) rfl rfl (inb_nI (by omega) (by omega)) (mI_cl (by omega)) rfl rfl ?_
  refine l_bip (p' := 43) rfl rfl rfl ?_
  refine l_bz (p' := 44) (z := (nI 50)) rfl rfl rfl rfl rfl hk ?_
  refine l_sp (p' := 2541) (ls' := _) rfl rfl rfl rfl rfl ?_
  refine l_incz (p' := 2544) (w := (nI (i + 4))) (ls' := [_, _, _, _, _, _, _, _, _, _]) rfl rfl rfl rfl (mI_add _ _) rfl rfl ?_
  refine l_goto (p' := 28) rfl rfl rfl ?_
  exact hn
theorem lr_51 {L i : Nat} {xs : Nat → Int32} {h : mj_H} {l6 l7 l8 l9 : Option Value} {P : mj_H → Prop} (hL : L ≤ 2048) (hi : i + 4 ≤ L) (hk : xs i &&& nI 63 = nI 51) (hn : mj_lrun L xs (28, [some (.retAddr 1), some (.ref 0), some (.ref 400), some (.ref 412), some (.ref 413), some (.int (nI (i + 4))), l6, l7, l8, l9], [], h) P) : mj_lrun L xs (28, [some (.retAddr 1), some (.ref 0), some (.ref 400), some (.ref 412), some (.ref 413), some (.int (nI i)), l6, l7, l8, l9], [], h) P := by
  refine l_ild (p' := 30) rfl rfl rfl rfl ?_
  refine l_alds (p' := 31) rfl rfl rfl rfl ?_
  refine l_lens (p' := 32) rfl rfl rfl ?_
  refine l_con (p' := 33) rfl rfl rfl ?_
  refine l_bz (p' := 34) (z := (nI (L - 4))) rfl rfl rfl rfl rfl (mI_sub (by omega)) ?_
  refine l_icmp (p' := 37) false rfl rfl ((ci_gt (by omega) (by omega)).trans (decide_eq_false (by omega))) rfl ?_
  refine l_alds (p' := 38) rfl rfl rfl rfl ?_
  refine l_ild (p' := 40) rfl rfl rfl rfl ?_
  refine l_ialz (p' := 41) (m := i) (z := (xs i)) rfl rfl (inb_nI (by omega) (by omega)) (mI_cl (by omega)) rfl rfl ?_
  refine l_bip (p' := 43) rfl rfl rfl ?_
  refine l_bz (p' := 44) (z := (nI 51)) rfl rfl rfl rfl rfl hk ?_
  refine l_sp (p' := 2541) (ls' := _) rfl rfl rfl rfl rfl ?_
  refine l_incz (p' := 2544) (w := (nI (i + 4))) (ls' := [_, _, _, _, _, _, _, _, _, _]) rfl rfl rfl rfl (mI_add _ _) rfl rfl ?_
  refine l_goto (p' := 28) rfl rfl rfl ?_
  exact hn
theorem lr_52 {L i : Nat} {xs : Nat → Int32} {h : mj_H} {l6 l7 l8 l9 : Option Value} {P : mj_H → Prop} (hL : L ≤ 2048) (hi : i + 4 ≤ L) (hk : xs i &&& nI 63 = nI 52) (hn : mj_lrun L xs (28, [some (.retAddr 1), some (.ref 0), some (.ref 400), some (.ref 412), some (.ref 413), some (.int (nI (i + 4))), l6, l7, l8, l9], [], h) P) : mj_lrun L xs (28, [some (.retAddr 1), some (.ref 0), some (.ref 400), some (.ref 412), some (.ref 413), some (.int (nI i)), l6, l7, l8, l9], [], h) P := by
  refine l_ild (p' := 30) rfl rfl rfl rfl ?_
  refine l_alds (p' := 31) rfl rfl rfl rfl ?_
  refine l_lens (p' := 32) rfl rfl rfl ?_
  refine l_con (p' := 33) rfl rfl rfl ?_
  refine l_bz (p' := 34) (z := (nI (L - 4))) rfl rfl rfl rfl rfl (mI_sub (by omega)) ?_
  refine l_icmp (p' := 37) false rfl rfl ((ci_gt (by omega) (by omega)).trans (decide_eq_false (by omega))) rfl ?_
  refine l_alds (p' := 38) rfl rfl rfl rfl ?_
  refine l_ild (p' := 40) rfl rfl rfl rfl ?_
  refine l_ialz (p' := 41) (m := i) (z := (xs i)) rfl rfl (inb_nI (by omega) (by omega)) (mI_cl (by omega)) rfl rfl ?_
  refine l_bip (p' := 43) rfl rfl rfl ?_
  refine l_bz (p' := 44) (z := (nI 52)) rfl rfl rfl rfl rfl hk ?_
  refine l_sp (p' := 2541) (ls' := _) rfl rfl rfl rfl rfl ?_
  refine l_incz (p' := 2544) (w := (nI (i + 4))) (ls' := [_, _, _, _, _, _, _, _, _, _]) rfl rfl rfl rfl (mI_add _ _) rfl rfl ?_
  refine l_goto (p' := 28) rfl rfl rfl ?_
  exact hn
theorem lr_53 {L i : Nat} {xs : Nat → Int32} {h : mj_H} {l6 l7 l8 l9 : Option Value} {P : mj_H → Prop} (hL : L ≤ 2048) (hi : i + 4 ≤ L) (hk : xs i &&& nI 63 = nI 53) (hn : mj_lrun L xs (28, [some (.retAddr 1), some (.ref 0), some (.ref 400), some (.ref 412), some (.ref 413), some (.int (nI (i + 4))), l6, l7, l8, l9], [], h) P) : mj_lrun L xs (28, [some (.retAddr 1), some (.ref 0), some (.ref 400), some (.ref 412), some (.ref 413), some (.int (nI i)), l6, l7, l8, l9], [], h) P := by
  refine l_ild (p' := 30) rfl rfl rfl rfl ?_
  refine l_alds (p' := 31) rfl rfl rfl rfl ?_
  refine l_lens (p' := 32) rfl rfl rfl ?_
  refine l_con (p' := 33) rfl rfl rfl ?_
  refine l_bz (p' := 34) (z := (nI (L - 4))) rfl rfl rfl rfl rfl (mI_sub (by omega)) ?_
  refine l_icmp (p' := 37) false rfl rfl ((ci_gt (by omega) (by omega)).trans (decide_eq_false (by omega))) rfl ?_
  refine l_alds (p' := 38) rfl rfl rfl rfl ?_
  refine l_ild (p' := 40) rfl rfl rfl rfl ?_
  refine l_ialz (p' := 41) (m := i) (z := (xs i)) rfl rfl (inb_nI (by omega) (by omega)) (mI_cl (by omega)) rfl rfl ?_
  refine l_bip (p' := 43) rfl rfl rfl ?_
  refine l_bz (p' := 44) (z := (nI 53)) rfl rfl rfl rfl rfl hk ?_
  refine l_sp (p' := 2541) (ls' := _) rfl rfl rfl rfl rfl ?_
  refine l_incz (p' := 2544) (w := (nI (i + 4))) (ls' := [_, _, _, _, _, _, _, _, _, _]) rfl rfl rfl rfl (mI_add _ _) rfl rfl ?_
  refine l_goto (p' := 28) rfl rfl rfl ?_
  exact hn
theorem lr_54 {L i : Nat} {xs : Nat → Int32} {h : mj_H} {l6 l7 l8 l9 : Option Value} {P : mj_H → Prop} (hL : L ≤ 2048) (hi : i + 4 ≤ L) (hk : xs i &&& nI 63 = nI 54) (hn : mj_lrun L xs (28, [some (.retAddr 1), some (.ref 0), some (.ref 400), some (.ref 412), some (.ref 413), some (.int (nI (i + 4))), l6, l7, l8, l9], [], h) P) : mj_lrun L xs (28, [some (.retAddr 1), some (.ref 0), some (.ref 400), some (.ref 412), some (.ref 413), some (.int (nI i)), l6, l7, l8, l9], [], h) P := by
  refine l_ild (p' := 30) rfl rfl rfl rfl ?_
  refine l_alds (p' := 31) rfl rfl rfl rfl ?_
  refine l_lens (p' := 32) rfl rfl rfl ?_
  refine l_con (p' := 33) rfl rfl rfl ?_
  refine l_bz (p' := 34) (z := (nI (L - 4))) rfl rfl rfl rfl rfl (mI_sub (by omega)) ?_
  refine l_icmp (p' := 37) false rfl rfl ((ci_gt (by omega) (by omega)).trans (decide_eq_false (by omega))) rfl ?_
  refine l_alds (p' := 38) rfl rfl rfl rfl ?_
  refine l_ild (p' := 40) rfl rfl rfl rfl ?_
  refine l_ialz (p' := 41) (m := i) (z := (xs i)) rfl rfl (inb_nI (by omega) (by omega)) (mI_cl (by omega)) rfl rfl ?_
  refine l_bip (p' := 43) rfl rfl rfl ?_
  refine l_bz (p' := 44) (z := (nI 54)) rfl rfl rfl rfl rfl hk ?_
  refine l_sp (p' := 2541) (ls' := _) rfl rfl rfl rfl rfl ?_
  refine l_incz (p' := 2544) (w := (nI (i + 4))) (ls' := [_, _, _, _, _, _, _, _, _, _]) rfl rfl rfl rfl (mI_add _ _) rfl rfl ?_
  refine l_goto (p' := 28) rfl rfl rfl ?_
  exact hn
theorem lr_55 {L i : Nat} {xs : Nat → Int32} {h : mj_H} {l6 l7 l8 l9 : Option Value} {P : mj_H → Prop} (hL : L ≤ 2048) (hi : i + 4 ≤ L) (hk : xs i &&& nI 63 = nI 55) (hn : mj_lrun L xs (28, [some (.retAddr 1), some (.ref 0), some (.ref 400), some (.ref 412), some (.ref 413), some (.int (nI (i + 4))), l6, l7, l8, l9], [], h) P) : mj_lrun L xs (28, [some (.retAddr 1), some (.ref 0), some (.ref 400), some (.ref 412), some (.ref 413), some (.int (nI i)), l6, l7, l8, l9], [], h) P := by
  refine l_ild (p' := 30) rfl rfl rfl rfl ?_
  refine l_alds (p' := 31) rfl rfl rfl rfl ?_
  refine l_lens (p' := 32) rfl rfl rfl ?_
  refine l_con (p' := 33) rfl rfl rfl ?_
  refine l_bz (p' := 34) (z := (nI (L - 4))) rfl rfl rfl rfl rfl (mI_sub (by omega)) ?_
  refine l_icmp (p' := 37) false rfl rfl ((ci_gt (by omega) (by omega)).trans (decide_eq_false (by omega))) rfl ?_
  refine l_alds (p' := 38) rfl rfl rfl rfl ?_
  refine l_ild (p' := 40) rfl rfl rfl rfl ?_
  refine l_ialz (p' := 41) (m := i) (z := (xs i)) rfl rfl (inb_nI (by omega) (by omega)) (mI_cl (by omega)) rfl rfl ?_
  refine l_bip (p' := 43) rfl rfl rfl ?_
  refine l_bz (p' := 44) (z := (nI 55)) rfl rfl rfl rfl rfl hk ?_
  refine l_sp (p' := 2541) (ls' := _) rfl rfl rfl rfl rfl ?_
  refine l_incz (p' := 2544) (w := (nI (i + 4))) (ls' := [_, _, _, _, _, _, _, _, _, _]) rfl rfl rfl rfl (mI_add _ _) rfl rfl ?_
  refine l_goto (p' := 28) rfl rfl rfl ?_
  exact hn
theorem lr_56 {L i : Nat} {xs : Nat → Int32} {h : mj_H} {l6 l7 l8 l9 : Option Value} {P : mj_H → Prop} (hL : L ≤ 2048) (hi : i + 4 ≤ L) (hk : xs i &&& nI 63 = nI 56) (hn : mj_lrun L xs (28, [some (.retAddr 1), some (.ref 0), some (.ref 400), some (.ref 412), some (.ref 413), some (.int (nI (i + 4))), l6, l7, l8, l9], [], h) P) : mj_lrun L xs (28, [some (.retAddr 1), some (.ref 0), some (.ref 400), some (.ref 412), some (.ref 413), some (.int (nI i)), l6, l7, l8, l9], [], h) P := by
  refine l_ild (p' := 30) rfl rfl rfl rfl ?_
  refine l_alds (p' := 31) rfl rfl rfl rfl ?_
  refine l_lens (p' := 32) rfl rfl rfl ?_
  refine l_con (p' := 33) rfl rfl rfl ?_
  refine l_bz (p' := 34) (z := (nI (L - 4))) rfl rfl rfl rfl rfl (mI_sub (by omega)) ?_
  refine l_icmp (p' := 37) false rfl rfl ((ci_gt (by omega) (by omega)).trans (decide_eq_false (by omega))) rfl ?_
  refine l_alds (p' := 38) rfl rfl rfl rfl ?_
  refine l_ild (p' := 40) rfl rfl rfl rfl ?_
  refine l_ialz (p' := 41) (m := i) (z := (xs i)) rfl rfl (inb_nI (by omega) (by omega)) (mI_cl (by omega)) rfl rfl ?_
  refine l_bip (p' := 43) rfl rfl rfl ?_
  refine l_bz (p' := 44) (z := (nI 56)) rfl rfl rfl rfl rfl hk ?_
  refine l_sp (p' := 2541) (ls' := _) rfl rfl rfl rfl rfl ?_
  refine l_incz (p' := 2544) (w := (nI (i + 4))) (ls' := [_, _, _, _, _, _, _, _, _, _]) rfl rfl rfl rfl (mI_add _ _) rfl rfl ?_
  refine l_goto (p' := 28) rfl rfl rfl ?_
  exact hn
theorem lr_57 {L i : Nat} {xs : Nat → Int32} {h : mj_H} {l6 l7 l8 l9 : Option Value} {P : mj_H → Prop} (hL : L ≤ 2048) (hi : i + 4 ≤ L) (hk : xs i &&& nI 63 = nI 57) (hn : mj_lrun L xs (28, [some (.retAddr 1), some (.ref 0), some (.ref 400), some (.ref 412), some (.ref 413), some (.int (nI (i + 4))), l6, l7, l8, l9], [], h) P) : mj_lrun L xs (28, [some (.retAddr 1), some (.ref 0), some (.ref 400), some (.ref 412), some (.ref 413), some (.int (nI i)), l6, l7, l8, l9], [], h) P := by
  refine l_ild (p' := 30) rfl rfl rfl rfl ?_
  refine l_alds (p' := 31) rfl rfl rfl rfl ?_
  refine l_lens (p' := 32) rfl rfl rfl ?_
  refine l_con (p' := 33) rfl rfl rfl ?_
  refine l_bz (p' := 34) (z := (nI (L - 4))) rfl rfl rfl rfl rfl (mI_sub (by omega)) ?_
  refine l_icmp (p' := 37) false rfl rfl ((ci_gt (by omega) (by omega)).trans (decide_eq_false (by omega))) rfl ?_
  refine l_alds (p' := 38) rfl rfl rfl rfl ?_
  refine l_ild (p' := 40) rfl rfl rfl rfl ?_
  refine l_ialz (p' := 41) (m := i) (z := (xs i)) rfl rfl (inb_nI (by omega) (by omega)) (mI_cl (by omega)) rfl rfl ?_
  refine l_bip (p' := 43) rfl rfl rfl ?_
  refine l_bz (p' := 44) (z := (nI 57)) rfl rfl rfl rfl rfl hk ?_
  refine l_sp (p' := 2541) (ls' := _) rfl rfl rfl rfl rfl ?_
  refine l_incz (p' := 2544) (w := (nI (i + 4))) (ls' := [_, _, _, _, _, _, _, _, _, _]) rfl rfl rfl rfl (mI_add _ _) rfl rfl ?_
  refine l_goto (p' := 28) rfl rfl rfl ?_
  exact hn
theorem lr_58 {L i : Nat} {xs : Nat → Int32} {h : mj_H} {l6 l7 l8 l9 : Option Value} {P : mj_H → Prop} (hL : L ≤ 2048) (hi : i + 4 ≤ L) (hk : xs i &&& nI 63 = nI 58) (hn : mj_lrun L xs (28, [some (.retAddr 1), some (.ref 0), some (.ref 400), some (.ref 412), some (.ref 413), some (.int (nI (i + 4))), l6, l7, l8, l9], [], h) P) : mj_lrun L xs (28, [some (.retAddr 1), some (.ref 0), some (.ref 400), some (.ref 412), some (.ref 413), some (.int (nI i)), l6, l7, l8, l9], [], h) P := by
  refine l_ild (p' := 30) rfl rfl rfl rfl ?_
  refine l_alds (p' := 31) rfl rfl rfl rfl ?_
  refine l_lens (p' := 32) rfl rfl rfl ?_
  refine l_con (p' := 33) rfl rfl rfl ?_
  refine l_bz (p' := 34) (z := (nI (L - 4))) rfl rfl rfl rfl rfl (mI_sub (by omega)) ?_
  refine l_icmp (p' := 37) false rfl rfl ((ci_gt (by omega) (by omega)).trans (decide_eq_false (by omega))) rfl ?_
  refine l_alds (p' := 38) rfl rfl rfl rfl ?_
  refine l_ild (p' := 40) rfl rfl rfl rfl ?_
  refine l_ialz (p' := 41) (m := i) (z := (xs i)) rfl rfl (inb_nI (by omega) (by omega)) (mI_cl (by omega)) rfl rfl ?_
  refine l_bip (p' := 43) rfl rfl rfl ?_
  refine l_bz (p' := 44) (z := (nI 58)) rfl rfl rfl rfl rfl hk ?_
  refine l_sp (p' := 2541) (ls' := _) rfl rfl rfl rfl rfl ?_
  refine l_incz (p' := 2544) (w := (nI (i + 4))) (ls' := [_, _, _, _, _, _, _, _, _, _]) rfl rfl rfl rfl (mI_add _ _) rfl rfl ?_
  refine l_goto (p' := 28) rfl rfl rfl ?_
  exact hn
theorem lr_59 {L i : Nat} {xs : Nat → Int32} {h : mj_H} {l6 l7 l8 l9 : Option Value} {P : mj_H → Prop} (hL : L ≤ 2048) (hi : i + 4 ≤ L) (hk : xs i &&& nI 63 = nI 59) (hn : mj_lrun L xs (28, [some (.retAddr 1), some (.ref 0), some (.ref 400), some (.ref 412), some (.ref 413), some (.int (nI (i + 4))), l6, l7, l8, l9], [], h) P) : mj_lrun L xs (28, [some (.retAddr 1), some (.ref 0), some (.ref 400), some (.ref 412), some (.ref 413), some (.int (nI i)), l6, l7, l8, l9], [], h) P := by
  refine l_ild (p' := 30) rfl rfl rfl rfl ?_
  refine l_alds (p' := 31) rfl rfl rfl rfl ?_
  refine l_lens (p' := 32) rfl rfl rfl ?_
  refine l_con (p' := 33) rfl rfl rfl ?_
  refine l_bz (p' := 34) (z := (nI (L - 4))) rfl rfl rfl rfl rfl (mI_sub (by omega)) ?_
  refine l_icmp (p' := 37) false rfl rfl ((ci_gt (by omega) (by omega)).trans (decide_eq_false (by omega))) rfl ?_
  refine l_alds (p' := 38) rfl rfl rfl rfl ?_
  refine l_ild (p' := 40) rfl rfl rfl rfl ?_
  refine l_ialz (p' := 41) (m := i) (z := (xs i)) rfl rfl (inb_nI (by omega) (by omega)) (mI_cl (by omega)) rfl rfl ?_
  refine l_bip (p' := 43) rfl rfl rfl ?_
  refine l_bz (p' := 44) (z := (nI 59)) rfl rfl rfl rfl rfl hk ?_
  refine l_sp (p' := 2541) (ls' := _) rfl rfl rfl rfl rfl ?_
  refine l_incz (p' := 2544) (w := (nI (i + 4))) (ls' := [_, _, _, _, _, _, _, _, _, _]) rfl rfl rfl rfl (mI_add _ _) rfl rfl ?_
  refine l_goto (p' := 28) rfl rfl rfl ?_
  exact hn
theorem lr_60 {L i : Nat} {xs : Nat → Int32} {h : mj_H} {l6 l7 l8 l9 : Option Value} {P : mj_H → Prop} (hL : L ≤ 2048) (hi : i + 4 ≤ L) (hk : xs i &&& nI 63 = nI 60) (hn : mj_lrun L xs (28, [some (.retAddr 1), some (.ref 0), some (.ref 400), some (.ref 412), some (.ref 413), some (.int (nI (i + 4))), l6, l7, l8, l9], [], h) P) : mj_lrun L xs (28, [some (.retAddr 1), some (.ref 0), some (.ref 400), some (.ref 412), some (.ref 413), some (.int (nI i)), l6, l7, l8, l9], [], h) P := by
  refine l_ild (p' := 30) rfl rfl rfl rfl ?_
  refine l_alds (p' := 31) rfl rfl rfl rfl ?_
  refine l_lens (p' := 32) rfl rfl rfl ?_
  refine l_con (p' := 33) rfl rfl rfl ?_
  refine l_bz (p' := 34) (z := (nI (L - 4))) rfl rfl rfl rfl rfl (mI_sub (by omega)) ?_
  refine l_icmp (p' := 37) false rfl rfl ((ci_gt (by omega) (by omega)).trans (decide_eq_false (by omega))) rfl ?_
  refine l_alds (p' := 38) rfl rfl rfl rfl ?_
  refine l_ild (p' := 40) rfl rfl rfl rfl ?_
  refine l_ialz (p' := 41) (m := i) (z := (xs i)) rfl rfl (inb_nI (by omega) (by omega)) (mI_cl (by omega)) rfl rfl ?_
  refine l_bip (p' := 43) rfl rfl rfl ?_
  refine l_bz (p' := 44) (z := (nI 60)) rfl rfl rfl rfl rfl hk ?_
  refine l_sp (p' := 2541) (ls' := _) rfl rfl rfl rfl rfl ?_
  refine l_incz (p' := 2544) (w := (nI (i + 4))) (ls' := [_, _, _, _, _, _, _, _, _, _]) rfl rfl rfl rfl (mI_add _ _) rfl rfl ?_
  refine l_goto (p' := 28) rfl rfl rfl ?_
  exact hn
theorem lr_61 {L i : Nat} {xs : Nat → Int32} {h : mj_H} {l6 l7 l8 l9 : Option Value} {P : mj_H → Prop} (hL : L ≤ 2048) (hi : i + 4 ≤ L) (hk : xs i &&& nI 63 = nI 61) (hn : mj_lrun L xs (28, [some (.retAddr 1), some (.ref 0), some (.ref 400), some (.ref 412), some (.ref 413), some (.int (nI (i + 4))), l6, l7, l8, l9], [], h) P) : mj_lrun L xs (28, [some (.retAddr 1), some (.ref 0), some (.ref 400), some (.ref 412), some (.ref 413), some (.int (nI i)), l6, l7, l8, l9], [], h) P := by
  refine l_ild (p' := 30) rfl rfl rfl rfl ?_
  refine l_alds (p' := 31) rfl rfl rfl rfl ?_
  refine l_lens (p' := 32) rfl rfl rfl ?_
  refine l_con (p' := 33) rfl rfl rfl ?_
  refine l_bz (p' := 34) (z := (nI (L - 4))) rfl rfl rfl rfl rfl (mI_sub (by omega)) ?_
  refine l_icmp (p' := 37) false rfl rfl ((ci_gt (by omega) (by omega)).trans (decide_eq_false (by omega))) rfl ?_
  refine l_alds (p' := 38) rfl rfl rfl rfl ?_
  refine l_ild (p' := 40) rfl rfl rfl rfl ?_
  refine l_ialz (p' := 41) (m := i) (z := (xs i)) rfl rfl (inb_nI (by omega) (by omega)) (mI_cl (by omega)) rfl rfl ?_
  refine l_bip (p' := 43) rfl rfl rfl ?_
  refine l_bz (p' := 44) (z := (nI 61)) rfl rfl rfl rfl rfl hk ?_
  refine l_sp (p' := 2541) (ls' := _) rfl rfl rfl rfl rfl ?_
  refine l_incz (p' := 2544) (w := (nI (i + 4))) (ls' := [_, _, _, _, _, _, _, _, _, _]) rfl rfl rfl rfl (mI_add _ _) rfl rfl ?_
  refine l_goto (p' := 28) rfl rfl rfl ?_
  exact hn
theorem lr_62 {L i : Nat} {xs : Nat → Int32} {h : mj_H} {l6 l7 l8 l9 : Option Value} {P : mj_H → Prop} (hL : L ≤ 2048) (hi : i + 4 ≤ L) (hk : xs i &&& nI 63 = nI 62) (hn : mj_lrun L xs (28, [some (.retAddr 1), some (.ref 0), some (.ref 400), some (.ref 412), some (.ref 413), some (.int (nI (i + 4))), l6, l7, l8, l9], [], h) P) : mj_lrun L xs (28, [some (.retAddr 1), some (.ref 0), some (.ref 400), some (.ref 412), some (.ref 413), some (.int (nI i)), l6, l7, l8, l9], [], h) P := by
  refine l_ild (p' := 30) rfl rfl rfl rfl ?_
  refine l_alds (p' := 31) rfl rfl rfl rfl ?_
  refine l_lens (p' := 32) rfl rfl rfl ?_
  refine l_con (p' := 33) rfl rfl rfl ?_
  refine l_bz (p' := 34) (z := (nI (L - 4))) rfl rfl rfl rfl rfl (mI_sub (by omega)) ?_
  refine l_icmp (p' := 37) false rfl rfl ((ci_gt (by omega) (by omega)).trans (decide_eq_false (by omega))) rfl ?_
  refine l_alds (p' := 38) rfl rfl rfl rfl ?_
  refine l_ild (p' := 40) rfl rfl rfl rfl ?_
  refine l_ialz (p' := 41) (m := i) (z := (xs i)) rfl rfl (inb_nI (by omega) (by omega)) (mI_cl (by omega)) rfl rfl ?_
  refine l_bip (p' := 43) rfl rfl rfl ?_
  refine l_bz (p' := 44) (z := (nI 62)) rfl rfl rfl rfl rfl hk ?_
  refine l_sp (p' := 2541) (ls' := _) rfl rfl rfl rfl rfl ?_
  refine l_incz (p' := 2544) (w := (nI (i + 4))) (ls' := [_, _, _, _, _, _, _, _, _, _]) rfl rfl rfl rfl (mI_add _ _) rfl rfl ?_
  refine l_goto (p' := 28) rfl rfl rfl ?_
  exact hn
theorem lr_63 {L i : Nat} {xs : Nat → Int32} {h : mj_H} {l6 l7 l8 l9 : Option Value} {P : mj_H → Prop} (hL : L ≤ 2048) (hi : i + 4 ≤ L) (hk : xs i &&& nI 63 = nI 63) (hn : mj_lrun L xs (28, [some (.retAddr 1), some (.ref 0), some (.ref 400), some (.ref 412), some (.ref 413), some (.int (nI (i + 4))), l6, l7, l8, l9], [], h) P) : mj_lrun L xs (28, [some (.retAddr 1), some (.ref 0), some (.ref 400), some (.ref 412), some (.ref 413), some (.int (nI i)), l6, l7, l8, l9], [], h) P := by
  refine l_ild (p' := 30) rfl rfl rfl rfl ?_
  refine l_alds (p' := 31) rfl rfl rfl rfl ?_
  refine l_lens (p' := 32) rfl rfl rfl ?_
  refine l_con (p' := 33) rfl rfl rfl ?_
  refine l_bz (p' := 34) (z := (nI (L - 4))) rfl rfl rfl rfl rfl (mI_sub (by omega)) ?_
  refine l_icmp (p' := 37) false rfl rfl ((ci_gt (by omega) (by omega)).trans (decide_eq_false (by omega))) rfl ?_
  refine l_alds (p' := 38) rfl rfl rfl rfl ?_
  refine l_ild (p' := 40) rfl rfl rfl rfl ?_
  refine l_ialz (p' := 41) (m := i) (z := (xs i)) rfl rfl (inb_nI (by omega) (by omega)) (mI_cl (by omega)) rfl rfl ?_
  refine l_bip (p' := 43) rfl rfl rfl ?_
  refine l_bz (p' := 44) (z := (nI 63)) rfl rfl rfl rfl rfl hk ?_
  refine l_sp (p' := 2541) (ls' := _) rfl rfl rfl rfl rfl ?_
  refine l_incz (p' := 2544) (w := (nI (i + 4))) (ls' := [_, _, _, _, _, _, _, _, _, _]) rfl rfl rfl rfl (mI_add _ _) rfl rfl ?_
  refine l_goto (p' := 28) rfl rfl rfl ?_
  exact hn
/-- the law's end -/
theorem l_stop {L i : Nat} {xs : Nat → Int32} {h : mj_H} {l6 l7 l8 l9 : Option Value} {P : mj_H → Prop} (hL : L ≤ 2048) (hi : L < i + 4) (hi2 : i ≤ 2048) (hP : P h) : mj_lrun L xs (28, [some (.retAddr 1), some (.ref 0), some (.ref 400), some (.ref 412), some (.ref 413), some (.int (nI i)), l6, l7, l8, l9], [], h) P := by
  have hc : mj_ci .gt (nI i) (nI L - nI 4) = true := by
    by_cases q : 4 ≤ L
    · rw [mI_sub q]
      exact (ci_gt (by omega) (by omega)).trans (decide_eq_true (by omega))
    · have z : (nI L - nI 4).toInt = (L : Int) - 4 := by
        have : L = 0 ∨ L = 1 ∨ L = 2 ∨ L = 3 := by omega
        rcases this with rfl | rfl | rfl | rfl <;> decide +kernel
      exact (cg_gt z).trans (decide_eq_true (by rw [mI_ti (by omega)]; omega))
  refine l_ild (p' := 30) rfl rfl rfl rfl ?_
  refine l_alds (p' := 31) rfl rfl rfl rfl ?_
  refine l_lens (p' := 32) rfl rfl rfl ?_
  refine l_con (p' := 33) rfl rfl rfl ?_
  refine l_bz (p' := 34) (z := nI L - nI 4) rfl rfl rfl rfl rfl rfl ?_
  refine l_icmp (p' := 2547) true rfl rfl hc rfl ?_
  refine l_con (p' := 2548) rfl rfl rfl ?_
  exact l_end rfl rfl hP
