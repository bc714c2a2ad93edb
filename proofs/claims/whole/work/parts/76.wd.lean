/-! Rounds on any state: fewest pebbles. -/
set_option maxRecDepth 20000 in
theorem y_fpL4 {x : Nat} {p : Nat} (hp1 : 1 ≤ p) (hp : p ≤ 10) {Q : mj_O × mj_H → Prop} : ∀ (k c : Nat) (h : mj_H), k + c = p → 1 ≤ c → h.length + 2 * k + 20 < mj_CB → (∀ h', mz_ext h h' → h'.length ≤ h.length + 2 * (pbC p k c - c + 1) → mj_sz h' ≤ mj_sz h + 2048 * (pbC p k c - c + 1) → mj_Wp 5 460 (41, [some (.ref x), some (.int (nI p)), some (.int (nI (pbC p k c)))], [], h') Q) → mj_Wp 5 460 (26, [some (.ref x), some (.int (nI p)), some (.int (nI c))], [], h) Q
  | 0, c, h, hk, hc, hl, hn => by
    obtain rfl : c = p := by omega
    rw [show pbC c 0 c = c from rfl] at hn
    refine s_ildn (p' := 27) rfl rfl rfl ?_
    refine s_ildn (p' := 28) rfl rfl rfl ?_
    refine s_callEV (p' := 31) (ls0 := [_, _, _, _, _, _, _, _, _, _]) rfl rfl rfl rfl rfl rfl rfl (y_mov rfl (by omega) hp1 hp) rfl rfl ?_
    rintro v h1 ⟨rfl, e1, e2, e3⟩
    have h2p := pb_2 hp
    refine s_con (p' := 32) rfl rfl ?_
    refine s_icmp (p' := 41) true rfl ((pbE_ne hp).trans (decide_eq_true (pbR_pp hp1 hp))) rfl ?_
    exact hn h1 e3 (by omega) (by omega)
  | k + 1, c, h, hk, hc, hl, hn => by
    have ih := y_fpL4 (x := x) hp1 hp (Q := Q) k
    refine s_ildn (p' := 27) rfl rfl rfl ?_
    refine s_ildn (p' := 28) rfl rfl rfl ?_
    refine s_callEV (p' := 31) (ls0 := [_, _, _, _, _, _, _, _, _, _]) rfl rfl rfl rfl rfl rfl rfl (y_mov rfl (by omega) hp1 hp) rfl rfl ?_
    rintro v h1 ⟨rfl, e1, e2, e3⟩
    have h2p := pb_2 hp
    refine s_con (p' := 32) rfl rfl ?_
    by_cases q : pbR p c = none
    · refine s_icmp (p' := 35) false rfl ((pbE_ne hp).trans (decide_eq_false (fun z => z q))) rfl ?_
      refine s_inc (p' := 38) (ls' := [_, _, _]) rfl rfl rfl rfl rfl ?_
      rw [mI_add]
      refine s_goto (p' := 26) rfl rfl ?_
      rw [pbC_k, if_pos q] at hn
      have hge := pbC_ge p k (c + 1)
      exact ih (c + 1) h1 (by omega) (by omega) (by omega) (fun h2 y1 y2 y3 => hn h2 (e3.tr y1) (by omega) (by omega))
    · refine s_icmp (p' := 41) true rfl ((pbE_ne hp).trans (decide_eq_true q)) rfl ?_
      rw [pbC_k, if_neg q] at hn
      exact hn h1 e3 (by omega) (by omega)
theorem w_45_1 {L i N : Nat} {xs : Nat → Int32} {h : mj_H} {l6 l7 l8 l9 : Option Value} {P : mj_H → Prop} (hL : L ≤ 2048) (hi : i + 4 ≤ L) (hN : N + 2000 < mj_CB) (hN0 : 414 ≤ N) (HL : h.length = N) (hk : xs i &&& nI 63 = nI 45) {gs pl ty wa nw nx dp ca mf : Value} {th : Int32} {sd be : Int64} {ou : Nat → Int64} {vf wf sf uf im jm : Nat → Int32} {k g : Nat} (hk20 : k ≤ 20) (hvw : ∀ j, j < 8 → wf j = vf j) (hsu : ∀ j, j < k → uf j = sf j) (him : ∀ j, j < 8 → jm j = im j) {pe pm ge gm : Value} {q : Nat} (hq6 : q ≤ 6) (hg24 : g ≤ 24) {d : Nat} (hd : d < 1024) (hR : pbR 1 1 = some d) (hx1 : xs (i + 1) = nI 1) (H0 : mj_rd h 0 = some (.inr (0, [.ref 1, .ref 38, .ref 299, .ref 336, .ref 373, .ref 375, .ref 378, .ref 381, .ref 387, .ref 393, gs, pl, .ref 397, .ref 398, .ref 399, .long sd, .long be]))) (H400 : mj_rd h 400 = some (.inr (17, [.int th, .ref 401, .ref 402, ty, .long sd, .long be, .ref 410, wa, nw, nx, .ref 411]))) (H412 : mj_rd h 412 = some (.inl (4, (1, .inr (.inl (ou)))))) (hn : ∀ (l6 l7 l8 l9 : Option Value) (h' : mj_H), mj_rd h' 400 = some (.inr (17, [.int (nI 0), .ref 401, .ref 402, ty, .long sd, .long be, .ref 410, wa, nw, nx, .ref 411])) ∧ mj_rd h' 412 = some (.inl (4, (1, .inr (.inl ((vp_updL ou 0 (lN 1))))))) ∧ mz_fr [400, 412] h h' ∧ h'.length ≤ N + 2 ∧ mj_sz h' ≤ mj_sz h + 2048 → mj_lrun L xs (28, [some (.retAddr 1), some (.ref 0), some (.ref 400), some (.ref 412), some (.ref 413), some (.int (nI (i + 4))), l6, l7, l8, l9], [], h') P) : mj_lrun L xs (28, [some (.retAddr 1), some (.ref 0), some (.ref 400), some (.ref 412), some (.ref 413), some (.int (nI i)), l6, l7, l8, l9], [], h) P := by
  refine l_ild (p' := 30) rfl rfl rfl rfl ?_
  refine l_alds (p' := 31) rfl rfl rfl rfl ?_
  refine l_lens (p' := 32) rfl rfl rfl ?_
  refine l_con (p' := 33) rfl rfl rfl ?_
  refine l_bz (p' := 34) (z := (nI (L - 4))) rfl rfl rfl rfl rfl (mI_sub (by omega)) ?_
  refine l_icmp (p' := 37) false rfl rfl ((ci_gt (by omega) (by omega)).trans (decide_eq_false (by omega))) rfl ?_
  refine l_alds (p' := 38) rfl rfl rfl rfl ?_
  refine l_ild (p' := 40) rfl rfl rfl rfl ?_
  refine l_ialz (p' := 41) (m := i) (z := (xs i)) rfl rfl (inb_nI (by omega) (by omega)) (mI_cl (by omega)) rfl rfl ?_
  refine l_bip (p' := 43) rfl rfl rfl ?_
  refine l_bz (p' := 44) (z := (nI 45)) rfl rfl rfl rfl rfl hk ?_
  refine l_sp (p' := 2380) (ls' := _) rfl rfl rfl rfl rfl ?_
  refine l_aldn (p' := 2381) rfl rfl rfl rfl ?_
  refine l_alds (p' := 2382) rfl rfl rfl rfl ?_
  refine l_ild (p' := 2384) rfl rfl rfl rfl ?_
  refine l_con (p' := 2385) rfl rfl rfl ?_
  refine l_bz (p' := 2386) (z := (nI (i + 1))) rfl rfl rfl rfl rfl (mI_add _ _) ?_
  refine l_ialz (p' := 2387) (m := (i + 1)) (z := (nI 1)) rfl rfl (inb_nI (by omega) (by omega)) (mI_cl (by omega)) hx1 rfl ?_
  refine l_aldn (p' := 2388) rfl rfl rfl rfl ?_
  refine l_call (p' := 2391) (kc := 99) (ls0 := [_, _, _, _]) rfl rfl rfl rfl rfl rfl rfl rfl rfl rfl ?_
  refine s_aldn (p' := 1) rfl rfl rfl ?_
  refine s_con (p' := 2) rfl rfl ?_
  refine s_aldn (p' := 3) rfl rfl rfl ?_
  refine s_ildn (p' := 4) rfl rfl rfl ?_
  refine c_call (p' := 7) (kc := 98) (ls0 := [_, _, _]) rfl rfl rfl rfl rfl (mj_rcv_is H0) rfl rfl rfl ?_
  refine s_ildn (p' := 1) rfl rfl rfl ?_
  refine s_con (p' := 2) rfl rfl ?_
  refine s_icmp (p' := 5) false rfl (by decide +kernel) rfl ?_
  refine s_ildn (p' := 6) rfl rfl rfl ?_
  refine s_bip (p' := 8) rfl rfl ?_
  refine s_icmp (p' := 22) true rfl (by decide +kernel) rfl ?_
  refine s_con (p' := 23) rfl rfl ?_
  refine s_istn (p' := 24) (ls' := [_, _, _]) rfl rfl rfl rfl ?_
  refine s_ildn (p' := 25) rfl rfl rfl ?_
  refine s_ildn (p' := 26) rfl rfl rfl ?_
  refine s_icmp (p' := 44) true rfl (by decide +kernel) rfl ?_
  refine s_ildn (p' := 45) rfl rfl rfl ?_
  refine c_iret rfl rfl ?_
  refine s_bzL (p' := 8) (z := (lN 1)) rfl rfl rfl (by decide +kernel) ?_
  refine s_lasz (p' := 9) (m := 0) rfl rfl H412 (by decide +kernel) rfl rfl rfl ?_
  refine s_goto (p' := 15) rfl rfl ?_
  refine s_con (p' := 16) rfl rfl ?_
  refine k_iret rfl rfl ?_
  refine l_ist (p' := 2393) (ls' := [_, _, _, _, _, _, _, _, _, _]) rfl rfl rfl rfl rfl ?_
  refine l_aldn (p' := 2394) rfl rfl rfl rfl ?_
  refine l_alds (p' := 2395) rfl rfl rfl rfl ?_
  refine l_ild (p' := 2397) rfl rfl rfl rfl ?_
  refine l_con (p' := 2398) rfl rfl rfl ?_
  refine l_bz (p' := 2399) (z := (nI (i + 1))) rfl rfl rfl rfl rfl (mI_add _ _) ?_
  refine l_ialz (p' := 2400) (m := (i + 1)) (z := (nI 1)) rfl rfl (inb_nI (by omega) (by omega)) (mI_cl (by omega)) hx1 rfl ?_
  refine l_call (p' := 2403) (kc := 99) (ls0 := [_, _, _]) rfl rfl rfl rfl rfl rfl (mj_rcv_is (rd_sn rfl H400)) rfl rfl rfl ?_
  refine s_aldn (p' := 1) rfl rfl rfl ?_
  refine s_ildn (p' := 2) rfl rfl rfl ?_
  refine s_con (p' := 3) rfl rfl ?_
  refine s_bip (p' := 5) rfl rfl ?_
  refine c_call (p' := 8) (kc := 98) (ls0 := [_, _, _]) rfl rfl rfl rfl rfl rfl rfl rfl rfl ?_
  refine s_ildn (p' := 1) rfl rfl rfl ?_
  refine s_ildn (p' := 2) rfl rfl rfl ?_
  refine s_icmp (p' := 5) false rfl (by decide +kernel) rfl ?_
  refine s_ildn (p' := 6) rfl rfl rfl ?_
  refine s_ildn (p' := 7) rfl rfl rfl ?_
  refine s_icmp (p' := 10) false rfl (by decide +kernel) rfl ?_
  refine s_con (p' := 11) rfl rfl ?_
  refine s_goto (p' := 15) rfl rfl ?_
  refine c_iret rfl (by decide +kernel) ?_
  refine s_if (p' := 11) false rfl (by decide +kernel) rfl ?_
  refine s_con (p' := 12) rfl rfl ?_
  refine s_goto (p' := 16) rfl rfl ?_
  refine c_call (p' := 19) (kc := 98) (ls0 := [_, _]) rfl rfl rfl rfl rfl (mj_rcv_is (rd_sn rfl H400)) rfl rfl rfl ?_
  refine s_aldn (p' := 1) rfl rfl rfl ?_
  refine s_ildn (p' := 2) rfl rfl rfl ?_
  refine s_pfz (p' := 5) (fs' := [_, _, _, _, _, _, _, _, _, _, _]) rfl rfl (rd_sn rfl H400) rfl rfl rfl rfl ?_
  refine s_ildn (p' := 6) rfl rfl rfl ?_
  refine s_if (p' := 13) true rfl (by decide +kernel) rfl ?_
  refine s_con (p' := 14) rfl rfl ?_
  refine c_iret rfl (by decide +kernel) ?_
  refine s_if (p' := 24) true rfl (by decide +kernel) rfl ?_
  refine s_con (p' := 25) rfl rfl ?_
  refine s_istn (p' := 26) (ls' := [_, _, _]) rfl rfl rfl rfl ?_
  refine s_ildn (p' := 27) rfl rfl rfl ?_
  refine s_ildn (p' := 28) rfl rfl rfl ?_
  refine s_callEV (p' := 31) (ls0 := [_, _, _, _, _, _, _, _, _, _]) rfl rfl rfl rfl rfl rfl rfl (y_mov (n := N) (len_s (len_s HL)) (by omega) (show 1 ≤ 1 by decide) (show 1 ≤ 10 by decide)) rfl rfl ?_
  rintro v9 g9 ⟨rfl, hl9, hz9, he9⟩
  rw [show pbE (pbR 1 1) = nI d from by rw [hR]; rfl]
  refine s_con (p' := 32) rfl rfl ?_
  refine s_icmp (p' := 41) true rfl ((cg_ne (w := -1) (by decide +kernel)).trans (decide_eq_true (by rw [mI_ti (by omega)]; omega))) rfl ?_
  refine s_ildn (p' := 42) rfl rfl rfl ?_
  refine k_iret rfl rfl ?_
  refine l_ist (p' := 2405) (ls' := [_, _, _, _, _, _, _, _, _, _]) rfl rfl rfl rfl rfl ?_
  refine l_aldn (p' := 2406) rfl rfl rfl rfl ?_
  refine l_call (p' := 2409) (kc := 99) (ls0 := [_]) rfl rfl rfl rfl rfl rfl (mj_rcv_is (he9 _ _ (rd_ss rfl (rd_sn rfl H400)))) rfl rfl rfl ?_
  refine s_aldn (p' := 1) rfl rfl rfl ?_
  refine s_gf (p' := 4) rfl (he9 _ _ (rd_ss rfl (rd_sn rfl H400))) rfl rfl ?_
  refine k_iret rfl rfl ?_
  refine l_ild (p' := 2411) rfl rfl rfl rfl ?_
  refine l_icmp (p' := 2416) true rfl rfl (by decide +kernel) rfl ?_
  refine l_ild (p' := 2418) rfl rfl rfl rfl ?_
  refine l_if (p' := 2421) false rfl rfl (by decide +kernel) rfl ?_
  refine l_aldn (p' := 2422) rfl rfl rfl rfl ?_
  refine l_con (p' := 2423) rfl rfl rfl ?_
  refine l_lalz (p' := 2424) (m := 0) (v := (lN 1)) rfl rfl (he9 _ _ (rd_sn rfl (rd_ss rfl H412))) (by decide +kernel) rfl rfl rfl ?_
  refine l_ild (p' := 2426) rfl rfl rfl rfl ?_
  refine l_bzL (p' := 2427) (z := (lN 1)) rfl rfl rfl rfl rfl (by decide +kernel) ?_
  refine l_bz (p' := 2428) (z := (nI 0)) rfl rfl rfl rfl rfl (by decide +kernel) ?_
  refine l_if (p' := 2433) true rfl rfl (by decide +kernel) rfl ?_
  refine l_goto (p' := 2541) rfl rfl rfl ?_
  refine l_incz (p' := 2544) (w := (nI (i + 4))) (ls' := [_, _, _, _, _, _, _, _, _, _]) rfl rfl rfl rfl (mI_add _ _) rfl rfl ?_
  refine l_goto (p' := 28) rfl rfl rfl ?_
  exact hn _ _ _ _ _ ⟨(he9 _ _ (rd_ss rfl (rd_sn rfl H400))), (he9 _ _ (rd_sn rfl (rd_ss rfl H412))), (mz_fr.e he9 (mz_fr.s (by decide) (mz_fr.s (by decide) (mz_fr.rf _ h)))), (Nat.le_trans (Nat.le_of_eq (len_b hl9 (len_s (len_s HL)) rfl)) (by omega)), (Nat.le_trans (sz_b (K := 2048) (Nat.le_of_eq hz9) (by have := pb_2 (show 1 ≤ 10 by decide); omega) (sz_s rfl (rd_sn rfl H400) rfl (sz_sA rfl H412 (Nat.le_refl (mj_sz h)))) rfl) (by omega))⟩
theorem w_45_s0 {L i N : Nat} {xs : Nat → Int32} {h : mj_H} {l6 l7 l8 l9 : Option Value} {P : mj_H → Prop} (hL : L ≤ 2048) (hi : i + 4 ≤ L) (hN : N + 2000 < mj_CB) (hN0 : 414 ≤ N) (HL : h.length = N) (hk : xs i &&& nI 63 = nI 45) {gs pl ty wa nw nx dp ca mf : Value} {th : Int32} {sd be : Int64} {ou : Nat → Int64} {vf wf sf uf im jm : Nat → Int32} {k g : Nat} (hk20 : k ≤ 20) (hvw : ∀ j, j < 8 → wf j = vf j) (hsu : ∀ j, j < k → uf j = sf j) (him : ∀ j, j < 8 → jm j = im j) {pe pm ge gm : Value} {q : Nat} (hq6 : q ≤ 6) (hg24 : g ≤ 24) {p : Nat} (hp1 : 1 ≤ p) (hp : p ≤ 10) (hp2 : 2 ≤ p) {d : Nat} (hd : d < 1024) (hR : pbR p 1 = some d) (hx1 : xs (i + 1) = nI p) (H0 : mj_rd h 0 = some (.inr (0, [.ref 1, .ref 38, .ref 299, .ref 336, .ref 373, .ref 375, .ref 378, .ref 381, .ref 387, .ref 393, gs, .null, .ref 397, .ref 398, .ref 399, .long sd, .long be]))) (H400 : mj_rd h 400 = some (.inr (17, [.int th, .ref 401, .ref 402, ty, .long sd, .long be, .ref 410, wa, nw, nx, .ref 411]))) (H412 : mj_rd h 412 = some (.inl (4, (1, .inr (.inl (ou)))))) (hn : ∀ (l6 l7 l8 l9 : Option Value) (h' : mj_H), mj_rd h' 0 = some (.inr (0, [.ref 1, .ref 38, .ref 299, .ref 336, .ref 373, .ref 375, .ref 378, .ref 381, .ref 387, .ref 393, gs, .ref N, .ref 397, .ref 398, .ref 399, .long sd, .long be])) ∧ mj_rd h' 400 = some (.inr (17, [.int (nI 0), .ref 401, .ref 402, ty, .long sd, .long be, .ref 410, wa, nw, nx, .ref 411])) ∧ mj_rd h' 412 = some (.inl (4, (1, .inr (.inl ((vp_updL ou 0 (lN 1))))))) ∧ pbX h' N (N + 1) (N + 2) ∧ mz_fr [0, 400, 412] h h' ∧ h'.length ≤ N + 5 ∧ mj_sz h' ≤ mj_sz h + 4099 → mj_lrun L xs (28, [some (.retAddr 1), some (.ref 0), some (.ref 400), some (.ref 412), some (.ref 413), some (.int (nI (i + 4))), l6, l7, l8, l9], [], h') P) : mj_lrun L xs (28, [some (.retAddr 1), some (.ref 0), some (.ref 400), some (.ref 412), some (.ref 413), some (.int (nI i)), l6, l7, l8, l9], [], h) P := by
  refine l_ild (p' := 30) rfl rfl rfl rfl ?_
  refine l_alds (p' := 31) rfl rfl rfl rfl ?_
  refine l_lens (p' := 32) rfl rfl rfl ?_
  refine l_con (p' := 33) rfl rfl rfl ?_
  refine l_bz (p' := 34) (z := (nI (L - 4))) rfl rfl rfl rfl rfl (mI_sub (by omega)) ?_
  refine l_icmp (p' := 37) false rfl rfl ((ci_gt (by omega) (by omega)).trans (decide_eq_false (by omega))) rfl ?_
  refine l_alds (p' := 38) rfl rfl rfl rfl ?_
  refine l_ild (p' := 40) rfl rfl rfl rfl ?_
  refine l_ialz (p' := 41) (m := i) (z := (xs i)) rfl rfl (inb_nI (by omega) (by omega)) (mI_cl (by omega)) rfl rfl ?_
  refine l_bip (p' := 43) rfl rfl rfl ?_
  refine l_bz (p' := 44) (z := (nI 45)) rfl rfl rfl rfl rfl hk ?_
  refine l_sp (p' := 2380) (ls' := _) rfl rfl rfl rfl rfl ?_
  refine l_aldn (p' := 2381) rfl rfl rfl rfl ?_
  refine l_alds (p' := 2382) rfl rfl rfl rfl ?_
  refine l_ild (p' := 2384) rfl rfl rfl rfl ?_
  refine l_con (p' := 2385) rfl rfl rfl ?_
  refine l_bz (p' := 2386) (z := (nI (i + 1))) rfl rfl rfl rfl rfl (mI_add _ _) ?_
  refine l_ialz (p' := 2387) (m := (i + 1)) (z := (nI p)) rfl rfl (inb_nI (by omega) (by omega)) (mI_cl (by omega)) hx1 rfl ?_
  refine l_aldn (p' := 2388) rfl rfl rfl rfl ?_
  refine l_call (p' := 2391) (kc := 99) (ls0 := [_, _, _, _]) rfl rfl rfl rfl rfl rfl rfl rfl rfl rfl ?_
  refine s_aldn (p' := 1) rfl rfl rfl ?_
  refine s_con (p' := 2) rfl rfl ?_
  refine s_aldn (p' := 3) rfl rfl rfl ?_
  refine s_ildn (p' := 4) rfl rfl rfl ?_
  refine c_call (p' := 7) (kc := 98) (ls0 := [_, _, _]) rfl rfl rfl rfl rfl (mj_rcv_is H0) rfl rfl rfl ?_
  refine s_ildn (p' := 1) rfl rfl rfl ?_
  refine s_con (p' := 2) rfl rfl ?_
  refine s_icmp (p' := 5) false rfl ((cg_lt (w := 1) (by decide +kernel)).trans (decide_eq_false (by rw [mI_ti (by omega)]; omega))) rfl ?_
  refine s_ildn (p' := 6) rfl rfl rfl ?_
  refine s_bip (p' := 8) rfl rfl ?_
  refine s_icmp (p' := 22) true rfl ((cg_le (w := 10) (by decide +kernel)).trans (decide_eq_true (by rw [mI_ti (by omega)]; omega))) rfl ?_
  refine s_con (p' := 23) rfl rfl ?_
  refine s_istn (p' := 24) (ls' := [_, _, _]) rfl rfl rfl rfl ?_
  refine s_ildn (p' := 25) rfl rfl rfl ?_
  refine s_ildn (p' := 26) rfl rfl rfl ?_
  refine s_icmp (p' := 29) false rfl ((ch_ge (w := 1) (by decide +kernel)).trans (decide_eq_false (by rw [mI_ti (by omega)]; omega))) rfl ?_
  refine s_aldn (p' := 30) rfl rfl rfl ?_
  refine s_ildn (p' := 31) rfl rfl rfl ?_
  refine s_ildn (p' := 32) rfl rfl rfl ?_
  refine c_call (p' := 35) (kc := 97) (ls0 := [_, _, _]) rfl rfl rfl rfl rfl (mj_rcv_is H0) rfl rfl rfl ?_
  refine s_aldn (p' := 1) rfl rfl rfl ?_
  refine s_gf (p' := 4) rfl H0 rfl rfl ?_
  refine s_nonnull (p' := 7) (x := none) false rfl rfl rfl ?_
  refine s_aldn (p' := 8) rfl rfl rfl ?_
  refine s_newz (p' := 11) (a := N) rfl HL rfl rfl ?_
  refine s_dupr (p' := 12) rfl rfl ?_
  refine c_call (p' := 15) (kc := 96) (ls0 := [_]) rfl rfl rfl rfl rfl (mj_rcv_is (rd_nw (Nat.blt_eq.mpr (by omega)) HL)) rfl rfl rfl ?_
  refine s_aldn (p' := 1) rfl rfl rfl ?_
  refine s_primN (p' := 4) (q := 3) rfl rfl rfl rfl rfl rfl rfl rfl ?_
  refine s_aldn (p' := 5) rfl rfl rfl ?_
  refine s_sip (p' := 8) rfl rfl ?_
  refine s_naz (p' := 10) (a := (N + 1)) (n := 1024) rfl (len_a HL rfl) rfl rfl ?_
  refine s_pfz (p' := 13) (fs' := [_, _, _]) rfl (Nat.blt_eq.mpr (by omega)) (rd_app (rd_nw (Nat.blt_eq.mpr (by omega)) HL)) rfl rfl rfl rfl ?_
  refine s_aldn (p' := 14) rfl rfl rfl ?_
  refine s_sip (p' := 17) rfl rfl ?_
  refine s_naz (p' := 19) (a := (N + 2)) (n := 1024) rfl (len_s (len_a (len_a HL rfl) rfl)) rfl rfl ?_
  refine s_pfz (p' := 22) (fs' := [_, _, _]) rfl (Nat.blt_eq.mpr (by omega)) (rd_app (rd_ss (Nat.blt_eq.mpr (by omega)) (rd_app (rd_nw (Nat.blt_eq.mpr (by omega)) HL)))) rfl rfl rfl rfl ?_
  refine c_ret rfl ?_
  refine s_pfz (p' := 18) (fs' := [_, _, _, _, _, _, _, _, _, _, _, _, _, _, _, _, _]) rfl rfl (rd_sn (beq_eq_false_iff_ne.mpr (by omega)) (rd_app (rd_sn (beq_eq_false_iff_ne.mpr (by omega)) (rd_app (rd_app H0))))) rfl rfl rfl rfl ?_
  refine s_aldn (p' := 19) rfl rfl rfl ?_
  refine s_gf (p' := 22) rfl (rd_ss rfl (rd_sn (beq_eq_false_iff_ne.mpr (by omega)) (rd_app (rd_sn (beq_eq_false_iff_ne.mpr (by omega)) (rd_app (rd_app H0)))))) rfl rfl ?_
  refine s_ildn (p' := 23) rfl rfl rfl ?_
  refine s_ildn (p' := 24) rfl rfl rfl ?_
  refine s_callEV (p' := 27) (ls0 := [_, _, _, _, _, _, _]) rfl rfl rfl rfl rfl (mj_rcv_is (rd_sn (beq_eq_false_iff_ne.mpr (by omega)) (rd_ss (Nat.blt_eq.mpr (by omega)) (rd_app (rd_ss (Nat.blt_eq.mpr (by omega)) (rd_app (rd_nw (Nat.blt_eq.mpr (by omega)) HL))))))) rfl (x_few (P := N) (M := (N + 1)) (W := (N + 2)) (by omega) (by omega) (by omega) (rd_sn (beq_eq_false_iff_ne.mpr (by omega)) (rd_ss (Nat.blt_eq.mpr (by omega)) (rd_app (rd_ss (Nat.blt_eq.mpr (by omega)) (rd_app (rd_nw (Nat.blt_eq.mpr (by omega)) HL)))))) (rd_sn (beq_eq_false_iff_ne.mpr (by omega)) (rd_sn (beq_eq_false_iff_ne.mpr (by omega)) (rd_app (rd_sn (beq_eq_false_iff_ne.mpr (by omega)) (rd_nw (Nat.blt_eq.mpr (by omega)) (len_a HL rfl)))))) (rd_sn (beq_eq_false_iff_ne.mpr (by omega)) (rd_sn (beq_eq_false_iff_ne.mpr (by omega)) (rd_nw (Nat.blt_eq.mpr (by omega)) (len_s (len_a (len_a HL rfl) rfl))))) (by omega) (by omega) (by omega) hp1 hp) rfl rfl ?_
  rintro v10 g10 ⟨rfl, hb10, s10, hP10, m10, w10, hM10, hW10, _, _⟩
  rw [show pbE (pbR p 1) = nI d from by rw [hR]; rfl]
  refine c_iret rfl rfl ?_
  refine s_if (p' := 44) true rfl ((cg_ge (w := 0) (by decide +kernel)).trans (decide_eq_true (by rw [mI_ti (by omega)]; omega))) rfl ?_
  refine s_ildn (p' := 45) rfl rfl rfl ?_
  refine c_iret rfl rfl ?_
  refine s_bzL (p' := 8) (z := (lN 1)) rfl rfl rfl (by decide +kernel) ?_
  refine s_lasz (p' := 9) (m := 0) rfl rfl ((hb10.2.2 412 (by omega) (by omega) (by omega)).trans (rd_sn rfl (rd_sn (beq_eq_false_iff_ne.mpr (by omega)) (rd_app (rd_sn (beq_eq_false_iff_ne.mpr (by omega)) (rd_app (rd_app H412))))))) (by decide +kernel) rfl rfl rfl ?_
  refine s_goto (p' := 15) rfl rfl ?_
  refine s_con (p' := 16) rfl rfl ?_
  refine k_iret rfl rfl ?_
  refine l_ist (p' := 2393) (ls' := [_, _, _, _, _, _, _, _, _, _]) rfl rfl rfl rfl rfl ?_
  refine l_aldn (p' := 2394) rfl rfl rfl rfl ?_
  refine l_alds (p' := 2395) rfl rfl rfl rfl ?_
  refine l_ild (p' := 2397) rfl rfl rfl rfl ?_
  refine l_con (p' := 2398) rfl rfl rfl ?_
  refine l_bz (p' := 2399) (z := (nI (i + 1))) rfl rfl rfl rfl rfl (mI_add _ _) ?_
  refine l_ialz (p' := 2400) (m := (i + 1)) (z := (nI p)) rfl rfl (inb_nI (by omega) (by omega)) (mI_cl (by omega)) hx1 rfl ?_
  refine l_call (p' := 2403) (kc := 99) (ls0 := [_, _, _]) rfl rfl rfl rfl rfl rfl (mj_rcv_is (rd_sn rfl ((hb10.2.2 400 (by omega) (by omega) (by omega)).trans (rd_sn rfl (rd_sn (beq_eq_false_iff_ne.mpr (by omega)) (rd_app (rd_sn (beq_eq_false_iff_ne.mpr (by omega)) (rd_app (rd_app H400))))))))) rfl rfl rfl ?_
  refine s_aldn (p' := 1) rfl rfl rfl ?_
  refine s_ildn (p' := 2) rfl rfl rfl ?_
  refine s_con (p' := 3) rfl rfl ?_
  refine s_bip (p' := 5) rfl rfl ?_
  refine c_call (p' := 8) (kc := 98) (ls0 := [_, _, _]) rfl rfl rfl rfl rfl rfl rfl rfl rfl ?_
  refine s_ildn (p' := 1) rfl rfl rfl ?_
  refine s_ildn (p' := 2) rfl rfl rfl ?_
  refine s_icmp (p' := 5) false rfl ((ch_gt (w := 1) (by decide +kernel)).trans (decide_eq_false (by rw [mI_ti (by omega)]; omega))) rfl ?_
  refine s_ildn (p' := 6) rfl rfl rfl ?_
  refine s_ildn (p' := 7) rfl rfl rfl ?_
  refine s_icmp (p' := 10) false rfl ((cg_gt (w := 10) (by decide +kernel)).trans (decide_eq_false (by rw [mI_ti (by omega)]; omega))) rfl ?_
  refine s_con (p' := 11) rfl rfl ?_
  refine s_goto (p' := 15) rfl rfl ?_
  refine c_iret rfl (by decide +kernel) ?_
  refine s_if (p' := 11) false rfl (by decide +kernel) rfl ?_
  refine s_con (p' := 12) rfl rfl ?_
  refine s_goto (p' := 16) rfl rfl ?_
  refine c_call (p' := 19) (kc := 98) (ls0 := [_, _]) rfl rfl rfl rfl rfl (mj_rcv_is (rd_sn rfl ((hb10.2.2 400 (by omega) (by omega) (by omega)).trans (rd_sn rfl (rd_sn (beq_eq_false_iff_ne.mpr (by omega)) (rd_app (rd_sn (beq_eq_false_iff_ne.mpr (by omega)) (rd_app (rd_app H400))))))))) rfl rfl rfl ?_
  refine s_aldn (p' := 1) rfl rfl rfl ?_
  refine s_ildn (p' := 2) rfl rfl rfl ?_
  refine s_pfz (p' := 5) (fs' := [_, _, _, _, _, _, _, _, _, _, _]) rfl rfl (rd_sn rfl ((hb10.2.2 400 (by omega) (by omega) (by omega)).trans (rd_sn rfl (rd_sn (beq_eq_false_iff_ne.mpr (by omega)) (rd_app (rd_sn (beq_eq_false_iff_ne.mpr (by omega)) (rd_app (rd_app H400)))))))) rfl rfl rfl rfl ?_
  refine s_ildn (p' := 6) rfl rfl rfl ?_
  refine s_if (p' := 13) true rfl (by decide +kernel) rfl ?_
  refine s_con (p' := 14) rfl rfl ?_
  refine c_iret rfl (by decide +kernel) ?_
  refine s_if (p' := 24) true rfl (by decide +kernel) rfl ?_
  refine s_con (p' := 25) rfl rfl ?_
  refine s_istn (p' := 26) (ls' := [_, _, _]) rfl rfl rfl rfl ?_
  refine s_ildn (p' := 27) rfl rfl rfl ?_
  refine s_ildn (p' := 28) rfl rfl rfl ?_
  refine s_callEV (p' := 31) (ls0 := [_, _, _, _, _, _, _, _, _, _]) rfl rfl rfl rfl rfl rfl rfl (y_mov (n := (N + 3)) (len_s (len_s (hb10.1.trans (len_s (len_s (len_a (len_s (len_a (len_a HL rfl) rfl)) rfl)))))) (by omega) hp1 hp) rfl rfl ?_
  rintro v11 g11 ⟨rfl, hl11, hz11, he11⟩
  rw [show pbE (pbR p 1) = nI d from by rw [hR]; rfl]
  refine s_con (p' := 32) rfl rfl ?_
  refine s_icmp (p' := 41) true rfl ((cg_ne (w := -1) (by decide +kernel)).trans (decide_eq_true (by rw [mI_ti (by omega)]; omega))) rfl ?_
  refine s_ildn (p' := 42) rfl rfl rfl ?_
  refine k_iret rfl rfl ?_
  refine l_ist (p' := 2405) (ls' := [_, _, _, _, _, _, _, _, _, _]) rfl rfl rfl rfl rfl ?_
  refine l_aldn (p' := 2406) rfl rfl rfl rfl ?_
  refine l_call (p' := 2409) (kc := 99) (ls0 := [_]) rfl rfl rfl rfl rfl rfl (mj_rcv_is (he11 _ _ (rd_ss rfl (rd_sn rfl ((hb10.2.2 400 (by omega) (by omega) (by omega)).trans (rd_sn rfl (rd_sn (beq_eq_false_iff_ne.mpr (by omega)) (rd_app (rd_sn (beq_eq_false_iff_ne.mpr (by omega)) (rd_app (rd_app H400))))))))))) rfl rfl rfl ?_
  refine s_aldn (p' := 1) rfl rfl rfl ?_
  refine s_gf (p' := 4) rfl (he11 _ _ (rd_ss rfl (rd_sn rfl ((hb10.2.2 400 (by omega) (by omega) (by omega)).trans (rd_sn rfl (rd_sn (beq_eq_false_iff_ne.mpr (by omega)) (rd_app (rd_sn (beq_eq_false_iff_ne.mpr (by omega)) (rd_app (rd_app H400)))))))))) rfl rfl ?_
  refine k_iret rfl rfl ?_
  refine l_ild (p' := 2411) rfl rfl rfl rfl ?_
  refine l_icmp (p' := 2416) true rfl rfl (by decide +kernel) rfl ?_
  refine l_ild (p' := 2418) rfl rfl rfl rfl ?_
  refine l_if (p' := 2421) false rfl rfl (by decide +kernel) rfl ?_
  refine l_aldn (p' := 2422) rfl rfl rfl rfl ?_
  refine l_con (p' := 2423) rfl rfl rfl ?_
  refine l_lalz (p' := 2424) (m := 0) (v := (lN 1)) rfl rfl (he11 _ _ (rd_sn rfl (rd_ss rfl ((hb10.2.2 412 (by omega) (by omega) (by omega)).trans (rd_sn rfl (rd_sn (beq_eq_false_iff_ne.mpr (by omega)) (rd_app (rd_sn (beq_eq_false_iff_ne.mpr (by omega)) (rd_app (rd_app H412)))))))))) (by decide +kernel) rfl rfl rfl ?_
  refine l_ild (p' := 2426) rfl rfl rfl rfl ?_
  refine l_bzL (p' := 2427) (z := (lN 1)) rfl rfl rfl rfl rfl (by decide +kernel) ?_
  refine l_bz (p' := 2428) (z := (nI 0)) rfl rfl rfl rfl rfl (by decide +kernel) ?_
  refine l_if (p' := 2433) true rfl rfl (by decide +kernel) rfl ?_
  refine l_goto (p' := 2541) rfl rfl rfl ?_
  refine l_incz (p' := 2544) (w := (nI (i + 4))) (ls' := [_, _, _, _, _, _, _, _, _, _]) rfl rfl rfl rfl (mI_add _ _) rfl rfl ?_
  refine l_goto (p' := 28) rfl rfl rfl ?_
  exact hn _ _ _ _ _ ⟨(he11 _ _ (rd_sn rfl (rd_sn rfl ((hb10.2.2 0 (by omega) (by omega) (by omega)).trans (rd_ss rfl (rd_sn (beq_eq_false_iff_ne.mpr (by omega)) (rd_app (rd_sn (beq_eq_false_iff_ne.mpr (by omega)) (rd_app (rd_app H0)))))))))), (he11 _ _ (rd_ss rfl (rd_sn rfl ((hb10.2.2 400 (by omega) (by omega) (by omega)).trans (rd_sn rfl (rd_sn (beq_eq_false_iff_ne.mpr (by omega)) (rd_app (rd_sn (beq_eq_false_iff_ne.mpr (by omega)) (rd_app (rd_app H400)))))))))), (he11 _ _ (rd_sn rfl (rd_ss rfl ((hb10.2.2 412 (by omega) (by omega) (by omega)).trans (rd_sn rfl (rd_sn (beq_eq_false_iff_ne.mpr (by omega)) (rd_app (rd_sn (beq_eq_false_iff_ne.mpr (by omega)) (rd_app (rd_app H412)))))))))), ⟨m10, w10, _, (he11 _ _ (rd_sn (beq_eq_false_iff_ne.mpr (by omega)) (rd_sn (beq_eq_false_iff_ne.mpr (by omega)) hP10))), (he11 _ _ (rd_sn (beq_eq_false_iff_ne.mpr (by omega)) (rd_sn (beq_eq_false_iff_ne.mpr (by omega)) hM10))), (he11 _ _ (rd_sn (beq_eq_false_iff_ne.mpr (by omega)) (rd_sn (beq_eq_false_iff_ne.mpr (by omega)) hW10)))⟩, (mz_fr.e he11 (mz_fr.s (by decide) (mz_fr.s (by decide) (mz_fr.pb HL (Or.inr ⟨by omega, by omega⟩) (Or.inr ⟨by omega, by omega⟩) (Or.inr ⟨by omega, by omega⟩) hb10 (mz_fr.s (by decide) (mz_fr.n HL (by omega) (by omega) (mz_fr.a (mz_fr.n HL (by omega) (by omega) (mz_fr.a (mz_fr.a (mz_fr.rf _ h))))))))))), (Nat.le_trans (Nat.le_of_eq (len_b hl11 (len_s (len_s (hb10.1.trans (len_s (len_s (len_a (len_s (len_a (len_a HL rfl) rfl)) rfl)))))) rfl)) (by omega)), (Nat.le_trans (sz_b (K := 2048) (Nat.le_of_eq hz11) (by have := pb_2 hp; omega) (sz_s rfl (rd_sn rfl ((hb10.2.2 400 (by omega) (by omega) (by omega)).trans (rd_sn rfl (rd_sn (beq_eq_false_iff_ne.mpr (by omega)) (rd_app (rd_sn (beq_eq_false_iff_ne.mpr (by omega)) (rd_app (rd_app H400)))))))) rfl (sz_sA rfl ((hb10.2.2 412 (by omega) (by omega) (by omega)).trans (rd_sn rfl (rd_sn (beq_eq_false_iff_ne.mpr (by omega)) (rd_app (rd_sn (beq_eq_false_iff_ne.mpr (by omega)) (rd_app (rd_app H412))))))) (Nat.le_trans (Nat.le_of_eq hb10.2.1) (sz_s rfl (rd_sn (beq_eq_false_iff_ne.mpr (by omega)) (rd_app (rd_sn (beq_eq_false_iff_ne.mpr (by omega)) (rd_app (rd_app H0))))) rfl (sz_s (Nat.blt_eq.mpr (by omega)) (rd_app (rd_ss (Nat.blt_eq.mpr (by omega)) (rd_app (rd_nw (Nat.blt_eq.mpr (by omega)) HL)))) rfl (sz_aa (k := 1024) (m := mj_sz h + 2051) rfl (by omega) (sz_s (Nat.blt_eq.mpr (by omega)) (rd_app (rd_nw (Nat.blt_eq.mpr (by omega)) HL)) rfl (sz_aa (k := 1024) (m := mj_sz h + 1027) rfl (by omega) (sz_aa (k := 3) (m := mj_sz h + 3) rfl (by omega) (Nat.le_refl (mj_sz h))))))))))) rfl) (by omega))⟩
theorem w_45_z0 {L i N : Nat} {xs : Nat → Int32} {h : mj_H} {l6 l7 l8 l9 : Option Value} {P : mj_H → Prop} (hL : L ≤ 2048) (hi : i + 4 ≤ L) (hN : N + 2000 < mj_CB) (hN0 : 414 ≤ N) (HL : h.length = N) (hk : xs i &&& nI 63 = nI 45) {gs pl ty wa nw nx dp ca mf : Value} {th : Int32} {sd be : Int64} {ou : Nat → Int64} {vf wf sf uf im jm : Nat → Int32} {k g : Nat} (hk20 : k ≤ 20) (hvw : ∀ j, j < 8 → wf j = vf j) (hsu : ∀ j, j < k → uf j = sf j) (him : ∀ j, j < 8 → jm j = im j) {pe pm ge gm : Value} {q : Nat} (hq6 : q ≤ 6) (hg24 : g ≤ 24) {p : Nat} (hp1 : 1 ≤ p) (hp : p ≤ 10) (hp2 : 2 ≤ p) (hR : pbR p 1 = none) (hx1 : xs (i + 1) = nI p) (H0 : mj_rd h 0 = some (.inr (0, [.ref 1, .ref 38, .ref 299, .ref 336, .ref 373, .ref 375, .ref 378, .ref 381, .ref 387, .ref 393, gs, .null, .ref 397, .ref 398, .ref 399, .long sd, .long be]))) (H400 : mj_rd h 400 = some (.inr (17, [.int th, .ref 401, .ref 402, ty, .long sd, .long be, .ref 410, wa, nw, nx, .ref 411]))) (H412 : mj_rd h 412 = some (.inl (4, (1, .inr (.inl (ou)))))) (hn : ∀ (l6 l7 l8 l9 : Option Value) (h' : mj_H), mj_rd h' 0 = some (.inr (0, [.ref 1, .ref 38, .ref 299, .ref 336, .ref 373, .ref 375, .ref 378, .ref 381, .ref 387, .ref 393, gs, .ref N, .ref 397, .ref 398, .ref 399, .long sd, .long be])) ∧ mj_rd h' 400 = some (.inr (17, [.int (nI 0), .ref 401, .ref 402, ty, .long sd, .long be, .ref 410, wa, nw, nx, .ref 411])) ∧ mj_rd h' 412 = some (.inl (4, (1, .inr (.inl ((vp_updL ou 0 (Int32.toInt64 (nI (pbC p (p - 2) 2))))))))) ∧ pbX h' N (N + 1) (N + 2) ∧ mz_fr [0, 400, 412] h h' ∧ h'.length ≤ N + 13 ∧ mj_sz h' ≤ mj_sz h + 12291 → mj_lrun L xs (28, [some (.retAddr 1), some (.ref 0), some (.ref 400), some (.ref 412), some (.ref 413), some (.int (nI (i + 4))), l6, l7, l8, l9], [], h') P) : mj_lrun L xs (28, [some (.retAddr 1), some (.ref 0), some (.ref 400), some (.ref 412), some (.ref 413), some (.int (nI i)), l6, l7, l8, l9], [], h) P := by
  refine l_ild (p' := 30) rfl rfl rfl rfl ?_
  refine l_alds (p' := 31) rfl rfl rfl rfl ?_
  refine l_lens (p' := 32) rfl rfl rfl ?_
  refine l_con (p' := 33) rfl rfl rfl ?_
  refine l_bz (p' := 34) (z := (nI (L - 4))) rfl rfl rfl rfl rfl (mI_sub (by omega)) ?_
  refine l_icmp (p' := 37) false rfl rfl ((ci_gt (by omega) (by omega)).trans (decide_eq_false (by omega))) rfl ?_
  refine l_alds (p' := 38) rfl rfl rfl rfl ?_
  refine l_ild (p' := 40) rfl rfl rfl rfl ?_
  refine l_ialz (p' := 41) (m := i) (z := (xs i)) rfl rfl (inb_nI (by omega) (by omega)) (mI_cl (by omega)) rfl rfl ?_
  refine l_bip (p' := 43) rfl rfl rfl ?_
  refine l_bz (p' := 44) (z := (nI 45)) rfl rfl rfl rfl rfl hk ?_
  refine l_sp (p' := 2380) (ls' := _) rfl rfl rfl rfl rfl ?_
  refine l_aldn (p' := 2381) rfl rfl rfl rfl ?_
  refine l_alds (p' := 2382) rfl rfl rfl rfl ?_
  refine l_ild (p' := 2384) rfl rfl rfl rfl ?_
  refine l_con (p' := 2385) rfl rfl rfl ?_
  refine l_bz (p' := 2386) (z := (nI (i + 1))) rfl rfl rfl rfl rfl (mI_add _ _) ?_
  refine l_ialz (p' := 2387) (m := (i + 1)) (z := (nI p)) rfl rfl (inb_nI (by omega) (by omega)) (mI_cl (by omega)) hx1 rfl ?_
  refine l_aldn (p' := 2388) rfl rfl rfl rfl ?_
  refine l_call (p' := 2391) (kc := 99) (ls0 := [_, _, _, _]) rfl rfl rfl rfl rfl rfl rfl rfl rfl rfl ?_
  refine s_aldn (p' := 1) rfl rfl rfl ?_
  refine s_con (p' := 2) rfl rfl ?_
  refine s_aldn (p' := 3) rfl rfl rfl ?_
  refine s_ildn (p' := 4) rfl rfl rfl ?_
  refine c_call (p' := 7) (kc := 98) (ls0 := [_, _, _]) rfl rfl rfl rfl rfl (mj_rcv_is H0) rfl rfl rfl ?_
  refine s_ildn (p' := 1) rfl rfl rfl ?_
  refine s_con (p' := 2) rfl rfl ?_
  refine s_icmp (p' := 5) false rfl ((cg_lt (w := 1) (by decide +kernel)).trans (decide_eq_false (by rw [mI_ti (by omega)]; omega))) rfl ?_
  refine s_ildn (p' := 6) rfl rfl rfl ?_
  refine s_bip (p' := 8) rfl rfl ?_
  refine s_icmp (p' := 22) true rfl ((cg_le (w := 10) (by decide +kernel)).trans (decide_eq_true (by rw [mI_ti (by omega)]; omega))) rfl ?_
  refine s_con (p' := 23) rfl rfl ?_
  refine s_istn (p' := 24) (ls' := [_, _, _]) rfl rfl rfl rfl ?_
  refine s_ildn (p' := 25) rfl rfl rfl ?_
  refine s_ildn (p' := 26) rfl rfl rfl ?_
  refine s_icmp (p' := 29) false rfl ((ch_ge (w := 1) (by decide +kernel)).trans (decide_eq_false (by rw [mI_ti (by omega)]; omega))) rfl ?_
  refine s_aldn (p' := 30) rfl rfl rfl ?_
  refine s_ildn (p' := 31) rfl rfl rfl ?_
  refine s_ildn (p' := 32) rfl rfl rfl ?_
  refine c_call (p' := 35) (kc := 97) (ls0 := [_, _, _]) rfl rfl rfl rfl rfl (mj_rcv_is H0) rfl rfl rfl ?_
  refine s_aldn (p' := 1) rfl rfl rfl ?_
  refine s_gf (p' := 4) rfl H0 rfl rfl ?_
  refine s_nonnull (p' := 7) (x := none) false rfl rfl rfl ?_
  refine s_aldn (p' := 8) rfl rfl rfl ?_
  refine s_newz (p' := 11) (a := N) rfl HL rfl rfl ?_
  refine s_dupr (p' := 12) rfl rfl ?_
  refine c_call (p' := 15) (kc := 96) (ls0 := [_]) rfl rfl rfl rfl rfl (mj_rcv_is (rd_nw (Nat.blt_eq.mpr (by omega)) HL)) rfl rfl rfl ?_
  refine s_aldn (p' := 1) rfl rfl rfl ?_
  refine s_primN (p' := 4) (q := 3) rfl rfl rfl rfl rfl rfl rfl rfl ?_
  refine s_aldn (p' := 5) rfl rfl rfl ?_
  refine s_sip (p' := 8) rfl rfl ?_
  refine s_naz (p' := 10) (a := (N + 1)) (n := 1024) rfl (len_a HL rfl) rfl rfl ?_
  refine s_pfz (p' := 13) (fs' := [_, _, _]) rfl (Nat.blt_eq.mpr (by omega)) (rd_app (rd_nw (Nat.blt_eq.mpr (by omega)) HL)) rfl rfl rfl rfl ?_
  refine s_aldn (p' := 14) rfl rfl rfl ?_
  refine s_sip (p' := 17) rfl rfl ?_
  refine s_naz (p' := 19) (a := (N + 2)) (n := 1024) rfl (len_s (len_a (len_a HL rfl) rfl)) rfl rfl ?_
  refine s_pfz (p' := 22) (fs' := [_, _, _]) rfl (Nat.blt_eq.mpr (by omega)) (rd_app (rd_ss (Nat.blt_eq.mpr (by omega)) (rd_app (rd_nw (Nat.blt_eq.mpr (by omega)) HL)))) rfl rfl rfl rfl ?_
  refine c_ret rfl ?_
  refine s_pfz (p' := 18) (fs' := [_, _, _, _, _, _, _, _, _, _, _, _, _, _, _, _, _]) rfl rfl (rd_sn (beq_eq_false_iff_ne.mpr (by omega)) (rd_app (rd_sn (beq_eq_false_iff_ne.mpr (by omega)) (rd_app (rd_app H0))))) rfl rfl rfl rfl ?_
  refine s_aldn (p' := 19) rfl rfl rfl ?_
  refine s_gf (p' := 22) rfl (rd_ss rfl (rd_sn (beq_eq_false_iff_ne.mpr (by omega)) (rd_app (rd_sn (beq_eq_false_iff_ne.mpr (by omega)) (rd_app (rd_app H0)))))) rfl rfl ?_
  refine s_ildn (p' := 23) rfl rfl rfl ?_
  refine s_ildn (p' := 24) rfl rfl rfl ?_
  refine s_callEV (p' := 27) (ls0 := [_, _, _, _, _, _, _]) rfl rfl rfl rfl rfl (mj_rcv_is (rd_sn (beq_eq_false_iff_ne.mpr (by omega)) (rd_ss (Nat.blt_eq.mpr (by omega)) (rd_app (rd_ss (Nat.blt_eq.mpr (by omega)) (rd_app (rd_nw (Nat.blt_eq.mpr (by omega)) HL))))))) rfl (x_few (P := N) (M := (N + 1)) (W := (N + 2)) (by omega) (by omega) (by omega) (rd_sn (beq_eq_false_iff_ne.mpr (by omega)) (rd_ss (Nat.blt_eq.mpr (by omega)) (rd_app (rd_ss (Nat.blt_eq.mpr (by omega)) (rd_app (rd_nw (Nat.blt_eq.mpr (by omega)) HL)))))) (rd_sn (beq_eq_false_iff_ne.mpr (by omega)) (rd_sn (beq_eq_false_iff_ne.mpr (by omega)) (rd_app (rd_sn (beq_eq_false_iff_ne.mpr (by omega)) (rd_nw (Nat.blt_eq.mpr (by omega)) (len_a HL rfl)))))) (rd_sn (beq_eq_false_iff_ne.mpr (by omega)) (rd_sn (beq_eq_false_iff_ne.mpr (by omega)) (rd_nw (Nat.blt_eq.mpr (by omega)) (len_s (len_a (len_a HL rfl) rfl))))) (by omega) (by omega) (by omega) hp1 hp) rfl rfl ?_
  rintro v12 g12 ⟨rfl, hb12, s12, hP12, m12, w12, hM12, hW12, _, _⟩
  rw [show pbE (pbR p 1) = nI 4294967295 from by rw [hR]; rfl]
  refine c_iret rfl rfl ?_
  refine s_if (p' := 38) false rfl (by decide +kernel) rfl ?_
  refine s_incz (p' := 41) (w := (nI 2)) (ls' := [_, _, _]) rfl rfl rfl (by decide +kernel) rfl rfl ?_
  refine s_goto (p' := 24) rfl rfl ?_
  refine mj_Wp.mono (k := 5) ?_ (by decide)
  refine x_fpL (x := 0) (P := N) (M := (N + 1)) (W := (N + 2)) (by omega) (by omega) (by omega) (by omega) (by omega) (by omega) (by omega) (by omega) (by omega) hp1 hp (p - 2) 2 _ (by omega) ((hb12.2.2 0 (by omega) (by omega) (by omega)).trans (rd_ss rfl (rd_sn (beq_eq_false_iff_ne.mpr (by omega)) (rd_app (rd_sn (beq_eq_false_iff_ne.mpr (by omega)) (rd_app (rd_app H0))))))) ⟨_, _, _, hP12, hM12, hW12⟩ (fun gx hbx hbxx => ?_)
  obtain ⟨mx, wx, flx, hPx, hMx, hWx⟩ := hbxx
  refine s_ildn (p' := 45) rfl rfl rfl ?_
  refine c_iret rfl rfl ?_
  refine s_bzL (p' := 8) (z := (Int32.toInt64 (nI (pbC p (p - 2) 2)))) rfl rfl rfl rfl ?_
  refine s_lasz (p' := 9) (m := 0) rfl rfl ((hbx.2.2 412 (by omega) (by omega) (by omega)).trans ((hb12.2.2 412 (by omega) (by omega) (by omega)).trans (rd_sn rfl (rd_sn (beq_eq_false_iff_ne.mpr (by omega)) (rd_app (rd_sn (beq_eq_false_iff_ne.mpr (by omega)) (rd_app (rd_app H412)))))))) (by decide +kernel) rfl rfl rfl ?_
  refine s_goto (p' := 15) rfl rfl ?_
  refine s_con (p' := 16) rfl rfl ?_
  refine k_iret rfl rfl ?_
  refine l_ist (p' := 2393) (ls' := [_, _, _, _, _, _, _, _, _, _]) rfl rfl rfl rfl rfl ?_
  refine l_aldn (p' := 2394) rfl rfl rfl rfl ?_
  refine l_alds (p' := 2395) rfl rfl rfl rfl ?_
  refine l_ild (p' := 2397) rfl rfl rfl rfl ?_
  refine l_con (p' := 2398) rfl rfl rfl ?_
  refine l_bz (p' := 2399) (z := (nI (i + 1))) rfl rfl rfl rfl rfl (mI_add _ _) ?_
  refine l_ialz (p' := 2400) (m := (i + 1)) (z := (nI p)) rfl rfl (inb_nI (by omega) (by omega)) (mI_cl (by omega)) hx1 rfl ?_
  refine l_call (p' := 2403) (kc := 99) (ls0 := [_, _, _]) rfl rfl rfl rfl rfl rfl (mj_rcv_is (rd_sn rfl ((hbx.2.2 400 (by omega) (by omega) (by omega)).trans ((hb12.2.2 400 (by omega) (by omega) (by omega)).trans (rd_sn rfl (rd_sn (beq_eq_false_iff_ne.mpr (by omega)) (rd_app (rd_sn (beq_eq_false_iff_ne.mpr (by omega)) (rd_app (rd_app H400)))))))))) rfl rfl rfl ?_
  refine s_aldn (p' := 1) rfl rfl rfl ?_
  refine s_ildn (p' := 2) rfl rfl rfl ?_
  refine s_con (p' := 3) rfl rfl ?_
  refine s_bip (p' := 5) rfl rfl ?_
  refine c_call (p' := 8) (kc := 98) (ls0 := [_, _, _]) rfl rfl rfl rfl rfl rfl rfl rfl rfl ?_
  refine s_ildn (p' := 1) rfl rfl rfl ?_
  refine s_ildn (p' := 2) rfl rfl rfl ?_
  refine s_icmp (p' := 5) false rfl ((ch_gt (w := 1) (by decide +kernel)).trans (decide_eq_false (by rw [mI_ti (by omega)]; omega))) rfl ?_
  refine s_ildn (p' := 6) rfl rfl rfl ?_
  refine s_ildn (p' := 7) rfl rfl rfl ?_
  refine s_icmp (p' := 10) false rfl ((cg_gt (w := 10) (by decide +kernel)).trans (decide_eq_false (by rw [mI_ti (by omega)]; omega))) rfl ?_
  refine s_con (p' := 11) rfl rfl ?_
  refine s_goto (p' := 15) rfl rfl ?_
  refine c_iret rfl (by decide +kernel) ?_
  refine s_if (p' := 11) false rfl (by decide +kernel) rfl ?_
  refine s_con (p' := 12) rfl rfl ?_
  refine s_goto (p' := 16) rfl rfl ?_
  refine c_call (p' := 19) (kc := 98) (ls0 := [_, _]) rfl rfl rfl rfl rfl (mj_rcv_is (rd_sn rfl ((hbx.2.2 400 (by omega) (by omega) (by omega)).trans ((hb12.2.2 400 (by omega) (by omega) (by omega)).trans (rd_sn rfl (rd_sn (beq_eq_false_iff_ne.mpr (by omega)) (rd_app (rd_sn (beq_eq_false_iff_ne.mpr (by omega)) (rd_app (rd_app H400)))))))))) rfl rfl rfl ?_
  refine s_aldn (p' := 1) rfl rfl rfl ?_
  refine s_ildn (p' := 2) rfl rfl rfl ?_
  refine s_pfz (p' := 5) (fs' := [_, _, _, _, _, _, _, _, _, _, _]) rfl rfl (rd_sn rfl ((hbx.2.2 400 (by omega) (by omega) (by omega)).trans ((hb12.2.2 400 (by omega) (by omega) (by omega)).trans (rd_sn rfl (rd_sn (beq_eq_false_iff_ne.mpr (by omega)) (rd_app (rd_sn (beq_eq_false_iff_ne.mpr (by omega)) (rd_app (rd_app H400))))))))) rfl rfl rfl rfl ?_
  refine s_ildn (p' := 6) rfl rfl rfl ?_
  refine s_if (p' := 13) true rfl (by decide +kernel) rfl ?_
  refine s_con (p' := 14) rfl rfl ?_
  refine c_iret rfl (by decide +kernel) ?_
  refine s_if (p' := 24) true rfl (by decide +kernel) rfl ?_
  refine s_con (p' := 25) rfl rfl ?_
  refine s_istn (p' := 26) (ls' := [_, _, _]) rfl rfl rfl rfl ?_
  refine s_ildn (p' := 27) rfl rfl rfl ?_
  refine s_ildn (p' := 28) rfl rfl rfl ?_
  refine s_callEV (p' := 31) (ls0 := [_, _, _, _, _, _, _, _, _, _]) rfl rfl rfl rfl rfl rfl rfl (y_mov (n := (N + 3)) (len_s (len_s (hbx.1.trans (hb12.1.trans (len_s (len_s (len_a (len_s (len_a (len_a HL rfl) rfl)) rfl))))))) (by omega) hp1 hp) rfl rfl ?_
  rintro v13 g13 ⟨rfl, hl13, hz13, he13⟩
  rw [show pbE (pbR p 1) = nI 4294967295 from by rw [hR]; rfl]
  refine s_con (p' := 32) rfl rfl ?_
  refine s_icmp (p' := 35) false rfl (by decide +kernel) rfl ?_
  refine s_incz (p' := 38) (w := (nI 2)) (ls' := [_, _, _]) rfl rfl rfl (by decide +kernel) rfl rfl ?_
  refine s_goto (p' := 26) rfl rfl ?_
  refine mj_Wp.mono (k := 5) ?_ (by decide)
  have hly := (len_b hl13 (len_s (len_s (hbx.1.trans (hb12.1.trans (len_s (len_s (len_a (len_s (len_a (len_a HL rfl) rfl)) rfl))))))) rfl)
  have h4 := pbC_5 hp1 hp (p - 2) 2 (by omega)
  refine y_fpL4 (x := 400) hp1 hp (p - 2) 2 _ (by omega) (by omega) (by rw [hly]; omega) (fun gy ey1 ey2 ey3 => ?_)
  refine s_ildn (p' := 42) rfl rfl rfl ?_
  refine k_iret rfl rfl ?_
  refine l_ist (p' := 2405) (ls' := [_, _, _, _, _, _, _, _, _, _]) rfl rfl rfl rfl rfl ?_
  refine l_aldn (p' := 2406) rfl rfl rfl rfl ?_
  refine l_call (p' := 2409) (kc := 99) (ls0 := [_]) rfl rfl rfl rfl rfl rfl (mj_rcv_is (ey1 _ _ (he13 _ _ (rd_ss rfl (rd_sn rfl ((hbx.2.2 400 (by omega) (by omega) (by omega)).trans ((hb12.2.2 400 (by omega) (by omega) (by omega)).trans (rd_sn rfl (rd_sn (beq_eq_false_iff_ne.mpr (by omega)) (rd_app (rd_sn (beq_eq_false_iff_ne.mpr (by omega)) (rd_app (rd_app H400))))))))))))) rfl rfl rfl ?_
  refine s_aldn (p' := 1) rfl rfl rfl ?_
  refine s_gf (p' := 4) rfl (ey1 _ _ (he13 _ _ (rd_ss rfl (rd_sn rfl ((hbx.2.2 400 (by omega) (by omega) (by omega)).trans ((hb12.2.2 400 (by omega) (by omega) (by omega)).trans (rd_sn rfl (rd_sn (beq_eq_false_iff_ne.mpr (by omega)) (rd_app (rd_sn (beq_eq_false_iff_ne.mpr (by omega)) (rd_app (rd_app H400)))))))))))) rfl rfl ?_
  refine k_iret rfl rfl ?_
  refine l_ild (p' := 2411) rfl rfl rfl rfl ?_
  refine l_icmp (p' := 2416) true rfl rfl (by decide +kernel) rfl ?_
  refine l_ild (p' := 2418) rfl rfl rfl rfl ?_
  refine l_if (p' := 2421) false rfl rfl (by decide +kernel) rfl ?_
  refine l_aldn (p' := 2422) rfl rfl rfl rfl ?_
  refine l_con (p' := 2423) rfl rfl rfl ?_
  refine l_lalz (p' := 2424) (m := 0) (v := (Int32.toInt64 (nI (pbC p (p - 2) 2)))) rfl rfl (ey1 _ _ (he13 _ _ (rd_sn rfl (rd_ss rfl ((hbx.2.2 412 (by omega) (by omega) (by omega)).trans ((hb12.2.2 412 (by omega) (by omega) (by omega)).trans (rd_sn rfl (rd_sn (beq_eq_false_iff_ne.mpr (by omega)) (rd_app (rd_sn (beq_eq_false_iff_ne.mpr (by omega)) (rd_app (rd_app H412)))))))))))) (by decide +kernel) rfl rfl rfl ?_
  refine l_ild (p' := 2426) rfl rfl rfl rfl ?_
  refine l_bzL (p' := 2427) (z := (Int32.toInt64 (nI (pbC p (p - 2) 2)))) rfl rfl rfl rfl rfl rfl ?_
  refine l_bz (p' := 2428) (z := nI 0) rfl rfl rfl rfl rfl (lcmp_self _) ?_
  refine l_if (p' := 2433) true rfl rfl (by decide +kernel) rfl ?_
  refine l_goto (p' := 2541) rfl rfl rfl ?_
  refine l_incz (p' := 2544) (w := (nI (i + 4))) (ls' := [_, _, _, _, _, _, _, _, _, _]) rfl rfl rfl rfl (mI_add _ _) rfl rfl ?_
  refine l_goto (p' := 28) rfl rfl rfl ?_
  exact hn _ _ _ _ _ ⟨(ey1 _ _ (he13 _ _ (rd_sn rfl (rd_sn rfl ((hbx.2.2 0 (by omega) (by omega) (by omega)).trans ((hb12.2.2 0 (by omega) (by omega) (by omega)).trans (rd_ss rfl (rd_sn (beq_eq_false_iff_ne.mpr (by omega)) (rd_app (rd_sn (beq_eq_false_iff_ne.mpr (by omega)) (rd_app (rd_app H0)))))))))))), (ey1 _ _ (he13 _ _ (rd_ss rfl (rd_sn rfl ((hbx.2.2 400 (by omega) (by omega) (by omega)).trans ((hb12.2.2 400 (by omega) (by omega) (by omega)).trans (rd_sn rfl (rd_sn (beq_eq_false_iff_ne.mpr (by omega)) (rd_app (rd_sn (beq_eq_false_iff_ne.mpr (by omega)) (rd_app (rd_app H400)))))))))))), (ey1 _ _ (he13 _ _ (rd_sn rfl (rd_ss rfl ((hbx.2.2 412 (by omega) (by omega) (by omega)).trans ((hb12.2.2 412 (by omega) (by omega) (by omega)).trans (rd_sn rfl (rd_sn (beq_eq_false_iff_ne.mpr (by omega)) (rd_app (rd_sn (beq_eq_false_iff_ne.mpr (by omega)) (rd_app (rd_app H412)))))))))))), ⟨mx, wx, _, (ey1 _ _ (he13 _ _ (rd_sn (beq_eq_false_iff_ne.mpr (by omega)) (rd_sn (beq_eq_false_iff_ne.mpr (by omega)) hPx)))), (ey1 _ _ (he13 _ _ (rd_sn (beq_eq_false_iff_ne.mpr (by omega)) (rd_sn (beq_eq_false_iff_ne.mpr (by omega)) hMx)))), (ey1 _ _ (he13 _ _ (rd_sn (beq_eq_false_iff_ne.mpr (by omega)) (rd_sn (beq_eq_false_iff_ne.mpr (by omega)) hWx))))⟩, (mz_fr.e ey1 (mz_fr.e he13 (mz_fr.s (by decide) (mz_fr.s (by decide) (mz_fr.pb HL (Or.inr ⟨by omega, by omega⟩) (Or.inr ⟨by omega, by omega⟩) (Or.inr ⟨by omega, by omega⟩) hbx (mz_fr.pb HL (Or.inr ⟨by omega, by omega⟩) (Or.inr ⟨by omega, by omega⟩) (Or.inr ⟨by omega, by omega⟩) hb12 (mz_fr.s (by decide) (mz_fr.n HL (by omega) (by omega) (mz_fr.a (mz_fr.n HL (by omega) (by omega) (mz_fr.a (mz_fr.a (mz_fr.rf _ h))))))))))))), (Nat.le_trans (lenb_b (K := 8) ey2 (by omega) (Nat.le_of_eq (len_b hl13 (len_s (len_s (hbx.1.trans (hb12.1.trans (len_s (len_s (len_a (len_s (len_a (len_a HL rfl) rfl)) rfl))))))) rfl)) rfl) (by omega)), (Nat.le_trans (sz_b (K := 8192) ey3 (by omega) (sz_b (K := 2048) (Nat.le_of_eq hz13) (by have := pb_2 hp; omega) (sz_s rfl (rd_sn rfl ((hbx.2.2 400 (by omega) (by omega) (by omega)).trans ((hb12.2.2 400 (by omega) (by omega) (by omega)).trans (rd_sn rfl (rd_sn (beq_eq_false_iff_ne.mpr (by omega)) (rd_app (rd_sn (beq_eq_false_iff_ne.mpr (by omega)) (rd_app (rd_app H400))))))))) rfl (sz_sA rfl ((hbx.2.2 412 (by omega) (by omega) (by omega)).trans ((hb12.2.2 412 (by omega) (by omega) (by omega)).trans (rd_sn rfl (rd_sn (beq_eq_false_iff_ne.mpr (by omega)) (rd_app (rd_sn (beq_eq_false_iff_ne.mpr (by omega)) (rd_app (rd_app H412)))))))) (Nat.le_trans (Nat.le_of_eq hbx.2.1) (Nat.le_trans (Nat.le_of_eq hb12.2.1) (sz_s rfl (rd_sn (beq_eq_false_iff_ne.mpr (by omega)) (rd_app (rd_sn (beq_eq_false_iff_ne.mpr (by omega)) (rd_app (rd_app H0))))) rfl (sz_s (Nat.blt_eq.mpr (by omega)) (rd_app (rd_ss (Nat.blt_eq.mpr (by omega)) (rd_app (rd_nw (Nat.blt_eq.mpr (by omega)) HL)))) rfl (sz_aa (k := 1024) (m := mj_sz h + 2051) rfl (by omega) (sz_s (Nat.blt_eq.mpr (by omega)) (rd_app (rd_nw (Nat.blt_eq.mpr (by omega)) HL)) rfl (sz_aa (k := 1024) (m := mj_sz h + 1027) rfl (by omega) (sz_aa (k := 3) (m := mj_sz h + 3) rfl (by omega) (Nat.le_refl (mj_sz h)))))))))))) rfl) rfl) (by omega))⟩
theorem w_45_s1 {L i N : Nat} {xs : Nat → Int32} {h : mj_H} {l6 l7 l8 l9 : Option Value} {P : mj_H → Prop} (hL : L ≤ 2048) (hi : i + 4 ≤ L) (hN : N + 2000 < mj_CB) (hN0 : 414 ≤ N) (HL : h.length = N) (hk : xs i &&& nI 63 = nI 45) {gs pl ty wa nw nx dp ca mf : Value} {th : Int32} {sd be : Int64} {ou : Nat → Int64} {vf wf sf uf im jm : Nat → Int32} {k g : Nat} (hk20 : k ≤ 20) (hvw : ∀ j, j < 8 → wf j = vf j) (hsu : ∀ j, j < k → uf j = sf j) (him : ∀ j, j < 8 → jm j = im j) {pe pm ge gm : Value} {q : Nat} (hq6 : q ≤ 6) (hg24 : g ≤ 24) {p : Nat} (hp1 : 1 ≤ p) (hp : p ≤ 10) (hp2 : 2 ≤ p) {pP pM pW : Nat} {pm0 pw0 : Nat → Int32} {pfl : Value} (hP0 : 414 ≤ pP ∧ pP < N) (hM0 : 414 ≤ pM ∧ pM < N) (hW0 : 414 ≤ pW ∧ pW < N) (hMP : pM ≠ pP) (hWP : pW ≠ pP) (hMW : pM ≠ pW) {d : Nat} (hd : d < 1024) (hR : pbR p 1 = some d) (hx1 : xs (i + 1) = nI p) (H0 : mj_rd h 0 = some (.inr (0, [.ref 1, .ref 38, .ref 299, .ref 336, .ref 373, .ref 375, .ref 378, .ref 381, .ref 387, .ref 393, gs, .ref pP, .ref 397, .ref 398, .ref 399, .long sd, .long be]))) (H400 : mj_rd h 400 = some (.inr (17, [.int th, .ref 401, .ref 402, ty, .long sd, .long be, .ref 410, wa, nw, nx, .ref 411]))) (H412 : mj_rd h 412 = some (.inl (4, (1, .inr (.inl (ou)))))) (HpP : mj_rd h pP = some (.inr (16, [.ref pM, .ref pW, pfl]))) (HpM : mj_rd h pM = some (.inl (0, (1024, .inl (pm0))))) (HpW : mj_rd h pW = some (.inl (0, (1024, .inl (pw0))))) (hn : ∀ (l6 l7 l8 l9 : Option Value) (h' : mj_H), mj_rd h' 400 = some (.inr (17, [.int (nI 0), .ref 401, .ref 402, ty, .long sd, .long be, .ref 410, wa, nw, nx, .ref 411])) ∧ mj_rd h' 412 = some (.inl (4, (1, .inr (.inl ((vp_updL ou 0 (lN 1))))))) ∧ pbX h' pP pM pW ∧ mz_fr [400, 412, pP, pM, pW] h h' ∧ h'.length ≤ N + 2 ∧ mj_sz h' ≤ mj_sz h + 2048 → mj_lrun L xs (28, [some (.retAddr 1), some (.ref 0), some (.ref 400), some (.ref 412), some (.ref 413), some (.int (nI (i + 4))), l6, l7, l8, l9], [], h') P) : mj_lrun L xs (28, [some (.retAddr 1), some (.ref 0), some (.ref 400), some (.ref 412), some (.ref 413), some (.int (nI i)), l6, l7, l8, l9], [], h) P := by
  refine l_ild (p' := 30) rfl rfl rfl rfl ?_
  refine l_alds (p' := 31) rfl rfl rfl rfl ?_
  refine l_lens (p' := 32) rfl rfl rfl ?_
  refine l_con (p' := 33) rfl rfl rfl ?_
  refine l_bz (p' := 34) (z := (nI (L - 4))) rfl rfl rfl rfl rfl (mI_sub (by omega)) ?_
  refine l_icmp (p' := 37) false rfl rfl ((ci_gt (by omega) (by omega)).trans (decide_eq_false (by omega))) rfl ?_
  refine l_alds (p' := 38) rfl rfl rfl rfl ?_
  refine l_ild (p' := 40) rfl rfl rfl rfl ?_
  refine l_ialz (p' := 41) (m := i) (z := (xs i)) rfl rfl (inb_nI (by omega) (by omega)) (mI_cl (by omega)) rfl rfl ?_
  refine l_bip (p' := 43) rfl rfl rfl ?_
  refine l_bz (p' := 44) (z := (nI 45)) rfl rfl rfl rfl rfl hk ?_
  refine l_sp (p' := 2380) (ls' := _) rfl rfl rfl rfl rfl ?_
  refine l_aldn (p' := 2381) rfl rfl rfl rfl ?_
  refine l_alds (p' := 2382) rfl rfl rfl rfl ?_
  refine l_ild (p' := 2384) rfl rfl rfl rfl ?_
  refine l_con (p' := 2385) rfl rfl rfl ?_
  refine l_bz (p' := 2386) (z := (nI (i + 1))) rfl rfl rfl rfl rfl (mI_add _ _) ?_
  refine l_ialz (p' := 2387) (m := (i + 1)) (z := (nI p)) rfl rfl (inb_nI (by omega) (by omega)) (mI_cl (by omega)) hx1 rfl ?_
  refine l_aldn (p' := 2388) rfl rfl rfl rfl ?_
  refine l_call (p' := 2391) (kc := 99) (ls0 := [_, _, _, _]) rfl rfl rfl rfl rfl rfl rfl rfl rfl rfl ?_
  refine s_aldn (p' := 1) rfl rfl rfl ?_
  refine s_con (p' := 2) rfl rfl ?_
  refine s_aldn (p' := 3) rfl rfl rfl ?_
  refine s_ildn (p' := 4) rfl rfl rfl ?_
  refine c_call (p' := 7) (kc := 98) (ls0 := [_, _, _]) rfl rfl rfl rfl rfl (mj_rcv_is H0) rfl rfl rfl ?_
  refine s_ildn (p' := 1) rfl rfl rfl ?_
  refine s_con (p' := 2) rfl rfl ?_
  refine s_icmp (p' := 5) false rfl ((cg_lt (w := 1) (by decide +kernel)).trans (decide_eq_false (by rw [mI_ti (by omega)]; omega))) rfl ?_
  refine s_ildn (p' := 6) rfl rfl rfl ?_
  refine s_bip (p' := 8) rfl rfl ?_
  refine s_icmp (p' := 22) true rfl ((cg_le (w := 10) (by decide +kernel)).trans (decide_eq_true (by rw [mI_ti (by omega)]; omega))) rfl ?_
  refine s_con (p' := 23) rfl rfl ?_
  refine s_istn (p' := 24) (ls' := [_, _, _]) rfl rfl rfl rfl ?_
  refine s_ildn (p' := 25) rfl rfl rfl ?_
  refine s_ildn (p' := 26) rfl rfl rfl ?_
  refine s_icmp (p' := 29) false rfl ((ch_ge (w := 1) (by decide +kernel)).trans (decide_eq_false (by rw [mI_ti (by omega)]; omega))) rfl ?_
  refine s_aldn (p' := 30) rfl rfl rfl ?_
  refine s_ildn (p' := 31) rfl rfl rfl ?_
  refine s_ildn (p' := 32) rfl rfl rfl ?_
  refine c_call (p' := 35) (kc := 97) (ls0 := [_, _, _]) rfl rfl rfl rfl rfl (mj_rcv_is H0) rfl rfl rfl ?_
  refine s_aldn (p' := 1) rfl rfl rfl ?_
  refine s_gf (p' := 4) rfl H0 rfl rfl ?_
  refine s_nonnull (p' := 18) (x := some pP) true rfl rfl rfl ?_
  refine s_aldn (p' := 19) rfl rfl rfl ?_
  refine s_gf (p' := 22) rfl H0 rfl rfl ?_
  refine s_ildn (p' := 23) rfl rfl rfl ?_
  refine s_ildn (p' := 24) rfl rfl rfl ?_
  refine s_callEV (p' := 27) (ls0 := [_, _, _, _, _, _, _]) rfl rfl rfl rfl rfl (mj_rcv_is HpP) rfl (x_few (P := pP) (M := pM) (W := pW) (by omega) (by omega) (by omega) HpP HpM HpW (by omega) (by omega) (by omega) hp1 hp) rfl rfl ?_
  rintro v14 g14 ⟨rfl, hb14, s14, hP14, m14, w14, hM14, hW14, _, _⟩
  rw [show pbE (pbR p 1) = nI d from by rw [hR]; rfl]
  refine c_iret rfl rfl ?_
  refine s_if (p' := 44) true rfl ((cg_ge (w := 0) (by decide +kernel)).trans (decide_eq_true (by rw [mI_ti (by omega)]; omega))) rfl ?_
  refine s_ildn (p' := 45) rfl rfl rfl ?_
  refine c_iret rfl rfl ?_
  refine s_bzL (p' := 8) (z := (lN 1)) rfl rfl rfl (by decide +kernel) ?_
  refine s_lasz (p' := 9) (m := 0) rfl rfl ((hb14.2.2 412 (by omega) (by omega) (by omega)).trans H412) (by decide +kernel) rfl rfl rfl ?_
  refine s_goto (p' := 15) rfl rfl ?_
  refine s_con (p' := 16) rfl rfl ?_
  refine k_iret rfl rfl ?_
  refine l_ist (p' := 2393) (ls' := [_, _, _, _, _, _, _, _, _, _]) rfl rfl rfl rfl rfl ?_
  refine l_aldn (p' := 2394) rfl rfl rfl rfl ?_
  refine l_alds (p' := 2395) rfl rfl rfl rfl ?_
  refine l_ild (p' := 2397) rfl rfl rfl rfl ?_
  refine l_con (p' := 2398) rfl rfl rfl ?_
  refine l_bz (p' := 2399) (z := (nI (i + 1))) rfl rfl rfl rfl rfl (mI_add _ _) ?_
  refine l_ialz (p' := 2400) (m := (i + 1)) (z := (nI p)) rfl rfl (inb_nI (by omega) (by omega)) (mI_cl (by omega)) hx1 rfl ?_
  refine l_call (p' := 2403) (kc := 99) (ls0 := [_, _, _]) rfl rfl rfl rfl rfl rfl (mj_rcv_is (rd_sn rfl ((hb14.2.2 400 (by omega) (by omega) (by omega)).trans H400))) rfl rfl rfl ?_
  refine s_aldn (p' := 1) rfl rfl rfl ?_
  refine s_ildn (p' := 2) rfl rfl rfl ?_
  refine s_con (p' := 3) rfl rfl ?_
  refine s_bip (p' := 5) rfl rfl ?_
  refine c_call (p' := 8) (kc := 98) (ls0 := [_, _, _]) rfl rfl rfl rfl rfl rfl rfl rfl rfl ?_
  refine s_ildn (p' := 1) rfl rfl rfl ?_
  refine s_ildn (p' := 2) rfl rfl rfl ?_
  refine s_icmp (p' := 5) false rfl ((ch_gt (w := 1) (by decide +kernel)).trans (decide_eq_false (by rw [mI_ti (by omega)]; omega))) rfl ?_
  refine s_ildn (p' := 6) rfl rfl rfl ?_
  refine s_ildn (p' := 7) rfl rfl rfl ?_
  refine s_icmp (p' := 10) false rfl ((cg_gt (w := 10) (by decide +kernel)).trans (decide_eq_false (by rw [mI_ti (by omega)]; omega))) rfl ?_
  refine s_con (p' := 11) rfl rfl ?_
  refine s_goto (p' := 15) rfl rfl ?_
  refine c_iret rfl (by decide +kernel) ?_
  refine s_if (p' := 11) false rfl (by decide +kernel) rfl ?_
  refine s_con (p' := 12) rfl rfl ?_
  refine s_goto (p' := 16) rfl rfl ?_
  refine c_call (p' := 19) (kc := 98) (ls0 := [_, _]) rfl rfl rfl rfl rfl (mj_rcv_is (rd_sn rfl ((hb14.2.2 400 (by omega) (by omega) (by omega)).trans H400))) rfl rfl rfl ?_
  refine s_aldn (p' := 1) rfl rfl rfl ?_
  refine s_ildn (p' := 2) rfl rfl rfl ?_
  refine s_pfz (p' := 5) (fs' := [_, _, _, _, _, _, _, _, _, _, _]) rfl rfl (rd_sn rfl ((hb14.2.2 400 (by omega) (by omega) (by omega)).trans H400)) rfl rfl rfl rfl ?_
  refine s_ildn (p' := 6) rfl rfl rfl ?_
  refine s_if (p' := 13) true rfl (by decide +kernel) rfl ?_
  refine s_con (p' := 14) rfl rfl ?_
  refine c_iret rfl (by decide +kernel) ?_
  refine s_if (p' := 24) true rfl (by decide +kernel) rfl ?_
  refine s_con (p' := 25) rfl rfl ?_
  refine s_istn (p' := 26) (ls' := [_, _, _]) rfl rfl rfl rfl ?_
  refine s_ildn (p' := 27) rfl rfl rfl ?_
  refine s_ildn (p' := 28) rfl rfl rfl ?_
  refine s_callEV (p' := 31) (ls0 := [_, _, _, _, _, _, _, _, _, _]) rfl rfl rfl rfl rfl rfl rfl (y_mov (n := N) (len_s (len_s (hb14.1.trans HL))) (by omega) hp1 hp) rfl rfl ?_
  rintro v15 g15 ⟨rfl, hl15, hz15, he15⟩
  rw [show pbE (pbR p 1) = nI d from by rw [hR]; rfl]
  refine s_con (p' := 32) rfl rfl ?_
  refine s_icmp (p' := 41) true rfl ((cg_ne (w := -1) (by decide +kernel)).trans (decide_eq_true (by rw [mI_ti (by omega)]; omega))) rfl ?_
  refine s_ildn (p' := 42) rfl rfl rfl ?_
  refine k_iret rfl rfl ?_
  refine l_ist (p' := 2405) (ls' := [_, _, _, _, _, _, _, _, _, _]) rfl rfl rfl rfl rfl ?_
  refine l_aldn (p' := 2406) rfl rfl rfl rfl ?_
  refine l_call (p' := 2409) (kc := 99) (ls0 := [_]) rfl rfl rfl rfl rfl rfl (mj_rcv_is (he15 _ _ (rd_ss rfl (rd_sn rfl ((hb14.2.2 400 (by omega) (by omega) (by omega)).trans H400))))) rfl rfl rfl ?_
  refine s_aldn (p' := 1) rfl rfl rfl ?_
  refine s_gf (p' := 4) rfl (he15 _ _ (rd_ss rfl (rd_sn rfl ((hb14.2.2 400 (by omega) (by omega) (by omega)).trans H400)))) rfl rfl ?_
  refine k_iret rfl rfl ?_
  refine l_ild (p' := 2411) rfl rfl rfl rfl ?_
  refine l_icmp (p' := 2416) true rfl rfl (by decide +kernel) rfl ?_
  refine l_ild (p' := 2418) rfl rfl rfl rfl ?_
  refine l_if (p' := 2421) false rfl rfl (by decide +kernel) rfl ?_
  refine l_aldn (p' := 2422) rfl rfl rfl rfl ?_
  refine l_con (p' := 2423) rfl rfl rfl ?_
  refine l_lalz (p' := 2424) (m := 0) (v := (lN 1)) rfl rfl (he15 _ _ (rd_sn rfl (rd_ss rfl ((hb14.2.2 412 (by omega) (by omega) (by omega)).trans H412)))) (by decide +kernel) rfl rfl rfl ?_
  refine l_ild (p' := 2426) rfl rfl rfl rfl ?_
  refine l_bzL (p' := 2427) (z := (lN 1)) rfl rfl rfl rfl rfl (by decide +kernel) ?_
  refine l_bz (p' := 2428) (z := (nI 0)) rfl rfl rfl rfl rfl (by decide +kernel) ?_
  refine l_if (p' := 2433) true rfl rfl (by decide +kernel) rfl ?_
  refine l_goto (p' := 2541) rfl rfl rfl ?_
  refine l_incz (p' := 2544) (w := (nI (i + 4))) (ls' := [_, _, _, _, _, _, _, _, _, _]) rfl rfl rfl rfl (mI_add _ _) rfl rfl ?_
  refine l_goto (p' := 28) rfl rfl rfl ?_
  exact hn _ _ _ _ _ ⟨(he15 _ _ (rd_ss rfl (rd_sn rfl ((hb14.2.2 400 (by omega) (by omega) (by omega)).trans H400)))), (he15 _ _ (rd_sn rfl (rd_ss rfl ((hb14.2.2 412 (by omega) (by omega) (by omega)).trans H412)))), ⟨m14, w14, _, (he15 _ _ (rd_sn (beq_eq_false_iff_ne.mpr (by omega)) (rd_sn (beq_eq_false_iff_ne.mpr (by omega)) hP14))), (he15 _ _ (rd_sn (beq_eq_false_iff_ne.mpr (by omega)) (rd_sn (beq_eq_false_iff_ne.mpr (by omega)) hM14))), (he15 _ _ (rd_sn (beq_eq_false_iff_ne.mpr (by omega)) (rd_sn (beq_eq_false_iff_ne.mpr (by omega)) hW14)))⟩, (mz_fr.e he15 (mz_fr.s (by simp) (mz_fr.s (by simp) (mz_fr.pb HL (Or.inl (by simp)) (Or.inl (by simp)) (Or.inl (by simp)) hb14 (mz_fr.rf _ h))))), (Nat.le_trans (Nat.le_of_eq (len_b hl15 (len_s (len_s (hb14.1.trans HL))) rfl)) (by omega)), (Nat.le_trans (sz_b (K := 2048) (Nat.le_of_eq hz15) (by have := pb_2 hp; omega) (sz_s rfl (rd_sn rfl ((hb14.2.2 400 (by omega) (by omega) (by omega)).trans H400)) rfl (sz_sA rfl ((hb14.2.2 412 (by omega) (by omega) (by omega)).trans H412) (Nat.le_trans (Nat.le_of_eq hb14.2.1) (Nat.le_refl (mj_sz h))))) rfl) (by omega))⟩
theorem w_45_z1 {L i N : Nat} {xs : Nat → Int32} {h : mj_H} {l6 l7 l8 l9 : Option Value} {P : mj_H → Prop} (hL : L ≤ 2048) (hi : i + 4 ≤ L) (hN : N + 2000 < mj_CB) (hN0 : 414 ≤ N) (HL : h.length = N) (hk : xs i &&& nI 63 = nI 45) {gs pl ty wa nw nx dp ca mf : Value} {th : Int32} {sd be : Int64} {ou : Nat → Int64} {vf wf sf uf im jm : Nat → Int32} {k g : Nat} (hk20 : k ≤ 20) (hvw : ∀ j, j < 8 → wf j = vf j) (hsu : ∀ j, j < k → uf j = sf j) (him : ∀ j, j < 8 → jm j = im j) {pe pm ge gm : Value} {q : Nat} (hq6 : q ≤ 6) (hg24 : g ≤ 24) {p : Nat} (hp1 : 1 ≤ p) (hp : p ≤ 10) (hp2 : 2 ≤ p) {pP pM pW : Nat} {pm0 pw0 : Nat → Int32} {pfl : Value} (hP0 : 414 ≤ pP ∧ pP < N) (hM0 : 414 ≤ pM ∧ pM < N) (hW0 : 414 ≤ pW ∧ pW < N) (hMP : pM ≠ pP) (hWP : pW ≠ pP) (hMW : pM ≠ pW) (hR : pbR p 1 = none) (hx1 : xs (i + 1) = nI p) (H0 : mj_rd h 0 = some (.inr (0, [.ref 1, .ref 38, .ref 299, .ref 336, .ref 373, .ref 375, .ref 378, .ref 381, .ref 387, .ref 393, gs, .ref pP, .ref 397, .ref 398, .ref 399, .long sd, .long be]))) (H400 : mj_rd h 400 = some (.inr (17, [.int th, .ref 401, .ref 402, ty, .long sd, .long be, .ref 410, wa, nw, nx, .ref 411]))) (H412 : mj_rd h 412 = some (.inl (4, (1, .inr (.inl (ou)))))) (HpP : mj_rd h pP = some (.inr (16, [.ref pM, .ref pW, pfl]))) (HpM : mj_rd h pM = some (.inl (0, (1024, .inl (pm0))))) (HpW : mj_rd h pW = some (.inl (0, (1024, .inl (pw0))))) (hn : ∀ (l6 l7 l8 l9 : Option Value) (h' : mj_H), mj_rd h' 400 = some (.inr (17, [.int (nI 0), .ref 401, .ref 402, ty, .long sd, .long be, .ref 410, wa, nw, nx, .ref 411])) ∧ mj_rd h' 412 = some (.inl (4, (1, .inr (.inl ((vp_updL ou 0 (Int32.toInt64 (nI (pbC p (p - 2) 2))))))))) ∧ pbX h' pP pM pW ∧ mz_fr [400, 412, pP, pM, pW] h h' ∧ h'.length ≤ N + 10 ∧ mj_sz h' ≤ mj_sz h + 10240 → mj_lrun L xs (28, [some (.retAddr 1), some (.ref 0), some (.ref 400), some (.ref 412), some (.ref 413), some (.int (nI (i + 4))), l6, l7, l8, l9], [], h') P) : mj_lrun L xs (28, [some (.retAddr 1), some (.ref 0), some (.ref 400), some (.ref 412), some (.ref 413), some (.int (nI i)), l6, l7, l8, l9], [], h) P := by
  refine l_ild (p' := 30) rfl rfl rfl rfl ?_
  refine l_alds (p' := 31) rfl rfl rfl rfl ?_
  refine l_lens (p' := 32) rfl rfl rfl ?_
  refine l_con (p' := 33) rfl rfl rfl ?_
  refine l_bz (p' := 34) (z := (nI (L - 4))) rfl rfl rfl rfl rfl (mI_sub (by omega)) ?_
  refine l_icmp (p' := 37) false rfl rfl ((ci_gt (by omega) (by omega)).trans (decide_eq_false (by omega))) rfl ?_
  refine l_alds (p' := 38) rfl rfl rfl rfl ?_
  refine l_ild (p' := 40) rfl rfl rfl rfl ?_
  refine l_ialz (p' := 41) (m := i) (z := (xs i)) rfl rfl (inb_nI (by omega) (by omega)) (mI_cl (by omega)) rfl rfl ?_
  refine l_bip (p' := 43) rfl rfl rfl ?_
  refine l_bz (p' := 44) (z := (nI 45)) rfl rfl rfl rfl rfl hk ?_
  refine l_sp (p' := 2380) (ls' := _) rfl rfl rfl rfl rfl ?_
  refine l_aldn (p' := 2381) rfl rfl rfl rfl ?_
  refine l_alds (p' := 2382) rfl rfl rfl rfl ?_
  refine l_ild (p' := 2384) rfl rfl rfl rfl ?_
  refine l_con (p' := 2385) rfl rfl rfl ?_
  refine l_bz (p' := 2386) (z := (nI (i + 1))) rfl rfl rfl rfl rfl (mI_add _ _) ?_
  refine l_ialz (p' := 2387) (m := (i + 1)) (z := (nI p)) rfl rfl (inb_nI (by omega) (by omega)) (mI_cl (by omega)) hx1 rfl ?_
  refine l_aldn (p' := 2388) rfl rfl rfl rfl ?_
  refine l_call (p' := 2391) (kc := 99) (ls0 := [_, _, _, _]) rfl rfl rfl rfl rfl rfl rfl rfl rfl rfl ?_
  refine s_aldn (p' := 1) rfl rfl rfl ?_
  refine s_con (p' := 2) rfl rfl ?_
  refine s_aldn (p' := 3) rfl rfl rfl ?_
  refine s_ildn (p' := 4) rfl rfl rfl ?_
  refine c_call (p' := 7) (kc := 98) (ls0 := [_, _, _]) rfl rfl rfl rfl rfl (mj_rcv_is H0) rfl rfl rfl ?_
  refine s_ildn (p' := 1) rfl rfl rfl ?_
  refine s_con (p' := 2) rfl rfl ?_
  refine s_icmp (p' := 5) false rfl ((cg_lt (w := 1) (by decide +kernel)).trans (decide_eq_false (by rw [mI_ti (by omega)]; omega))) rfl ?_
  refine s_ildn (p' := 6) rfl rfl rfl ?_
  refine s_bip (p' := 8) rfl rfl ?_
  refine s_icmp (p' := 22) true rfl ((cg_le (w := 10) (by decide +kernel)).trans (decide_eq_true (by rw [mI_ti (by omega)]; omega))) rfl ?_
  refine s_con (p' := 23) rfl rfl ?_
  refine s_istn (p' := 24) (ls' := [_, _, _]) rfl rfl rfl rfl ?_
  refine s_ildn (p' := 25) rfl rfl rfl ?_
  refine s_ildn (p' := 26) rfl rfl rfl ?_
  refine s_icmp (p' := 29) false rfl ((ch_ge (w := 1) (by decide +kernel)).trans (decide_eq_false (by rw [mI_ti (by omega)]; omega))) rfl ?_
  refine s_aldn (p' := 30) rfl rfl rfl ?_
  refine s_ildn (p' := 31) rfl rfl rfl ?_
  refine s_ildn (p' := 32) rfl rfl rfl ?_
  refine c_call (p' := 35) (kc := 97) (ls0 := [_, _, _]) rfl rfl rfl rfl rfl (mj_rcv_is H0) rfl rfl rfl ?_
  refine s_aldn (p' := 1) rfl rfl rfl ?_
  refine s_gf (p' := 4) rfl H0 rfl rfl ?_
  refine s_nonnull (p' := 18) (x := some pP) true rfl rfl rfl ?_
  refine s_aldn (p' := 19) rfl rfl rfl ?_
  refine s_gf (p' := 22) rfl H0 rfl rfl ?_
  refine s_ildn (p' := 23) rfl rfl rfl ?_
  refine s_ildn (p' := 24) rfl rfl rfl ?_
  refine s_callEV (p' := 27) (ls0 := [_, _, _, _, _, _, _]) rfl rfl rfl rfl rfl (mj_rcv_is HpP) rfl (x_few (P := pP) (M := pM) (W := pW) (by omega) (by omega) (by omega) HpP HpM HpW (by omega) (by omega) (by omega) hp1 hp) rfl rfl ?_
  rintro v16 g16 ⟨rfl, hb16, s16, hP16, m16, w16, hM16, hW16, _, _⟩
  rw [show pbE (pbR p 1) = nI 4294967295 from by rw [hR]; rfl]
  refine c_iret rfl rfl ?_
  refine s_if (p' := 38) false rfl (by decide +kernel) rfl ?_
  refine s_incz (p' := 41) (w := (nI 2)) (ls' := [_, _, _]) rfl rfl rfl (by decide +kernel) rfl rfl ?_
  refine s_goto (p' := 24) rfl rfl ?_
  refine mj_Wp.mono (k := 5) ?_ (by decide)
  refine x_fpL (x := 0) (P := pP) (M := pM) (W := pW) (by omega) (by omega) (by omega) (by omega) (by omega) (by omega) (by omega) (by omega) (by omega) hp1 hp (p - 2) 2 _ (by omega) ((hb16.2.2 0 (by omega) (by omega) (by omega)).trans H0) ⟨_, _, _, hP16, hM16, hW16⟩ (fun gx hbx hbxx => ?_)
  obtain ⟨mx, wx, flx, hPx, hMx, hWx⟩ := hbxx
  refine s_ildn (p' := 45) rfl rfl rfl ?_
  refine c_iret rfl rfl ?_
  refine s_bzL (p' := 8) (z := (Int32.toInt64 (nI (pbC p (p - 2) 2)))) rfl rfl rfl rfl ?_
  refine s_lasz (p' := 9) (m := 0) rfl rfl ((hbx.2.2 412 (by omega) (by omega) (by omega)).trans ((hb16.2.2 412 (by omega) (by omega) (by omega)).trans H412)) (by decide +kernel) rfl rfl rfl ?_
  refine s_goto (p' := 15) rfl rfl ?_
  refine s_con (p' := 16) rfl rfl ?_
  refine k_iret rfl rfl ?_
  refine l_ist (p' := 2393) (ls' := [_, _, _, _, _, _, _, _, _, _]) rfl rfl rfl rfl rfl ?_
  refine l_aldn (p' := 2394) rfl rfl rfl rfl ?_
  refine l_alds (p' := 2395) rfl rfl rfl rfl ?_
  refine l_ild (p' := 2397) rfl rfl rfl rfl ?_
  refine l_con (p' := 2398) rfl rfl rfl ?_
  refine l_bz (p' := 2399) (z := (nI (i + 1))) rfl rfl rfl rfl rfl (mI_add _ _) ?_
  refine l_ialz (p' := 2400) (m := (i + 1)) (z := (nI p)) rfl rfl (inb_nI (by omega) (by omega)) (mI_cl (by omega)) hx1 rfl ?_
  refine l_call (p' := 2403) (kc := 99) (ls0 := [_, _, _]) rfl rfl rfl rfl rfl rfl (mj_rcv_is (rd_sn rfl ((hbx.2.2 400 (by omega) (by omega) (by omega)).trans ((hb16.2.2 400 (by omega) (by omega) (by omega)).trans H400)))) rfl rfl rfl ?_
  refine s_aldn (p' := 1) rfl rfl rfl ?_
  refine s_ildn (p' := 2) rfl rfl rfl ?_
  refine s_con (p' := 3) rfl rfl ?_
  refine s_bip (p' := 5) rfl rfl ?_
  refine c_call (p' := 8) (kc := 98) (ls0 := [_, _, _]) rfl rfl rfl rfl rfl rfl rfl rfl rfl ?_
  refine s_ildn (p' := 1) rfl rfl rfl ?_
  refine s_ildn (p' := 2) rfl rfl rfl ?_
  refine s_icmp (p' := 5) false rfl ((ch_gt (w := 1) (by decide +kernel)).trans (decide_eq_false (by rw [mI_ti (by omega)]; omega))) rfl ?_
  refine s_ildn (p' := 6) rfl rfl rfl ?_
  refine s_ildn (p' := 7) rfl rfl rfl ?_
  refine s_icmp (p' := 10) false rfl ((cg_gt (w := 10) (by decide +kernel)).trans (decide_eq_false (by rw [mI_ti (by omega)]; omega))) rfl ?_
  refine s_con (p' := 11) rfl rfl ?_
  refine s_goto (p' := 15) rfl rfl ?_
  refine c_iret rfl (by decide +kernel) ?_
  refine s_if (p' := 11) false rfl (by decide +kernel) rfl ?_
  refine s_con (p' := 12) rfl rfl ?_
  refine s_goto (p' := 16) rfl rfl ?_
  refine c_call (p' := 19) (kc := 98) (ls0 := [_, _]) rfl rfl rfl rfl rfl (mj_rcv_is (rd_sn rfl ((hbx.2.2 400 (by omega) (by omega) (by omega)).trans ((hb16.2.2 400 (by omega) (by omega) (by omega)).trans H400)))) rfl rfl rfl ?_
  refine s_aldn (p' := 1) rfl rfl rfl ?_
  refine s_ildn (p' := 2) rfl rfl rfl ?_
  refine s_pfz (p' := 5) (fs' := [_, _, _, _, _, _, _, _, _, _, _]) rfl rfl (rd_sn rfl ((hbx.2.2 400 (by omega) (by omega) (by omega)).trans ((hb16.2.2 400 (by omega) (by omega) (by omega)).trans H400))) rfl rfl rfl rfl ?_
  refine s_ildn (p' := 6) rfl rfl rfl ?_
  refine s_if (p' := 13) true rfl (by decide +kernel) rfl ?_
  refine s_con (p' := 14) rfl rfl ?_
  refine c_iret rfl (by decide +kernel) ?_
  refine s_if (p' := 24) true rfl (by decide +kernel) rfl ?_
  refine s_con (p' := 25) rfl rfl ?_
  refine s_istn (p' := 26) (ls' := [_, _, _]) rfl rfl rfl rfl ?_
  refine s_ildn (p' := 27) rfl rfl rfl ?_
  refine s_ildn (p' := 28) rfl rfl rfl ?_
  refine s_callEV (p' := 31) (ls0 := [_, _, _, _, _, _, _, _, _, _]) rfl rfl rfl rfl rfl rfl rfl (y_mov (n := N) (len_s (len_s (hbx.1.trans (hb16.1.trans HL)))) (by omega) hp1 hp) rfl rfl ?_
  rintro v17 g17 ⟨rfl, hl17, hz17, he17⟩
  rw [show pbE (pbR p 1) = nI 4294967295 from by rw [hR]; rfl]
  refine s_con (p' := 32) rfl rfl ?_
  refine s_icmp (p' := 35) false rfl (by decide +kernel) rfl ?_
  refine s_incz (p' := 38) (w := (nI 2)) (ls' := [_, _, _]) rfl rfl rfl (by decide +kernel) rfl rfl ?_
  refine s_goto (p' := 26) rfl rfl ?_
  refine mj_Wp.mono (k := 5) ?_ (by decide)
  have hly := (len_b hl17 (len_s (len_s (hbx.1.trans (hb16.1.trans HL)))) rfl)
  have h4 := pbC_5 hp1 hp (p - 2) 2 (by omega)
  refine y_fpL4 (x := 400) hp1 hp (p - 2) 2 _ (by omega) (by omega) (by rw [hly]; omega) (fun gy ey1 ey2 ey3 => ?_)
  refine s_ildn (p' := 42) rfl rfl rfl ?_
  refine k_iret rfl rfl ?_
  refine l_ist (p' := 2405) (ls' := [_, _, _, _, _, _, _, _, _, _]) rfl rfl rfl rfl rfl ?_
  refine l_aldn (p' := 2406) rfl rfl rfl rfl ?_
  refine l_call (p' := 2409) (kc := 99) (ls0 := [_]) rfl rfl rfl rfl rfl rfl (mj_rcv_is (ey1 _ _ (he17 _ _ (rd_ss rfl (rd_sn rfl ((hbx.2.2 400 (by omega) (by omega) (by omega)).trans ((hb16.2.2 400 (by omega) (by omega) (by omega)).trans H400))))))) rfl rfl rfl ?_
  refine s_aldn (p' := 1) rfl rfl rfl ?_
  refine s_gf (p' := 4) rfl (ey1 _ _ (he17 _ _ (rd_ss rfl (rd_sn rfl ((hbx.2.2 400 (by omega) (by omega) (by omega)).trans ((hb16.2.2 400 (by omega) (by omega) (by omega)).trans H400)))))) rfl rfl ?_
  refine k_iret rfl rfl ?_
  refine l_ild (p' := 2411) rfl rfl rfl rfl ?_
  refine l_icmp (p' := 2416) true rfl rfl (by decide +kernel) rfl ?_
  refine l_ild (p' := 2418) rfl rfl rfl rfl ?_
  refine l_if (p' := 2421) false rfl rfl (by decide +kernel) rfl ?_
  refine l_aldn (p' := 2422) rfl rfl rfl rfl ?_
  refine l_con (p' := 2423) rfl rfl rfl ?_
  refine l_lalz (p' := 2424) (m := 0) (v := (Int32.toInt64 (nI (pbC p (p - 2) 2)))) rfl rfl (ey1 _ _ (he17 _ _ (rd_sn rfl (rd_ss rfl ((hbx.2.2 412 (by omega) (by omega) (by omega)).trans ((hb16.2.2 412 (by omega) (by omega) (by omega)).trans H412)))))) (by decide +kernel) rfl rfl rfl ?_
  refine l_ild (p' := 2426) rfl rfl rfl rfl ?_
  refine l_bzL (p' := 2427) (z := (Int32.toInt64 (nI (pbC p (p - 2) 2)))) rfl rfl rfl rfl rfl rfl ?_
  refine l_bz (p' := 2428) (z := nI 0) rfl rfl rfl rfl rfl (lcmp_self _) ?_
  refine l_if (p' := 2433) true rfl rfl (by decide +kernel) rfl ?_
  refine l_goto (p' := 2541) rfl rfl rfl ?_
  refine l_incz (p' := 2544) (w := (nI (i + 4))) (ls' := [_, _, _, _, _, _, _, _, _, _]) rfl rfl rfl rfl (mI_add _ _) rfl rfl ?_
  refine l_goto (p' := 28) rfl rfl rfl ?_
  exact hn _ _ _ _ _ ⟨(ey1 _ _ (he17 _ _ (rd_ss rfl (rd_sn rfl ((hbx.2.2 400 (by omega) (by omega) (by omega)).trans ((hb16.2.2 400 (by omega) (by omega) (by omega)).trans H400)))))), (ey1 _ _ (he17 _ _ (rd_sn rfl (rd_ss rfl ((hbx.2.2 412 (by omega) (by omega) (by omega)).trans ((hb16.2.2 412 (by omega) (by omega) (by omega)).trans H412)))))), ⟨mx, wx, _, (ey1 _ _ (he17 _ _ (rd_sn (beq_eq_false_iff_ne.mpr (by omega)) (rd_sn (beq_eq_false_iff_ne.mpr (by omega)) hPx)))), (ey1 _ _ (he17 _ _ (rd_sn (beq_eq_false_iff_ne.mpr (by omega)) (rd_sn (beq_eq_false_iff_ne.mpr (by omega)) hMx)))), (ey1 _ _ (he17 _ _ (rd_sn (beq_eq_false_iff_ne.mpr (by omega)) (rd_sn (beq_eq_false_iff_ne.mpr (by omega)) hWx))))⟩, (mz_fr.e ey1 (mz_fr.e he17 (mz_fr.s (by simp) (mz_fr.s (by simp) (mz_fr.pb HL (Or.inl (by simp)) (Or.inl (by simp)) (Or.inl (by simp)) hbx (mz_fr.pb HL (Or.inl (by simp)) (Or.inl (by simp)) (Or.inl (by simp)) hb16 (mz_fr.rf _ h))))))), (Nat.le_trans (lenb_b (K := 8) ey2 (by omega) (Nat.le_of_eq (len_b hl17 (len_s (len_s (hbx.1.trans (hb16.1.trans HL)))) rfl)) rfl) (by omega)), (Nat.le_trans (sz_b (K := 8192) ey3 (by omega) (sz_b (K := 2048) (Nat.le_of_eq hz17) (by have := pb_2 hp; omega) (sz_s rfl (rd_sn rfl ((hbx.2.2 400 (by omega) (by omega) (by omega)).trans ((hb16.2.2 400 (by omega) (by omega) (by omega)).trans H400))) rfl (sz_sA rfl ((hbx.2.2 412 (by omega) (by omega) (by omega)).trans ((hb16.2.2 412 (by omega) (by omega) (by omega)).trans H412)) (Nat.le_trans (Nat.le_of_eq hbx.2.1) (Nat.le_trans (Nat.le_of_eq hb16.2.1) (Nat.le_refl (mj_sz h)))))) rfl) rfl) (by omega))⟩
