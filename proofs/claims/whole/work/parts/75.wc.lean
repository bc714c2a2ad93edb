/-! Rounds on any state: pebbles. -/
theorem mz_fr.pb {L : List Nat} {h g k : mj_H} {P M W N : Nat} (hl : h.length = N) (hP : P ∈ L ∨ (N ≤ P ∧ P < mj_CB)) (hM : M ∈ L ∨ (N ≤ M ∧ M < mj_CB)) (hW : W ∈ L ∨ (N ≤ W ∧ W < mj_CB)) (hb : pbFr P M W g k) (f : mz_fr L h g) : mz_fr L h k := fun x hx c q => by
  have hh : ∀ Y, (Y ∈ L ∨ (N ≤ Y ∧ Y < mj_CB)) → x ≠ Y := fun Y hY e => by
    rcases hY with hY | hY
    · exact hx (e ▸ hY)
    · have := rd_len (e ▸ hY.2) q
      omega
  exact (hb.2.2 x (hh P hP) (hh M hM) (hh W hW)).trans (f x hx c q)
theorem mz_fr.e {L : List Nat} {h g k : mj_H} (he : mz_ext g k) (f : mz_fr L h g) : mz_fr L h k := fun x hx c q => he x c (f x hx c q)
theorem w_44_s0 {L i N : Nat} {xs : Nat → Int32} {h : mj_H} {l6 l7 l8 l9 : Option Value} {P : mj_H → Prop} (hL : L ≤ 2048) (hi : i + 4 ≤ L) (hN : N + 2000 < mj_CB) (hN0 : 414 ≤ N) (HL : h.length = N) (hk : xs i &&& nI 63 = nI 44) {gs pl ty wa nw nx dp ca mf : Value} {th : Int32} {sd be : Int64} {ou : Nat → Int64} {vf wf sf uf im jm : Nat → Int32} {k g : Nat} (hk20 : k ≤ 20) (hvw : ∀ j, j < 8 → wf j = vf j) (hsu : ∀ j, j < k → uf j = sf j) (him : ∀ j, j < 8 → jm j = im j) {pe pm ge gm : Value} {q : Nat} (hq6 : q ≤ 6) (hg24 : g ≤ 24) {p q0 : Nat} (hp1 : 1 ≤ p) (hp : p ≤ 10) (hq1 : 1 ≤ q0) (hq : q0 ≤ 10) {d : Nat} (hd : d < 1024) (hR : pbR p q0 = some d) (hx1 : xs (i + 1) = nI p) (hx2 : xs (i + 2) = nI q0) (H0 : mj_rd h 0 = some (.inr (0, [.ref 1, .ref 38, .ref 299, .ref 336, .ref 373, .ref 375, .ref 378, .ref 381, .ref 387, .ref 393, gs, .null, .ref 397, .ref 398, .ref 399, .long sd, .long be]))) (H400 : mj_rd h 400 = some (.inr (17, [.int th, .ref 401, .ref 402, ty, .long sd, .long be, .ref 410, wa, nw, nx, .ref 411]))) (H412 : mj_rd h 412 = some (.inl (4, (1, .inr (.inl (ou)))))) (hn : ∀ (l6 l7 l8 l9 : Option Value) (h' : mj_H), mj_rd h' 0 = some (.inr (0, [.ref 1, .ref 38, .ref 299, .ref 336, .ref 373, .ref 375, .ref 378, .ref 381, .ref 387, .ref 393, gs, .ref N, .ref 397, .ref 398, .ref 399, .long sd, .long be])) ∧ mj_rd h' 400 = some (.inr (17, [.int (nI 0), .ref 401, .ref 402, ty, .long sd, .long be, .ref 410, wa, nw, nx, .ref 411])) ∧ mj_rd h' 412 = some (.inl (4, (1, .inr (.inl ((vp_updL ou 0 (Int32.toInt64 (nI d)))))))) ∧ pbX h' N (N + 1) (N + 2) ∧ mz_fr [0, 400, 412] h h' ∧ h'.length ≤ N + 5 ∧ mj_sz h' ≤ mj_sz h + 4099 → mj_lrun L xs (28, [some (.retAddr 1), some (.ref 0), some (.ref 400), some (.ref 412), some (.ref 413), some (.int (nI (i + 4))), l6, l7, l8, l9], [], h') P) : mj_lrun L xs (28, [some (.retAddr 1), some (.ref 0), some (.ref 400), some (.ref 412), some (.ref 413), some (.int (nI i)), l6, l7, l8, l9], [], h) P := by
  refine l_ild (p' := 30) rfl rfl rfl rfl ?_
  refine l_alds (p' := 31) rfl rfl rfl rfl ?_
  refine l_lens (p' := 32) rfl rfl rfl ?_
  refine l_con (p' := 33) rfl rfl rfl ?_
  refine l_bz (p' := 34) (z := (nI (L - 4))) rfl rfl rfl rfl rfl (mI_sub (by omega)) ?_
  refine l_icmp (p' := 37) false rfl rfl ((ci_gt (by omega) (by omega)).trans (decide_eq_false (by omega))) rfl ?_
  refine l_alds (p' := 38) rfl rfl rfl rfl ?_
  refine l_ild (p' := 40) rfl rfl rfl rfl ?_
  refine l_ialz (p' := 41) (m := i) (z := (xs i)) rfl rfl (inb_nI (by omega) (by omega)) (mI_cl (by omega)) rfl rfl ?_
  refine l_bip (p' := 43) rfl rfl rfl ?_
  refine l_bz (p' := 44) (z := (nI 44)) rfl rfl rfl rfl rfl hk ?_
  refine l_sp (p' := 2312) (ls' := _) rfl rfl rfl rfl rfl ?_
  refine l_aldn (p' := 2313) rfl rfl rfl rfl ?_
  refine l_alds (p' := 2314) rfl rfl rfl rfl ?_
  refine l_ild (p' := 2316) rfl rfl rfl rfl ?_
  refine l_con (p' := 2317) rfl rfl rfl ?_
  refine l_bz (p' := 2318) (z := (nI (i + 1))) rfl rfl rfl rfl rfl (mI_add _ _) ?_
  refine l_ialz (p' := 2319) (m := (i + 1)) (z := (nI p)) rfl rfl (inb_nI (by omega) (by omega)) (mI_cl (by omega)) hx1 rfl ?_
  refine l_alds (p' := 2320) rfl rfl rfl rfl ?_
  refine l_ild (p' := 2322) rfl rfl rfl rfl ?_
  refine l_con (p' := 2323) rfl rfl rfl ?_
  refine l_bz (p' := 2324) (z := (nI (i + 2))) rfl rfl rfl rfl rfl (mI_add _ _) ?_
  refine l_ialz (p' := 2325) (m := (i + 2)) (z := (nI q0)) rfl rfl (inb_nI (by omega) (by omega)) (mI_cl (by omega)) hx2 rfl ?_
  refine l_aldn (p' := 2326) rfl rfl rfl rfl ?_
  refine l_call (p' := 2329) (kc := 99) (ls0 := [_, _, _, _, _]) rfl rfl rfl rfl rfl rfl rfl rfl rfl rfl ?_
  refine s_aldn (p' := 1) rfl rfl rfl ?_
  refine s_con (p' := 2) rfl rfl ?_
  refine s_aldn (p' := 3) rfl rfl rfl ?_
  refine s_ildn (p' := 4) rfl rfl rfl ?_
  refine s_ildn (p' := 5) rfl rfl rfl ?_
  refine c_call (p' := 8) (kc := 98) (ls0 := [_, _, _, _]) rfl rfl rfl rfl rfl (mj_rcv_is H0) rfl rfl rfl ?_
  refine s_ildn (p' := 1) rfl rfl rfl ?_
  refine s_con (p' := 2) rfl rfl ?_
  refine s_icmp (p' := 5) false rfl ((cg_lt (w := 1) (by decide +kernel)).trans (decide_eq_false (by rw [mI_ti (by omega)]; omega))) rfl ?_
  refine s_ildn (p' := 6) rfl rfl rfl ?_
  refine s_bip (p' := 8) rfl rfl ?_
  refine s_icmp (p' := 11) false rfl ((cg_gt (w := 10) (by decide +kernel)).trans (decide_eq_false (by rw [mI_ti (by omega)]; omega))) rfl ?_
  refine s_ildn (p' := 12) rfl rfl rfl ?_
  refine s_con (p' := 13) rfl rfl ?_
  refine s_icmp (p' := 16) false rfl ((cg_lt (w := 1) (by decide +kernel)).trans (decide_eq_false (by rw [mI_ti (by omega)]; omega))) rfl ?_
  refine s_ildn (p' := 17) rfl rfl rfl ?_
  refine s_bip (p' := 19) rfl rfl ?_
  refine s_icmp (p' := 33) true rfl ((cg_le (w := 10) (by decide +kernel)).trans (decide_eq_true (by rw [mI_ti (by omega)]; omega))) rfl ?_
  refine s_aldn (p' := 34) rfl rfl rfl ?_
  refine s_ildn (p' := 35) rfl rfl rfl ?_
  refine s_ildn (p' := 36) rfl rfl rfl ?_
  refine c_call (p' := 39) (kc := 97) (ls0 := [_, _, _]) rfl rfl rfl rfl rfl (mj_rcv_is H0) rfl rfl rfl ?_
  refine s_aldn (p' := 1) rfl rfl rfl ?_
  refine s_gf (p' := 4) rfl H0 rfl rfl ?_
  refine s_nonnull (p' := 7) (x := none) false rfl rfl rfl ?_
  refine s_aldn (p' := 8) rfl rfl rfl ?_
  refine s_newz (p' := 11) (a := N) rfl HL rfl rfl ?_
  refine s_dupr (p' := 12) rfl rfl ?_
  refine c_call (p' := 15) (kc := 96) (ls0 := [_]) rfl rfl rfl rfl rfl (mj_rcv_is (rd_nw (Nat.blt_eq.mpr (by omega)) HL)) rfl rfl rfl ?_
  refine s_aldn (p' := 1) rfl rfl rfl ?_
  refine s_primN (p' := 4) (q := 3) rfl rfl rfl rfl rfl rfl rfl rfl ?_
  refine s_aldn (p' := 5) rfl rfl rfl ?_
  refine s_sip (p' := 8) rfl rfl ?_
  refine s_naz (p' := 10) (a := (N + 1)) (n := 1024) rfl (len_a HL rfl) rfl rfl ?_
  refine s_pfz (p' := 13) (fs' := [_, _, _]) rfl (Nat.blt_eq.mpr (by omega)) (rd_app (rd_nw (Nat.blt_eq.mpr (by omega)) HL)) rfl rfl rfl rfl ?_
  refine s_aldn (p' := 14) rfl rfl rfl ?_
  refine s_sip (p' := 17) rfl rfl ?_
  refine s_naz (p' := 19) (a := (N + 2)) (n := 1024) rfl (len_s (len_a (len_a HL rfl) rfl)) rfl rfl ?_
  refine s_pfz (p' := 22) (fs' := [_, _, _]) rfl (Nat.blt_eq.mpr (by omega)) (rd_app (rd_ss (Nat.blt_eq.mpr (by omega)) (rd_app (rd_nw (Nat.blt_eq.mpr (by omega)) HL)))) rfl rfl rfl rfl ?_
  refine c_ret rfl ?_
  refine s_pfz (p' := 18) (fs' := [_, _, _, _, _, _, _, _, _, _, _, _, _, _, _, _, _]) rfl rfl (rd_sn (beq_eq_false_iff_ne.mpr (by omega)) (rd_app (rd_sn (beq_eq_false_iff_ne.mpr (by omega)) (rd_app (rd_app H0))))) rfl rfl rfl rfl ?_
  refine s_aldn (p' := 19) rfl rfl rfl ?_
  refine s_gf (p' := 22) rfl (rd_ss rfl (rd_sn (beq_eq_false_iff_ne.mpr (by omega)) (rd_app (rd_sn (beq_eq_false_iff_ne.mpr (by omega)) (rd_app (rd_app H0)))))) rfl rfl ?_
  refine s_ildn (p' := 23) rfl rfl rfl ?_
  refine s_ildn (p' := 24) rfl rfl rfl ?_
  refine s_callEV (p' := 27) (ls0 := [_, _, _, _, _, _, _]) rfl rfl rfl rfl rfl (mj_rcv_is (rd_sn (beq_eq_false_iff_ne.mpr (by omega)) (rd_ss (Nat.blt_eq.mpr (by omega)) (rd_app (rd_ss (Nat.blt_eq.mpr (by omega)) (rd_app (rd_nw (Nat.blt_eq.mpr (by omega)) HL))))))) rfl (x_few (P := N) (M := (N + 1)) (W := (N + 2)) (by omega) (by omega) (by omega) (rd_sn (beq_eq_false_iff_ne.mpr (by omega)) (rd_ss (Nat.blt_eq.mpr (by omega)) (rd_app (rd_ss (Nat.blt_eq.mpr (by omega)) (rd_app (rd_nw (Nat.blt_eq.mpr (by omega)) HL)))))) (rd_sn (beq_eq_false_iff_ne.mpr (by omega)) (rd_sn (beq_eq_false_iff_ne.mpr (by omega)) (rd_app (rd_sn (beq_eq_false_iff_ne.mpr (by omega)) (rd_nw (Nat.blt_eq.mpr (by omega)) (len_a HL rfl)))))) (rd_sn (beq_eq_false_iff_ne.mpr (by omega)) (rd_sn (beq_eq_false_iff_ne.mpr (by omega)) (rd_nw (Nat.blt_eq.mpr (by omega)) (len_s (len_a (len_a HL rfl) rfl))))) (by omega) (by omega) (by omega) hp1 hp) rfl rfl ?_
  rintro v1 g1 ⟨rfl, hb1, s1, hP1, m1, w1, hM1, hW1, _, _⟩
  rw [show pbE (pbR p q0) = nI d from by rw [hR]; rfl]
  refine c_iret rfl rfl ?_
  refine s_istn (p' := 40) (ls' := [_, _, _, _]) rfl rfl rfl rfl ?_
  refine s_ildn (p' := 41) rfl rfl rfl ?_
  refine s_if (p' := 55) true rfl ((cg_ge (w := 0) (by decide +kernel)).trans (decide_eq_true (by rw [mI_ti (by omega)]; omega))) rfl ?_
  refine s_ildn (p' := 56) rfl rfl rfl ?_
  refine c_iret rfl rfl ?_
  refine s_bzL (p' := 9) (z := (Int32.toInt64 (nI d))) rfl rfl rfl rfl ?_
  refine s_lasz (p' := 10) (m := 0) rfl rfl ((hb1.2.2 412 (by omega) (by omega) (by omega)).trans (rd_sn rfl (rd_sn (beq_eq_false_iff_ne.mpr (by omega)) (rd_app (rd_sn (beq_eq_false_iff_ne.mpr (by omega)) (rd_app (rd_app H412))))))) (by decide +kernel) rfl rfl rfl ?_
  refine s_goto (p' := 21) rfl rfl ?_
  refine s_con (p' := 22) rfl rfl ?_
  refine k_iret rfl rfl ?_
  refine l_ist (p' := 2331) (ls' := [_, _, _, _, _, _, _, _, _, _]) rfl rfl rfl rfl rfl ?_
  refine l_aldn (p' := 2332) rfl rfl rfl rfl ?_
  refine l_alds (p' := 2333) rfl rfl rfl rfl ?_
  refine l_ild (p' := 2335) rfl rfl rfl rfl ?_
  refine l_con (p' := 2336) rfl rfl rfl ?_
  refine l_bz (p' := 2337) (z := (nI (i + 1))) rfl rfl rfl rfl rfl (mI_add _ _) ?_
  refine l_ialz (p' := 2338) (m := (i + 1)) (z := (nI p)) rfl rfl (inb_nI (by omega) (by omega)) (mI_cl (by omega)) hx1 rfl ?_
  refine l_alds (p' := 2339) rfl rfl rfl rfl ?_
  refine l_ild (p' := 2341) rfl rfl rfl rfl ?_
  refine l_con (p' := 2342) rfl rfl rfl ?_
  refine l_bz (p' := 2343) (z := (nI (i + 2))) rfl rfl rfl rfl rfl (mI_add _ _) ?_
  refine l_ialz (p' := 2344) (m := (i + 2)) (z := (nI q0)) rfl rfl (inb_nI (by omega) (by omega)) (mI_cl (by omega)) hx2 rfl ?_
  refine l_call (p' := 2347) (kc := 99) (ls0 := [_, _, _, _]) rfl rfl rfl rfl rfl rfl (mj_rcv_is (rd_sn rfl ((hb1.2.2 400 (by omega) (by omega) (by omega)).trans (rd_sn rfl (rd_sn (beq_eq_false_iff_ne.mpr (by omega)) (rd_app (rd_sn (beq_eq_false_iff_ne.mpr (by omega)) (rd_app (rd_app H400))))))))) rfl rfl rfl ?_
  refine s_aldn (p' := 1) rfl rfl rfl ?_
  refine s_ildn (p' := 2) rfl rfl rfl ?_
  refine s_con (p' := 3) rfl rfl ?_
  refine s_bip (p' := 5) rfl rfl ?_
  refine c_call (p' := 8) (kc := 98) (ls0 := [_, _, _]) rfl rfl rfl rfl rfl rfl rfl rfl rfl ?_
  refine s_ildn (p' := 1) rfl rfl rfl ?_
  refine s_ildn (p' := 2) rfl rfl rfl ?_
  refine s_icmp (p' := 5) false rfl ((ch_gt (w := 1) (by decide +kernel)).trans (decide_eq_false (by rw [mI_ti (by omega)]; omega))) rfl ?_
  refine s_ildn (p' := 6) rfl rfl rfl ?_
  refine s_ildn (p' := 7) rfl rfl rfl ?_
  refine s_icmp (p' := 10) false rfl ((cg_gt (w := 10) (by decide +kernel)).trans (decide_eq_false (by rw [mI_ti (by omega)]; omega))) rfl ?_
  refine s_con (p' := 11) rfl rfl ?_
  refine s_goto (p' := 15) rfl rfl ?_
  refine c_iret rfl (by decide +kernel) ?_
  refine s_if (p' := 11) false rfl (by decide +kernel) rfl ?_
  refine s_ildn (p' := 12) rfl rfl rfl ?_
  refine s_con (p' := 13) rfl rfl ?_
  refine s_bip (p' := 15) rfl rfl ?_
  refine c_call (p' := 18) (kc := 98) (ls0 := [_, _, _]) rfl rfl rfl rfl rfl rfl rfl rfl rfl ?_
  refine s_ildn (p' := 1) rfl rfl rfl ?_
  refine s_ildn (p' := 2) rfl rfl rfl ?_
  refine s_icmp (p' := 5) false rfl ((ch_gt (w := 1) (by decide +kernel)).trans (decide_eq_false (by rw [mI_ti (by omega)]; omega))) rfl ?_
  refine s_ildn (p' := 6) rfl rfl rfl ?_
  refine s_ildn (p' := 7) rfl rfl rfl ?_
  refine s_icmp (p' := 10) false rfl ((cg_gt (w := 10) (by decide +kernel)).trans (decide_eq_false (by rw [mI_ti (by omega)]; omega))) rfl ?_
  refine s_con (p' := 11) rfl rfl ?_
  refine s_goto (p' := 15) rfl rfl ?_
  refine c_iret rfl (by decide +kernel) ?_
  refine s_if (p' := 21) false rfl (by decide +kernel) rfl ?_
  refine s_con (p' := 22) rfl rfl ?_
  refine s_goto (p' := 26) rfl rfl ?_
  refine c_call (p' := 29) (kc := 98) (ls0 := [_, _]) rfl rfl rfl rfl rfl (mj_rcv_is (rd_sn rfl ((hb1.2.2 400 (by omega) (by omega) (by omega)).trans (rd_sn rfl (rd_sn (beq_eq_false_iff_ne.mpr (by omega)) (rd_app (rd_sn (beq_eq_false_iff_ne.mpr (by omega)) (rd_app (rd_app H400))))))))) rfl rfl rfl ?_
  refine s_aldn (p' := 1) rfl rfl rfl ?_
  refine s_ildn (p' := 2) rfl rfl rfl ?_
  refine s_pfz (p' := 5) (fs' := [_, _, _, _, _, _, _, _, _, _, _]) rfl rfl (rd_sn rfl ((hb1.2.2 400 (by omega) (by omega) (by omega)).trans (rd_sn rfl (rd_sn (beq_eq_false_iff_ne.mpr (by omega)) (rd_app (rd_sn (beq_eq_false_iff_ne.mpr (by omega)) (rd_app (rd_app H400)))))))) rfl rfl rfl rfl ?_
  refine s_ildn (p' := 6) rfl rfl rfl ?_
  refine s_if (p' := 13) true rfl (by decide +kernel) rfl ?_
  refine s_con (p' := 14) rfl rfl ?_
  refine c_iret rfl (by decide +kernel) ?_
  refine s_if (p' := 34) true rfl (by decide +kernel) rfl ?_
  refine s_ildn (p' := 35) rfl rfl rfl ?_
  refine s_ildn (p' := 36) rfl rfl rfl ?_
  refine s_callEV (p' := 39) (ls0 := [_, _, _, _, _, _, _, _, _, _]) rfl rfl rfl rfl rfl rfl rfl (y_mov (n := (N + 3)) (len_s (len_s (hb1.1.trans (len_s (len_s (len_a (len_s (len_a (len_a HL rfl) rfl)) rfl)))))) (by omega) hp1 hp) rfl rfl ?_
  rintro v2 g2 ⟨rfl, hl2, hz2, he2⟩
  rw [show pbE (pbR p q0) = nI d from by rw [hR]; rfl]
  refine s_istn (p' := 40) (ls' := [_, _, _, _]) rfl rfl rfl rfl ?_
  refine s_aldn (p' := 41) rfl rfl rfl ?_
  refine s_ildn (p' := 42) rfl rfl rfl ?_
  refine s_con (p' := 43) rfl rfl ?_
  refine s_icmp (p' := 50) true rfl ((cg_ne (w := -1) (by decide +kernel)).trans (decide_eq_true (by rw [mI_ti (by omega)]; omega))) rfl ?_
  refine s_con (p' := 51) rfl rfl ?_
  refine c_call (p' := 54) (kc := 98) (ls0 := [_, _]) rfl rfl rfl rfl rfl (mj_rcv_is (he2 _ _ (rd_ss rfl (rd_sn rfl ((hb1.2.2 400 (by omega) (by omega) (by omega)).trans (rd_sn rfl (rd_sn (beq_eq_false_iff_ne.mpr (by omega)) (rd_app (rd_sn (beq_eq_false_iff_ne.mpr (by omega)) (rd_app (rd_app H400))))))))))) rfl rfl rfl ?_
  refine s_aldn (p' := 1) rfl rfl rfl ?_
  refine s_ildn (p' := 2) rfl rfl rfl ?_
  refine s_pfz (p' := 5) (fs' := [_, _, _, _, _, _, _, _, _, _, _]) rfl rfl (he2 _ _ (rd_ss rfl (rd_sn rfl ((hb1.2.2 400 (by omega) (by omega) (by omega)).trans (rd_sn rfl (rd_sn (beq_eq_false_iff_ne.mpr (by omega)) (rd_app (rd_sn (beq_eq_false_iff_ne.mpr (by omega)) (rd_app (rd_app H400)))))))))) rfl rfl rfl rfl ?_
  refine s_ildn (p' := 6) rfl rfl rfl ?_
  refine s_if (p' := 13) true rfl (by decide +kernel) rfl ?_
  refine s_con (p' := 14) rfl rfl ?_
  refine c_iret rfl (by decide +kernel) ?_
  refine s_if (p' := 61) true rfl (by decide +kernel) rfl ?_
  refine s_ildn (p' := 62) rfl rfl rfl ?_
  refine k_iret rfl rfl ?_
  refine l_ist (p' := 2349) (ls' := [_, _, _, _, _, _, _, _, _, _]) rfl rfl rfl rfl rfl ?_
  refine l_aldn (p' := 2350) rfl rfl rfl rfl ?_
  refine l_call (p' := 2353) (kc := 99) (ls0 := [_]) rfl rfl rfl rfl rfl rfl (mj_rcv_is (rd_ss rfl (he2 _ _ (rd_ss rfl (rd_sn rfl ((hb1.2.2 400 (by omega) (by omega) (by omega)).trans (rd_sn rfl (rd_sn (beq_eq_false_iff_ne.mpr (by omega)) (rd_app (rd_sn (beq_eq_false_iff_ne.mpr (by omega)) (rd_app (rd_app H400)))))))))))) rfl rfl rfl ?_
  refine s_aldn (p' := 1) rfl rfl rfl ?_
  refine s_gf (p' := 4) rfl (rd_ss rfl (he2 _ _ (rd_ss rfl (rd_sn rfl ((hb1.2.2 400 (by omega) (by omega) (by omega)).trans (rd_sn rfl (rd_sn (beq_eq_false_iff_ne.mpr (by omega)) (rd_app (rd_sn (beq_eq_false_iff_ne.mpr (by omega)) (rd_app (rd_app H400))))))))))) rfl rfl ?_
  refine k_iret rfl rfl ?_
  refine l_ild (p' := 2355) rfl rfl rfl rfl ?_
  refine l_icmp (p' := 2360) true rfl rfl (by decide +kernel) rfl ?_
  refine l_ild (p' := 2362) rfl rfl rfl rfl ?_
  refine l_if (p' := 2365) false rfl rfl (by decide +kernel) rfl ?_
  refine l_aldn (p' := 2366) rfl rfl rfl rfl ?_
  refine l_con (p' := 2367) rfl rfl rfl ?_
  refine l_lalz (p' := 2368) (m := 0) (v := (Int32.toInt64 (nI d))) rfl rfl (rd_sn rfl (he2 _ _ (rd_sn rfl (rd_ss rfl ((hb1.2.2 412 (by omega) (by omega) (by omega)).trans (rd_sn rfl (rd_sn (beq_eq_false_iff_ne.mpr (by omega)) (rd_app (rd_sn (beq_eq_false_iff_ne.mpr (by omega)) (rd_app (rd_app H412))))))))))) (by decide +kernel) rfl rfl rfl ?_
  refine l_ild (p' := 2370) rfl rfl rfl rfl ?_
  refine l_bzL (p' := 2371) (z := (Int32.toInt64 (nI d))) rfl rfl rfl rfl rfl rfl ?_
  refine l_bz (p' := 2372) (z := nI 0) rfl rfl rfl rfl rfl (lcmp_self _) ?_
  refine l_if (p' := 2377) true rfl rfl (by decide +kernel) rfl ?_
  refine l_goto (p' := 2541) rfl rfl rfl ?_
  refine l_incz (p' := 2544) (w := (nI (i + 4))) (ls' := [_, _, _, _, _, _, _, _, _, _]) rfl rfl rfl rfl (mI_add _ _) rfl rfl ?_
  refine l_goto (p' := 28) rfl rfl rfl ?_
  exact hn _ _ _ _ _ ⟨(rd_sn rfl (he2 _ _ (rd_sn rfl (rd_sn rfl ((hb1.2.2 0 (by omega) (by omega) (by omega)).trans (rd_ss rfl (rd_sn (beq_eq_false_iff_ne.mpr (by omega)) (rd_app (rd_sn (beq_eq_false_iff_ne.mpr (by omega)) (rd_app (rd_app H0))))))))))), (rd_ss rfl (he2 _ _ (rd_ss rfl (rd_sn rfl ((hb1.2.2 400 (by omega) (by omega) (by omega)).trans (rd_sn rfl (rd_sn (beq_eq_false_iff_ne.mpr (by omega)) (rd_app (rd_sn (beq_eq_false_iff_ne.mpr (by omega)) (rd_app (rd_app H400))))))))))), (rd_sn rfl (he2 _ _ (rd_sn rfl (rd_ss rfl ((hb1.2.2 412 (by omega) (by omega) (by omega)).trans (rd_sn rfl (rd_sn (beq_eq_false_iff_ne.mpr (by omega)) (rd_app (rd_sn (beq_eq_false_iff_ne.mpr (by omega)) (rd_app (rd_app H412))))))))))), ⟨m1, w1, _, (rd_sn (beq_eq_false_iff_ne.mpr (by omega)) (he2 _ _ (rd_sn (beq_eq_false_iff_ne.mpr (by omega)) (rd_sn (beq_eq_false_iff_ne.mpr (by omega)) hP1)))), (rd_sn (beq_eq_false_iff_ne.mpr (by omega)) (he2 _ _ (rd_sn (beq_eq_false_iff_ne.mpr (by omega)) (rd_sn (beq_eq_false_iff_ne.mpr (by omega)) hM1)))), (rd_sn (beq_eq_false_iff_ne.mpr (by omega)) (he2 _ _ (rd_sn (beq_eq_false_iff_ne.mpr (by omega)) (rd_sn (beq_eq_false_iff_ne.mpr (by omega)) hW1))))⟩, (mz_fr.s (by decide) (mz_fr.e he2 (mz_fr.s (by decide) (mz_fr.s (by decide) (mz_fr.pb HL (Or.inr ⟨by omega, by omega⟩) (Or.inr ⟨by omega, by omega⟩) (Or.inr ⟨by omega, by omega⟩) hb1 (mz_fr.s (by decide) (mz_fr.n HL (by omega) (by omega) (mz_fr.a (mz_fr.n HL (by omega) (by omega) (mz_fr.a (mz_fr.a (mz_fr.rf _ h)))))))))))), (Nat.le_trans (Nat.le_of_eq (len_s (len_b hl2 (len_s (len_s (hb1.1.trans (len_s (len_s (len_a (len_s (len_a (len_a HL rfl) rfl)) rfl)))))) rfl))) (by omega)), (Nat.le_trans (sz_s rfl (he2 _ _ (rd_ss rfl (rd_sn rfl ((hb1.2.2 400 (by omega) (by omega) (by omega)).trans (rd_sn rfl (rd_sn (beq_eq_false_iff_ne.mpr (by omega)) (rd_app (rd_sn (beq_eq_false_iff_ne.mpr (by omega)) (rd_app (rd_app H400)))))))))) rfl (sz_b (K := 2048) (Nat.le_of_eq hz2) (by have := pb_2 hp; omega) (sz_s rfl (rd_sn rfl ((hb1.2.2 400 (by omega) (by omega) (by omega)).trans (rd_sn rfl (rd_sn (beq_eq_false_iff_ne.mpr (by omega)) (rd_app (rd_sn (beq_eq_false_iff_ne.mpr (by omega)) (rd_app (rd_app H400)))))))) rfl (sz_sA rfl ((hb1.2.2 412 (by omega) (by omega) (by omega)).trans (rd_sn rfl (rd_sn (beq_eq_false_iff_ne.mpr (by omega)) (rd_app (rd_sn (beq_eq_false_iff_ne.mpr (by omega)) (rd_app (rd_app H412))))))) (Nat.le_trans (Nat.le_of_eq hb1.2.1) (sz_s rfl (rd_sn (beq_eq_false_iff_ne.mpr (by omega)) (rd_app (rd_sn (beq_eq_false_iff_ne.mpr (by omega)) (rd_app (rd_app H0))))) rfl (sz_s (Nat.blt_eq.mpr (by omega)) (rd_app (rd_ss (Nat.blt_eq.mpr (by omega)) (rd_app (rd_nw (Nat.blt_eq.mpr (by omega)) HL)))) rfl (sz_aa (k := 1024) (m := mj_sz h + 2051) rfl (by omega) (sz_s (Nat.blt_eq.mpr (by omega)) (rd_app (rd_nw (Nat.blt_eq.mpr (by omega)) HL)) rfl (sz_aa (k := 1024) (m := mj_sz h + 1027) rfl (by omega) (sz_aa (k := 3) (m := mj_sz h + 3) rfl (by omega) (Nat.le_refl (mj_sz h))))))))))) rfl)) (by omega))⟩
theorem w_44_s1 {L i N : Nat} {xs : Nat → Int32} {h : mj_H} {l6 l7 l8 l9 : Option Value} {P : mj_H → Prop} (hL : L ≤ 2048) (hi : i + 4 ≤ L) (hN : N + 2000 < mj_CB) (hN0 : 414 ≤ N) (HL : h.length = N) (hk : xs i &&& nI 63 = nI 44) {gs pl ty wa nw nx dp ca mf : Value} {th : Int32} {sd be : Int64} {ou : Nat → Int64} {vf wf sf uf im jm : Nat → Int32} {k g : Nat} (hk20 : k ≤ 20) (hvw : ∀ j, j < 8 → wf j = vf j) (hsu : ∀ j, j < k → uf j = sf j) (him : ∀ j, j < 8 → jm j = im j) {pe pm ge gm : Value} {q : Nat} (hq6 : q ≤ 6) (hg24 : g ≤ 24) {p q0 : Nat} (hp1 : 1 ≤ p) (hp : p ≤ 10) (hq1 : 1 ≤ q0) (hq : q0 ≤ 10) {pP pM pW : Nat} {pm0 pw0 : Nat → Int32} {pfl : Value} (hP0 : 414 ≤ pP ∧ pP < N) (hM0 : 414 ≤ pM ∧ pM < N) (hW0 : 414 ≤ pW ∧ pW < N) (hMP : pM ≠ pP) (hWP : pW ≠ pP) (hMW : pM ≠ pW) {d : Nat} (hd : d < 1024) (hR : pbR p q0 = some d) (hx1 : xs (i + 1) = nI p) (hx2 : xs (i + 2) = nI q0) (H0 : mj_rd h 0 = some (.inr (0, [.ref 1, .ref 38, .ref 299, .ref 336, .ref 373, .ref 375, .ref 378, .ref 381, .ref 387, .ref 393, gs, .ref pP, .ref 397, .ref 398, .ref 399, .long sd, .long be]))) (H400 : mj_rd h 400 = some (.inr (17, [.int th, .ref 401, .ref 402, ty, .long sd, .long be, .ref 410, wa, nw, nx, .ref 411]))) (H412 : mj_rd h 412 = some (.inl (4, (1, .inr (.inl (ou)))))) (HpP : mj_rd h pP = some (.inr (16, [.ref pM, .ref pW, pfl]))) (HpM : mj_rd h pM = some (.inl (0, (1024, .inl (pm0))))) (HpW : mj_rd h pW = some (.inl (0, (1024, .inl (pw0))))) (hn : ∀ (l6 l7 l8 l9 : Option Value) (h' : mj_H), mj_rd h' 400 = some (.inr (17, [.int (nI 0), .ref 401, .ref 402, ty, .long sd, .long be, .ref 410, wa, nw, nx, .ref 411])) ∧ mj_rd h' 412 = some (.inl (4, (1, .inr (.inl ((vp_updL ou 0 (Int32.toInt64 (nI d)))))))) ∧ pbX h' pP pM pW ∧ mz_fr [400, 412, pP, pM, pW] h h' ∧ h'.length ≤ N + 2 ∧ mj_sz h' ≤ mj_sz h + 2048 → mj_lrun L xs (28, [some (.retAddr 1), some (.ref 0), some (.ref 400), some (.ref 412), some (.ref 413), some (.int (nI (i + 4))), l6, l7, l8, l9], [], h') P) : mj_lrun L xs (28, [some (.retAddr 1), some (.ref 0), some (.ref 400), some (.ref 412), some (.ref 413), some (.int (nI i)), l6, l7, l8, l9], [], h) P := by
  refine l_ild (p' := 30) rfl rfl rfl rfl ?_
  refine l_alds (p' := 31) rfl rfl rfl rfl ?_
  refine l_lens (p' := 32) rfl rfl rfl ?_
  refine l_con (p' := 33) rfl rfl rfl ?_
  refine l_bz (p' := 34) (z := (nI (L - 4))) rfl rfl rfl rfl rfl (mI_sub (by omega)) ?_
  refine l_icmp (p' := 37) false rfl rfl ((ci_gt (by omega) (by omega)).trans (decide_eq_false (by omega))) rfl ?_
  refine l_alds (p' := 38) rfl rfl rfl rfl ?_
  refine l_ild (p' := 40) rfl rfl rfl rfl ?_
  refine l_ialz (p' := 41) (m := i) (z := (xs i)) rfl rfl (inb_nI (by omega) (by omega)) (mI_cl (by omega)) rfl rfl ?_
  refine l_bip (p' := 43) rfl rfl rfl ?_
  refine l_bz (p' := 44) (z := (nI 44)) rfl rfl rfl rfl rfl hk ?_
  refine l_sp (p' := 2312) (ls' := _) rfl rfl rfl rfl rfl ?_
  refine l_aldn (p' := 2313) rfl rfl rfl rfl ?_
  refine l_alds (p' := 2314) rfl rfl rfl rfl ?_
  refine l_ild (p' := 2316) rfl rfl rfl rfl ?_
  refine l_con (p' := 2317) rfl rfl rfl ?_
  refine l_bz (p' := 2318) (z := (nI (i + 1))) rfl rfl rfl rfl rfl (mI_add _ _) ?_
  refine l_ialz (p' := 2319) (m := (i + 1)) (z := (nI p)) rfl rfl (inb_nI (by omega) (by omega)) (mI_cl (by omega)) hx1 rfl ?_
  refine l_alds (p' := 2320) rfl rfl rfl rfl ?_
  refine l_ild (p' := 2322) rfl rfl rfl rfl ?_
  refine l_con (p' := 2323) rfl rfl rfl ?_
  refine l_bz (p' := 2324) (z := (nI (i + 2))) rfl rfl rfl rfl rfl (mI_add _ _) ?_
  refine l_ialz (p' := 2325) (m := (i + 2)) (z := (nI q0)) rfl rfl (inb_nI (by omega) (by omega)) (mI_cl (by omega)) hx2 rfl ?_
  refine l_aldn (p' := 2326) rfl rfl rfl rfl ?_
  refine l_call (p' := 2329) (kc := 99) (ls0 := [_, _, _, _, _]) rfl rfl rfl rfl rfl rfl rfl rfl rfl rfl ?_
  refine s_aldn (p' := 1) rfl rfl rfl ?_
  refine s_con (p' := 2) rfl rfl ?_
  refine s_aldn (p' := 3) rfl rfl rfl ?_
  refine s_ildn (p' := 4) rfl rfl rfl ?_
  refine s_ildn (p' := 5) rfl rfl rfl ?_
  refine c_call (p' := 8) (kc := 98) (ls0 := [_, _, _, _]) rfl rfl rfl rfl rfl (mj_rcv_is H0) rfl rfl rfl ?_
  refine s_ildn (p' := 1) rfl rfl rfl ?_
  refine s_con (p' := 2) rfl rfl ?_
  refine s_icmp (p' := 5) false rfl ((cg_lt (w := 1) (by decide +kernel)).trans (decide_eq_false (by rw [mI_ti (by omega)]; omega))) rfl ?_
  refine s_ildn (p' := 6) rfl rfl rfl ?_
  refine s_bip (p' := 8) rfl rfl ?_
  refine s_icmp (p' := 11) false rfl ((cg_gt (w := 10) (by decide +kernel)).trans (decide_eq_false (by rw [mI_ti (by omega)]; omega))) rfl ?_
  refine s_ildn (p' := 12) rfl rfl rfl ?_
  refine s_con (p' := 13) rfl rfl ?_
  refine s_icmp (p' := 16) false rfl ((cg_lt (w := 1) (by decide +kernel)).trans (decide_eq_false (by rw [mI_ti (by omega)]; omega))) rfl ?_
  refine s_ildn (p' := 17) rfl rfl rfl ?_
  refine s_bip (p' := 19) rfl rfl ?_
  refine s_icmp (p' := 33) true rfl ((cg_le (w := 10) (by decide +kernel)).trans (decide_eq_true (by rw [mI_ti (by omega)]; omega))) rfl ?_
  refine s_aldn (p' := 34) rfl rfl rfl ?_
  refine s_ildn (p' := 35) rfl rfl rfl ?_
  refine s_ildn (p' := 36) rfl rfl rfl ?_
  refine c_call (p' := 39) (kc := 97) (ls0 := [_, _, _]) rfl rfl rfl rfl rfl (mj_rcv_is H0) rfl rfl rfl ?_
  refine s_aldn (p' := 1) rfl rfl rfl ?_
  refine s_gf (p' := 4) rfl H0 rfl rfl ?_
  refine s_nonnull (p' := 18) (x := some pP) true rfl rfl rfl ?_
  refine s_aldn (p' := 19) rfl rfl rfl ?_
  refine s_gf (p' := 22) rfl H0 rfl rfl ?_
  refine s_ildn (p' := 23) rfl rfl rfl ?_
  refine s_ildn (p' := 24) rfl rfl rfl ?_
  refine s_callEV (p' := 27) (ls0 := [_, _, _, _, _, _, _]) rfl rfl rfl rfl rfl (mj_rcv_is HpP) rfl (x_few (P := pP) (M := pM) (W := pW) (by omega) (by omega) (by omega) HpP HpM HpW (by omega) (by omega) (by omega) hp1 hp) rfl rfl ?_
  rintro v3 g3 ⟨rfl, hb3, s3, hP3, m3, w3, hM3, hW3, _, _⟩
  rw [show pbE (pbR p q0) = nI d from by rw [hR]; rfl]
  refine c_iret rfl rfl ?_
  refine s_istn (p' := 40) (ls' := [_, _, _, _]) rfl rfl rfl rfl ?_
  refine s_ildn (p' := 41) rfl rfl rfl ?_
  refine s_if (p' := 55) true rfl ((cg_ge (w := 0) (by decide +kernel)).trans (decide_eq_true (by rw [mI_ti (by omega)]; omega))) rfl ?_
  refine s_ildn (p' := 56) rfl rfl rfl ?_
  refine c_iret rfl rfl ?_
  refine s_bzL (p' := 9) (z := (Int32.toInt64 (nI d))) rfl rfl rfl rfl ?_
  refine s_lasz (p' := 10) (m := 0) rfl rfl ((hb3.2.2 412 (by omega) (by omega) (by omega)).trans H412) (by decide +kernel) rfl rfl rfl ?_
  refine s_goto (p' := 21) rfl rfl ?_
  refine s_con (p' := 22) rfl rfl ?_
  refine k_iret rfl rfl ?_
  refine l_ist (p' := 2331) (ls' := [_, _, _, _, _, _, _, _, _, _]) rfl rfl rfl rfl rfl ?_
  refine l_aldn (p' := 2332) rfl rfl rfl rfl ?_
  refine l_alds (p' := 2333) rfl rfl rfl rfl ?_
  refine l_ild (p' := 2335) rfl rfl rfl rfl ?_
  refine l_con (p' := 2336) rfl rfl rfl ?_
  refine l_bz (p' := 2337) (z := (nI (i + 1))) rfl rfl rfl rfl rfl (mI_add _ _) ?_
  refine l_ialz (p' := 2338) (m := (i + 1)) (z := (nI p)) rfl rfl (inb_nI (by omega) (by omega)) (mI_cl (by omega)) hx1 rfl ?_
  refine l_alds (p' := 2339) rfl rfl rfl rfl ?_
  refine l_ild (p' := 2341) rfl rfl rfl rfl ?_
  refine l_con (p' := 2342) rfl rfl rfl ?_
  refine l_bz (p' := 2343) (z := (nI (i + 2))) rfl rfl rfl rfl rfl (mI_add _ _) ?_
  refine l_ialz (p' := 2344) (m := (i + 2)) (z := (nI q0)) rfl rfl (inb_nI (by omega) (by omega)) (mI_cl (by omega)) hx2 rfl ?_
  refine l_call (p' := 2347) (kc := 99) (ls0 := [_, _, _, _]) rfl rfl rfl rfl rfl rfl (mj_rcv_is (rd_sn rfl ((hb3.2.2 400 (by omega) (by omega) (by omega)).trans H400))) rfl rfl rfl ?_
  refine s_aldn (p' := 1) rfl rfl rfl ?_
  refine s_ildn (p' := 2) rfl rfl rfl ?_
  refine s_con (p' := 3) rfl rfl ?_
  refine s_bip (p' := 5) rfl rfl ?_
  refine c_call (p' := 8) (kc := 98) (ls0 := [_, _, _]) rfl rfl rfl rfl rfl rfl rfl rfl rfl ?_
  refine s_ildn (p' := 1) rfl rfl rfl ?_
  refine s_ildn (p' := 2) rfl rfl rfl ?_
  refine s_icmp (p' := 5) false rfl ((ch_gt (w := 1) (by decide +kernel)).trans (decide_eq_false (by rw [mI_ti (by omega)]; omega))) rfl ?_
  refine s_ildn (p' := 6) rfl rfl rfl ?_
  refine s_ildn (p' := 7) rfl rfl rfl ?_
  refine s_icmp (p' := 10) false rfl ((cg_gt (w := 10) (by decide +kernel)).trans (decide_eq_false (by rw [mI_ti (by omega)]; omega))) rfl ?_
  refine s_con (p' := 11) rfl rfl ?_
  refine s_goto (p' := 15) rfl rfl ?_
  refine c_iret rfl (by decide +kernel) ?_
  refine s_if (p' := 11) false rfl (by decide +kernel) rfl ?_
  refine s_ildn (p' := 12) rfl rfl rfl ?_
  refine s_con (p' := 13) rfl rfl ?_
  refine s_bip (p' := 15) rfl rfl ?_
  refine c_call (p' := 18) (kc := 98) (ls0 := [_, _, _]) rfl rfl rfl rfl rfl rfl rfl rfl rfl ?_
  refine s_ildn (p' := 1) rfl rfl rfl ?_
  refine s_ildn (p' := 2) rfl rfl rfl ?_
  refine s_icmp (p' := 5) false rfl ((ch_gt (w := 1) (by decide +kernel)).trans (decide_eq_false (by rw [mI_ti (by omega)]; omega))) rfl ?_
  refine s_ildn (p' := 6) rfl rfl rfl ?_
  refine s_ildn (p' := 7) rfl rfl rfl ?_
  refine s_icmp (p' := 10) false rfl ((cg_gt (w := 10) (by decide +kernel)).trans (decide_eq_false (by rw [mI_ti (by omega)]; omega))) rfl ?_
  refine s_con (p' := 11) rfl rfl ?_
  refine s_goto (p' := 15) rfl rfl ?_
  refine c_iret rfl (by decide +kernel) ?_
  refine s_if (p' := 21) false rfl (by decide +kernel) rfl ?_
  refine s_con (p' := 22) rfl rfl ?_
  refine s_goto (p' := 26) rfl rfl ?_
  refine c_call (p' := 29) (kc := 98) (ls0 := [_, _]) rfl rfl rfl rfl rfl (mj_rcv_is (rd_sn rfl ((hb3.2.2 400 (by omega) (by omega) (by omega)).trans H400))) rfl rfl rfl ?_
  refine s_aldn (p' := 1) rfl rfl rfl ?_
  refine s_ildn (p' := 2) rfl rfl rfl ?_
  refine s_pfz (p' := 5) (fs' := [_, _, _, _, _, _, _, _, _, _, _]) rfl rfl (rd_sn rfl ((hb3.2.2 400 (by omega) (by omega) (by omega)).trans H400)) rfl rfl rfl rfl ?_
  refine s_ildn (p' := 6) rfl rfl rfl ?_
  refine s_if (p' := 13) true rfl (by decide +kernel) rfl ?_
  refine s_con (p' := 14) rfl rfl ?_
  refine c_iret rfl (by decide +kernel) ?_
  refine s_if (p' := 34) true rfl (by decide +kernel) rfl ?_
  refine s_ildn (p' := 35) rfl rfl rfl ?_
  refine s_ildn (p' := 36) rfl rfl rfl ?_
  refine s_callEV (p' := 39) (ls0 := [_, _, _, _, _, _, _, _, _, _]) rfl rfl rfl rfl rfl rfl rfl (y_mov (n := N) (len_s (len_s (hb3.1.trans HL))) (by omega) hp1 hp) rfl rfl ?_
  rintro v4 g4 ⟨rfl, hl4, hz4, he4⟩
  rw [show pbE (pbR p q0) = nI d from by rw [hR]; rfl]
  refine s_istn (p' := 40) (ls' := [_, _, _, _]) rfl rfl rfl rfl ?_
  refine s_aldn (p' := 41) rfl rfl rfl ?_
  refine s_ildn (p' := 42) rfl rfl rfl ?_
  refine s_con (p' := 43) rfl rfl ?_
  refine s_icmp (p' := 50) true rfl ((cg_ne (w := -1) (by decide +kernel)).trans (decide_eq_true (by rw [mI_ti (by omega)]; omega))) rfl ?_
  refine s_con (p' := 51) rfl rfl ?_
  refine c_call (p' := 54) (kc := 98) (ls0 := [_, _]) rfl rfl rfl rfl rfl (mj_rcv_is (he4 _ _ (rd_ss rfl (rd_sn rfl ((hb3.2.2 400 (by omega) (by omega) (by omega)).trans H400))))) rfl rfl rfl ?_
  refine s_aldn (p' := 1) rfl rfl rfl ?_
  refine s_ildn (p' := 2) rfl rfl rfl ?_
  refine s_pfz (p' := 5) (fs' := [_, _, _, _, _, _, _, _, _, _, _]) rfl rfl (he4 _ _ (rd_ss rfl (rd_sn rfl ((hb3.2.2 400 (by omega) (by omega) (by omega)).trans H400)))) rfl rfl rfl rfl ?_
  refine s_ildn (p' := 6) rfl rfl rfl ?_
  refine s_if (p' := 13) true rfl (by decide +kernel) rfl ?_
  refine s_con (p' := 14) rfl rfl ?_
  refine c_iret rfl (by decide +kernel) ?_
  refine s_if (p' := 61) true rfl (by decide +kernel) rfl ?_
  refine s_ildn (p' := 62) rfl rfl rfl ?_
  refine k_iret rfl rfl ?_
  refine l_ist (p' := 2349) (ls' := [_, _, _, _, _, _, _, _, _, _]) rfl rfl rfl rfl rfl ?_
  refine l_aldn (p' := 2350) rfl rfl rfl rfl ?_
  refine l_call (p' := 2353) (kc := 99) (ls0 := [_]) rfl rfl rfl rfl rfl rfl (mj_rcv_is (rd_ss rfl (he4 _ _ (rd_ss rfl (rd_sn rfl ((hb3.2.2 400 (by omega) (by omega) (by omega)).trans H400)))))) rfl rfl rfl ?_
  refine s_aldn (p' := 1) rfl rfl rfl ?_
  refine s_gf (p' := 4) rfl (rd_ss rfl (he4 _ _ (rd_ss rfl (rd_sn rfl ((hb3.2.2 400 (by omega) (by omega) (by omega)).trans H400))))) rfl rfl ?_
  refine k_iret rfl rfl ?_
  refine l_ild (p' := 2355) rfl rfl rfl rfl ?_
  refine l_icmp (p' := 2360) true rfl rfl (by decide +kernel) rfl ?_
  refine l_ild (p' := 2362) rfl rfl rfl rfl ?_
  refine l_if (p' := 2365) false rfl rfl (by decide +kernel) rfl ?_
  refine l_aldn (p' := 2366) rfl rfl rfl rfl ?_
  refine l_con (p' := 2367) rfl rfl rfl ?_
  refine l_lalz (p' := 2368) (m := 0) (v := (Int32.toInt64 (nI d))) rfl rfl (rd_sn rfl (he4 _ _ (rd_sn rfl (rd_ss rfl ((hb3.2.2 412 (by omega) (by omega) (by omega)).trans H412))))) (by decide +kernel) rfl rfl rfl ?_
  refine l_ild (p' := 2370) rfl rfl rfl rfl ?_
  refine l_bzL (p' := 2371) (z := (Int32.toInt64 (nI d))) rfl rfl rfl rfl rfl rfl ?_
  refine l_bz (p' := 2372) (z := nI 0) rfl rfl rfl rfl rfl (lcmp_self _) ?_
  refine l_if (p' := 2377) true rfl rfl (by decide +kernel) rfl ?_
  refine l_goto (p' := 2541) rfl rfl rfl ?_
  refine l_incz (p' := 2544) (w := (nI (i + 4))) (ls' := [_, _, _, _, _, _, _, _, _, _]) rfl rfl rfl rfl (mI_add _ _) rfl rfl ?_
  refine l_goto (p' := 28) rfl rfl rfl ?_
  exact hn _ _ _ _ _ ⟨(rd_ss rfl (he4 _ _ (rd_ss rfl (rd_sn rfl ((hb3.2.2 400 (by omega) (by omega) (by omega)).trans H400))))), (rd_sn rfl (he4 _ _ (rd_sn rfl (rd_ss rfl ((hb3.2.2 412 (by omega) (by omega) (by omega)).trans H412))))), ⟨m3, w3, _, (rd_sn (beq_eq_false_iff_ne.mpr (by omega)) (he4 _ _ (rd_sn (beq_eq_false_iff_ne.mpr (by omega)) (rd_sn (beq_eq_false_iff_ne.mpr (by omega)) hP3)))), (rd_sn (beq_eq_false_iff_ne.mpr (by omega)) (he4 _ _ (rd_sn (beq_eq_false_iff_ne.mpr (by omega)) (rd_sn (beq_eq_false_iff_ne.mpr (by omega)) hM3)))), (rd_sn (beq_eq_false_iff_ne.mpr (by omega)) (he4 _ _ (rd_sn (beq_eq_false_iff_ne.mpr (by omega)) (rd_sn (beq_eq_false_iff_ne.mpr (by omega)) hW3))))⟩, (mz_fr.s (by simp) (mz_fr.e he4 (mz_fr.s (by simp) (mz_fr.s (by simp) (mz_fr.pb HL (Or.inl (by simp)) (Or.inl (by simp)) (Or.inl (by simp)) hb3 (mz_fr.rf _ h)))))), (Nat.le_trans (Nat.le_of_eq (len_s (len_b hl4 (len_s (len_s (hb3.1.trans HL))) rfl))) (by omega)), (Nat.le_trans (sz_s rfl (he4 _ _ (rd_ss rfl (rd_sn rfl ((hb3.2.2 400 (by omega) (by omega) (by omega)).trans H400)))) rfl (sz_b (K := 2048) (Nat.le_of_eq hz4) (by have := pb_2 hp; omega) (sz_s rfl (rd_sn rfl ((hb3.2.2 400 (by omega) (by omega) (by omega)).trans H400)) rfl (sz_sA rfl ((hb3.2.2 412 (by omega) (by omega) (by omega)).trans H412) (Nat.le_trans (Nat.le_of_eq hb3.2.1) (Nat.le_refl (mj_sz h))))) rfl)) (by omega))⟩
theorem w_44_z0 {L i N : Nat} {xs : Nat → Int32} {h : mj_H} {l6 l7 l8 l9 : Option Value} {P : mj_H → Prop} (hL : L ≤ 2048) (hi : i + 4 ≤ L) (hN : N + 2000 < mj_CB) (hN0 : 414 ≤ N) (HL : h.length = N) (hk : xs i &&& nI 63 = nI 44) {gs pl ty wa nw nx dp ca mf : Value} {th : Int32} {sd be : Int64} {ou : Nat → Int64} {vf wf sf uf im jm : Nat → Int32} {k g : Nat} (hk20 : k ≤ 20) (hvw : ∀ j, j < 8 → wf j = vf j) (hsu : ∀ j, j < k → uf j = sf j) (him : ∀ j, j < 8 → jm j = im j) {pe pm ge gm : Value} {q : Nat} (hq6 : q ≤ 6) (hg24 : g ≤ 24) {p q0 : Nat} (hp1 : 1 ≤ p) (hp : p ≤ 10) (hq1 : 1 ≤ q0) (hq : q0 ≤ 10) (hR : pbR p q0 = none) (hx1 : xs (i + 1) = nI p) (hx2 : xs (i + 2) = nI q0) (H0 : mj_rd h 0 = some (.inr (0, [.ref 1, .ref 38, .ref 299, .ref 336, .ref 373, .ref 375, .ref 378, .ref 381, .ref 387, .ref 393, gs, .null, .ref 397, .ref 398, .ref 399, .long sd, .long be]))) (H400 : mj_rd h 400 = some (.inr (17, [.int th, .ref 401, .ref 402, ty, .long sd, .long be, .ref 410, wa, nw, nx, .ref 411]))) (hn : ∀ (l6 l7 l8 l9 : Option Value) (h' : mj_H), mj_rd h' 0 = some (.inr (0, [.ref 1, .ref 38, .ref 299, .ref 336, .ref 373, .ref 375, .ref 378, .ref 381, .ref 387, .ref 393, gs, .ref N, .ref 397, .ref 398, .ref 399, .long sd, .long be])) ∧ mj_rd h' 400 = some (.inr (17, [.int (nI 2), .ref 401, .ref 402, ty, .long sd, .long be, .ref 410, wa, nw, nx, .ref 411])) ∧ pbX h' N (N + 1) (N + 2) ∧ mz_fr [0, 400] h h' ∧ h'.length ≤ N + 6 ∧ mj_sz h' ≤ mj_sz h + 4105 → mj_lrun L xs (28, [some (.retAddr 1), some (.ref 0), some (.ref 400), some (.ref 412), some (.ref 413), some (.int (nI (i + 4))), l6, l7, l8, l9], [], h') P) : mj_lrun L xs (28, [some (.retAddr 1), some (.ref 0), some (.ref 400), some (.ref 412), some (.ref 413), some (.int (nI i)), l6, l7, l8, l9], [], h) P := by
  refine l_ild (p' := 30) rfl rfl rfl rfl ?_
  refine l_alds (p' := 31) rfl rfl rfl rfl ?_
  refine l_lens (p' := 32) rfl rfl rfl ?_
  refine l_con (p' := 33) rfl rfl rfl ?_
  refine l_bz (p' := 34) (z := (nI (L - 4))) rfl rfl rfl rfl rfl (mI_sub (by omega)) ?_
  refine l_icmp (p' := 37) false rfl rfl ((ci_gt (by omega) (by omega)).trans (decide_eq_false (by omega))) rfl ?_
  refine l_alds (p' := 38) rfl rfl rfl rfl ?_
  refine l_ild (p' := 40) rfl rfl rfl rfl ?_
  refine l_ialz (p' := 41) (m := i) (z := (xs i)) rfl rfl (inb_nI (by omega) (by omega)) (mI_cl (by omega)) rfl rfl ?_
  refine l_bip (p' := 43) rfl rfl rfl ?_
  refine l_bz (p' := 44) (z := (nI 44)) rfl rfl rfl rfl rfl hk ?_
  refine l_sp (p' := 2312) (ls' := _) rfl rfl rfl rfl rfl ?_
  refine l_aldn (p' := 2313) rfl rfl rfl rfl ?_
  refine l_alds (p' := 2314) rfl rfl rfl rfl ?_
  refine l_ild (p' := 2316) rfl rfl rfl rfl ?_
  refine l_con (p' := 2317) rfl rfl rfl ?_
  refine l_bz (p' := 2318) (z := (nI (i + 1))) rfl rfl rfl rfl rfl (mI_add _ _) ?_
  refine l_ialz (p' := 2319) (m := (i + 1)) (z := (nI p)) rfl rfl (inb_nI (by omega) (by omega)) (mI_cl (by omega)) hx1 rfl ?_
  refine l_alds (p' := 2320) rfl rfl rfl rfl ?_
  refine l_ild (p' := 2322) rfl rfl rfl rfl ?_
  refine l_con (p' := 2323) rfl rfl rfl ?_
  refine l_bz (p' := 2324) (z := (nI (i + 2))) rfl rfl rfl rfl rfl (mI_add _ _) ?_
  refine l_ialz (p' := 2325) (m := (i + 2)) (z := (nI q0)) rfl rfl (inb_nI (by omega) (by omega)) (mI_cl (by omega)) hx2 rfl ?_
  refine l_aldn (p' := 2326) rfl rfl rfl rfl ?_
  refine l_call (p' := 2329) (kc := 99) (ls0 := [_, _, _, _, _]) rfl rfl rfl rfl rfl rfl rfl rfl rfl rfl ?_
  refine s_aldn (p' := 1) rfl rfl rfl ?_
  refine s_con (p' := 2) rfl rfl ?_
  refine s_aldn (p' := 3) rfl rfl rfl ?_
  refine s_ildn (p' := 4) rfl rfl rfl ?_
  refine s_ildn (p' := 5) rfl rfl rfl ?_
  refine c_call (p' := 8) (kc := 98) (ls0 := [_, _, _, _]) rfl rfl rfl rfl rfl (mj_rcv_is H0) rfl rfl rfl ?_
  refine s_ildn (p' := 1) rfl rfl rfl ?_
  refine s_con (p' := 2) rfl rfl ?_
  refine s_icmp (p' := 5) false rfl ((cg_lt (w := 1) (by decide +kernel)).trans (decide_eq_false (by rw [mI_ti (by omega)]; omega))) rfl ?_
  refine s_ildn (p' := 6) rfl rfl rfl ?_
  refine s_bip (p' := 8) rfl rfl ?_
  refine s_icmp (p' := 11) false rfl ((cg_gt (w := 10) (by decide +kernel)).trans (decide_eq_false (by rw [mI_ti (by omega)]; omega))) rfl ?_
  refine s_ildn (p' := 12) rfl rfl rfl ?_
  refine s_con (p' := 13) rfl rfl ?_
  refine s_icmp (p' := 16) false rfl ((cg_lt (w := 1) (by decide +kernel)).trans (decide_eq_false (by rw [mI_ti (by omega)]; omega))) rfl ?_
  refine s_ildn (p' := 17) rfl rfl rfl ?_
  refine s_bip (p' := 19) rfl rfl ?_
  refine s_icmp (p' := 33) true rfl ((cg_le (w := 10) (by decide +kernel)).trans (decide_eq_true (by rw [mI_ti (by omega)]; omega))) rfl ?_
  refine s_aldn (p' := 34) rfl rfl rfl ?_
  refine s_ildn (p' := 35) rfl rfl rfl ?_
  refine s_ildn (p' := 36) rfl rfl rfl ?_
  refine c_call (p' := 39) (kc := 97) (ls0 := [_, _, _]) rfl rfl rfl rfl rfl (mj_rcv_is H0) rfl rfl rfl ?_
  refine s_aldn (p' := 1) rfl rfl rfl ?_
  refine s_gf (p' := 4) rfl H0 rfl rfl ?_
  refine s_nonnull (p' := 7) (x := none) false rfl rfl rfl ?_
  refine s_aldn (p' := 8) rfl rfl rfl ?_
  refine s_newz (p' := 11) (a := N) rfl HL rfl rfl ?_
  refine s_dupr (p' := 12) rfl rfl ?_
  refine c_call (p' := 15) (kc := 96) (ls0 := [_]) rfl rfl rfl rfl rfl (mj_rcv_is (rd_nw (Nat.blt_eq.mpr (by omega)) HL)) rfl rfl rfl ?_
  refine s_aldn (p' := 1) rfl rfl rfl ?_
  refine s_primN (p' := 4) (q := 3) rfl rfl rfl rfl rfl rfl rfl rfl ?_
  refine s_aldn (p' := 5) rfl rfl rfl ?_
  refine s_sip (p' := 8) rfl rfl ?_
  refine s_naz (p' := 10) (a := (N + 1)) (n := 1024) rfl (len_a HL rfl) rfl rfl ?_
  refine s_pfz (p' := 13) (fs' := [_, _, _]) rfl (Nat.blt_eq.mpr (by omega)) (rd_app (rd_nw (Nat.blt_eq.mpr (by omega)) HL)) rfl rfl rfl rfl ?_
  refine s_aldn (p' := 14) rfl rfl rfl ?_
  refine s_sip (p' := 17) rfl rfl ?_
  refine s_naz (p' := 19) (a := (N + 2)) (n := 1024) rfl (len_s (len_a (len_a HL rfl) rfl)) rfl rfl ?_
  refine s_pfz (p' := 22) (fs' := [_, _, _]) rfl (Nat.blt_eq.mpr (by omega)) (rd_app (rd_ss (Nat.blt_eq.mpr (by omega)) (rd_app (rd_nw (Nat.blt_eq.mpr (by omega)) HL)))) rfl rfl rfl rfl ?_
  refine c_ret rfl ?_
  refine s_pfz (p' := 18) (fs' := [_, _, _, _, _, _, _, _, _, _, _, _, _, _, _, _, _]) rfl rfl (rd_sn (beq_eq_false_iff_ne.mpr (by omega)) (rd_app (rd_sn (beq_eq_false_iff_ne.mpr (by omega)) (rd_app (rd_app H0))))) rfl rfl rfl rfl ?_
  refine s_aldn (p' := 19) rfl rfl rfl ?_
  refine s_gf (p' := 22) rfl (rd_ss rfl (rd_sn (beq_eq_false_iff_ne.mpr (by omega)) (rd_app (rd_sn (beq_eq_false_iff_ne.mpr (by omega)) (rd_app (rd_app H0)))))) rfl rfl ?_
  refine s_ildn (p' := 23) rfl rfl rfl ?_
  refine s_ildn (p' := 24) rfl rfl rfl ?_
  refine s_callEV (p' := 27) (ls0 := [_, _, _, _, _, _, _]) rfl rfl rfl rfl rfl (mj_rcv_is (rd_sn (beq_eq_false_iff_ne.mpr (by omega)) (rd_ss (Nat.blt_eq.mpr (by omega)) (rd_app (rd_ss (Nat.blt_eq.mpr (by omega)) (rd_app (rd_nw (Nat.blt_eq.mpr (by omega)) HL))))))) rfl (x_few (P := N) (M := (N + 1)) (W := (N + 2)) (by omega) (by omega) (by omega) (rd_sn (beq_eq_false_iff_ne.mpr (by omega)) (rd_ss (Nat.blt_eq.mpr (by omega)) (rd_app (rd_ss (Nat.blt_eq.mpr (by omega)) (rd_app (rd_nw (Nat.blt_eq.mpr (by omega)) HL)))))) (rd_sn (beq_eq_false_iff_ne.mpr (by omega)) (rd_sn (beq_eq_false_iff_ne.mpr (by omega)) (rd_app (rd_sn (beq_eq_false_iff_ne.mpr (by omega)) (rd_nw (Nat.blt_eq.mpr (by omega)) (len_a HL rfl)))))) (rd_sn (beq_eq_false_iff_ne.mpr (by omega)) (rd_sn (beq_eq_false_iff_ne.mpr (by omega)) (rd_nw (Nat.blt_eq.mpr (by omega)) (len_s (len_a (len_a HL rfl) rfl))))) (by omega) (by omega) (by omega) hp1 hp) rfl rfl ?_
  rintro v5 g5 ⟨rfl, hb5, s5, hP5, m5, w5, hM5, hW5, _, _⟩
  rw [show pbE (pbR p q0) = nI 4294967295 from by rw [hR]; rfl]
  refine c_iret rfl rfl ?_
  refine s_istn (p' := 40) (ls' := [_, _, _, _]) rfl rfl rfl rfl ?_
  refine s_ildn (p' := 41) rfl rfl rfl ?_
  refine s_if (p' := 44) false rfl (by decide +kernel) rfl ?_
  refine s_thrz (q := (N + 3)) rfl (hb5.1.trans (len_s (len_s (len_a (len_s (len_a (len_a HL rfl) rfl)) rfl)))) rfl ?_
  refine K_c (hp := 17) (Nat.blt_eq.mpr (by omega)) (mj_ocl_is (rd_nw (Nat.blt_eq.mpr (by omega)) (hb5.1.trans (len_s (len_s (len_a (len_s (len_a (len_a HL rfl) rfl)) rfl)))))) rfl ?_
  refine s_ast (p' := 19) (ls' := [_, _, _, _, _]) rfl rfl rfl rfl ?_
  refine s_con (p' := 20) rfl rfl ?_
  refine k_iret rfl rfl ?_
  refine l_ist (p' := 2331) (ls' := [_, _, _, _, _, _, _, _, _, _]) rfl rfl rfl rfl rfl ?_
  refine l_aldn (p' := 2332) rfl rfl rfl rfl ?_
  refine l_alds (p' := 2333) rfl rfl rfl rfl ?_
  refine l_ild (p' := 2335) rfl rfl rfl rfl ?_
  refine l_con (p' := 2336) rfl rfl rfl ?_
  refine l_bz (p' := 2337) (z := (nI (i + 1))) rfl rfl rfl rfl rfl (mI_add _ _) ?_
  refine l_ialz (p' := 2338) (m := (i + 1)) (z := (nI p)) rfl rfl (inb_nI (by omega) (by omega)) (mI_cl (by omega)) hx1 rfl ?_
  refine l_alds (p' := 2339) rfl rfl rfl rfl ?_
  refine l_ild (p' := 2341) rfl rfl rfl rfl ?_
  refine l_con (p' := 2342) rfl rfl rfl ?_
  refine l_bz (p' := 2343) (z := (nI (i + 2))) rfl rfl rfl rfl rfl (mI_add _ _) ?_
  refine l_ialz (p' := 2344) (m := (i + 2)) (z := (nI q0)) rfl rfl (inb_nI (by omega) (by omega)) (mI_cl (by omega)) hx2 rfl ?_
  refine l_call (p' := 2347) (kc := 99) (ls0 := [_, _, _, _]) rfl rfl rfl rfl rfl rfl (mj_rcv_is (rd_app ((hb5.2.2 400 (by omega) (by omega) (by omega)).trans (rd_sn rfl (rd_sn (beq_eq_false_iff_ne.mpr (by omega)) (rd_app (rd_sn (beq_eq_false_iff_ne.mpr (by omega)) (rd_app (rd_app H400))))))))) rfl rfl rfl ?_
  refine s_aldn (p' := 1) rfl rfl rfl ?_
  refine s_ildn (p' := 2) rfl rfl rfl ?_
  refine s_con (p' := 3) rfl rfl ?_
  refine s_bip (p' := 5) rfl rfl ?_
  refine c_call (p' := 8) (kc := 98) (ls0 := [_, _, _]) rfl rfl rfl rfl rfl rfl rfl rfl rfl ?_
  refine s_ildn (p' := 1) rfl rfl rfl ?_
  refine s_ildn (p' := 2) rfl rfl rfl ?_
  refine s_icmp (p' := 5) false rfl ((ch_gt (w := 1) (by decide +kernel)).trans (decide_eq_false (by rw [mI_ti (by omega)]; omega))) rfl ?_
  refine s_ildn (p' := 6) rfl rfl rfl ?_
  refine s_ildn (p' := 7) rfl rfl rfl ?_
  refine s_icmp (p' := 10) false rfl ((cg_gt (w := 10) (by decide +kernel)).trans (decide_eq_false (by rw [mI_ti (by omega)]; omega))) rfl ?_
  refine s_con (p' := 11) rfl rfl ?_
  refine s_goto (p' := 15) rfl rfl ?_
  refine c_iret rfl (by decide +kernel) ?_
  refine s_if (p' := 11) false rfl (by decide +kernel) rfl ?_
  refine s_ildn (p' := 12) rfl rfl rfl ?_
  refine s_con (p' := 13) rfl rfl ?_
  refine s_bip (p' := 15) rfl rfl ?_
  refine c_call (p' := 18) (kc := 98) (ls0 := [_, _, _]) rfl rfl rfl rfl rfl rfl rfl rfl rfl ?_
  refine s_ildn (p' := 1) rfl rfl rfl ?_
  refine s_ildn (p' := 2) rfl rfl rfl ?_
  refine s_icmp (p' := 5) false rfl ((ch_gt (w := 1) (by decide +kernel)).trans (decide_eq_false (by rw [mI_ti (by omega)]; omega))) rfl ?_
  refine s_ildn (p' := 6) rfl rfl rfl ?_
  refine s_ildn (p' := 7) rfl rfl rfl ?_
  refine s_icmp (p' := 10) false rfl ((cg_gt (w := 10) (by decide +kernel)).trans (decide_eq_false (by rw [mI_ti (by omega)]; omega))) rfl ?_
  refine s_con (p' := 11) rfl rfl ?_
  refine s_goto (p' := 15) rfl rfl ?_
  refine c_iret rfl (by decide +kernel) ?_
  refine s_if (p' := 21) false rfl (by decide +kernel) rfl ?_
  refine s_con (p' := 22) rfl rfl ?_
  refine s_goto (p' := 26) rfl rfl ?_
  refine c_call (p' := 29) (kc := 98) (ls0 := [_, _]) rfl rfl rfl rfl rfl (mj_rcv_is (rd_app ((hb5.2.2 400 (by omega) (by omega) (by omega)).trans (rd_sn rfl (rd_sn (beq_eq_false_iff_ne.mpr (by omega)) (rd_app (rd_sn (beq_eq_false_iff_ne.mpr (by omega)) (rd_app (rd_app H400))))))))) rfl rfl rfl ?_
  refine s_aldn (p' := 1) rfl rfl rfl ?_
  refine s_ildn (p' := 2) rfl rfl rfl ?_
  refine s_pfz (p' := 5) (fs' := [_, _, _, _, _, _, _, _, _, _, _]) rfl rfl (rd_app ((hb5.2.2 400 (by omega) (by omega) (by omega)).trans (rd_sn rfl (rd_sn (beq_eq_false_iff_ne.mpr (by omega)) (rd_app (rd_sn (beq_eq_false_iff_ne.mpr (by omega)) (rd_app (rd_app H400)))))))) rfl rfl rfl rfl ?_
  refine s_ildn (p' := 6) rfl rfl rfl ?_
  refine s_if (p' := 13) true rfl (by decide +kernel) rfl ?_
  refine s_con (p' := 14) rfl rfl ?_
  refine c_iret rfl (by decide +kernel) ?_
  refine s_if (p' := 34) true rfl (by decide +kernel) rfl ?_
  refine s_ildn (p' := 35) rfl rfl rfl ?_
  refine s_ildn (p' := 36) rfl rfl rfl ?_
  refine s_callEV (p' := 39) (ls0 := [_, _, _, _, _, _, _, _, _, _]) rfl rfl rfl rfl rfl rfl rfl (y_mov (n := (N + 4)) (len_s (len_a (hb5.1.trans (len_s (len_s (len_a (len_s (len_a (len_a HL rfl) rfl)) rfl)))) rfl)) (by omega) hp1 hp) rfl rfl ?_
  rintro v6 g6 ⟨rfl, hl6, hz6, he6⟩
  rw [show pbE (pbR p q0) = nI 4294967295 from by rw [hR]; rfl]
  refine s_istn (p' := 40) (ls' := [_, _, _, _]) rfl rfl rfl rfl ?_
  refine s_aldn (p' := 41) rfl rfl rfl ?_
  refine s_ildn (p' := 42) rfl rfl rfl ?_
  refine s_con (p' := 43) rfl rfl ?_
  refine s_icmp (p' := 46) false rfl (by decide +kernel) rfl ?_
  refine s_con (p' := 47) rfl rfl ?_
  refine s_goto (p' := 51) rfl rfl ?_
  refine c_call (p' := 54) (kc := 98) (ls0 := [_, _]) rfl rfl rfl rfl rfl (mj_rcv_is (he6 _ _ (rd_ss rfl (rd_app ((hb5.2.2 400 (by omega) (by omega) (by omega)).trans (rd_sn rfl (rd_sn (beq_eq_false_iff_ne.mpr (by omega)) (rd_app (rd_sn (beq_eq_false_iff_ne.mpr (by omega)) (rd_app (rd_app H400))))))))))) rfl rfl rfl ?_
  refine s_aldn (p' := 1) rfl rfl rfl ?_
  refine s_ildn (p' := 2) rfl rfl rfl ?_
  refine s_pfz (p' := 5) (fs' := [_, _, _, _, _, _, _, _, _, _, _]) rfl rfl (he6 _ _ (rd_ss rfl (rd_app ((hb5.2.2 400 (by omega) (by omega) (by omega)).trans (rd_sn rfl (rd_sn (beq_eq_false_iff_ne.mpr (by omega)) (rd_app (rd_sn (beq_eq_false_iff_ne.mpr (by omega)) (rd_app (rd_app H400)))))))))) rfl rfl rfl rfl ?_
  refine s_ildn (p' := 6) rfl rfl rfl ?_
  refine s_if (p' := 9) false rfl (by decide +kernel) rfl ?_
  refine s_con (p' := 10) rfl rfl ?_
  refine s_goto (p' := 14) rfl rfl ?_
  refine c_iret rfl (by decide +kernel) ?_
  refine s_if (p' := 57) false rfl (by decide +kernel) rfl ?_
  refine s_con (p' := 58) rfl rfl ?_
  refine s_goto (p' := 62) rfl rfl ?_
  refine k_iret rfl rfl ?_
  refine l_ist (p' := 2349) (ls' := [_, _, _, _, _, _, _, _, _, _]) rfl rfl rfl rfl rfl ?_
  refine l_aldn (p' := 2350) rfl rfl rfl rfl ?_
  refine l_call (p' := 2353) (kc := 99) (ls0 := [_]) rfl rfl rfl rfl rfl rfl (mj_rcv_is (rd_ss rfl (he6 _ _ (rd_ss rfl (rd_app ((hb5.2.2 400 (by omega) (by omega) (by omega)).trans (rd_sn rfl (rd_sn (beq_eq_false_iff_ne.mpr (by omega)) (rd_app (rd_sn (beq_eq_false_iff_ne.mpr (by omega)) (rd_app (rd_app H400)))))))))))) rfl rfl rfl ?_
  refine s_aldn (p' := 1) rfl rfl rfl ?_
  refine s_gf (p' := 4) rfl (rd_ss rfl (he6 _ _ (rd_ss rfl (rd_app ((hb5.2.2 400 (by omega) (by omega) (by omega)).trans (rd_sn rfl (rd_sn (beq_eq_false_iff_ne.mpr (by omega)) (rd_app (rd_sn (beq_eq_false_iff_ne.mpr (by omega)) (rd_app (rd_app H400))))))))))) rfl rfl ?_
  refine k_iret rfl rfl ?_
  refine l_ild (p' := 2355) rfl rfl rfl rfl ?_
  refine l_icmp (p' := 2360) true rfl rfl (by decide +kernel) rfl ?_
  refine l_ild (p' := 2362) rfl rfl rfl rfl ?_
  refine l_if (p' := 2377) true rfl rfl (by decide +kernel) rfl ?_
  refine l_goto (p' := 2541) rfl rfl rfl ?_
  refine l_incz (p' := 2544) (w := (nI (i + 4))) (ls' := [_, _, _, _, _, _, _, _, _, _]) rfl rfl rfl rfl (mI_add _ _) rfl rfl ?_
  refine l_goto (p' := 28) rfl rfl rfl ?_
  exact hn _ _ _ _ _ ⟨(rd_sn rfl (he6 _ _ (rd_sn rfl (rd_app ((hb5.2.2 0 (by omega) (by omega) (by omega)).trans (rd_ss rfl (rd_sn (beq_eq_false_iff_ne.mpr (by omega)) (rd_app (rd_sn (beq_eq_false_iff_ne.mpr (by omega)) (rd_app (rd_app H0))))))))))), (rd_ss rfl (he6 _ _ (rd_ss rfl (rd_app ((hb5.2.2 400 (by omega) (by omega) (by omega)).trans (rd_sn rfl (rd_sn (beq_eq_false_iff_ne.mpr (by omega)) (rd_app (rd_sn (beq_eq_false_iff_ne.mpr (by omega)) (rd_app (rd_app H400))))))))))), ⟨m5, w5, _, (rd_sn (beq_eq_false_iff_ne.mpr (by omega)) (he6 _ _ (rd_sn (beq_eq_false_iff_ne.mpr (by omega)) (rd_app hP5)))), (rd_sn (beq_eq_false_iff_ne.mpr (by omega)) (he6 _ _ (rd_sn (beq_eq_false_iff_ne.mpr (by omega)) (rd_app hM5)))), (rd_sn (beq_eq_false_iff_ne.mpr (by omega)) (he6 _ _ (rd_sn (beq_eq_false_iff_ne.mpr (by omega)) (rd_app hW5))))⟩, (mz_fr.s (by decide) (mz_fr.e he6 (mz_fr.s (by decide) (mz_fr.a (mz_fr.pb HL (Or.inr ⟨by omega, by omega⟩) (Or.inr ⟨by omega, by omega⟩) (Or.inr ⟨by omega, by omega⟩) hb5 (mz_fr.s (by decide) (mz_fr.n HL (by omega) (by omega) (mz_fr.a (mz_fr.n HL (by omega) (by omega) (mz_fr.a (mz_fr.a (mz_fr.rf _ h)))))))))))), (Nat.le_trans (Nat.le_of_eq (len_s (len_b hl6 (len_s (len_a (hb5.1.trans (len_s (len_s (len_a (len_s (len_a (len_a HL rfl) rfl)) rfl)))) rfl)) rfl))) (by omega)), (Nat.le_trans (sz_s rfl (he6 _ _ (rd_ss rfl (rd_app ((hb5.2.2 400 (by omega) (by omega) (by omega)).trans (rd_sn rfl (rd_sn (beq_eq_false_iff_ne.mpr (by omega)) (rd_app (rd_sn (beq_eq_false_iff_ne.mpr (by omega)) (rd_app (rd_app H400)))))))))) rfl (sz_b (K := 2048) (Nat.le_of_eq hz6) (by have := pb_2 hp; omega) (sz_s rfl (rd_app ((hb5.2.2 400 (by omega) (by omega) (by omega)).trans (rd_sn rfl (rd_sn (beq_eq_false_iff_ne.mpr (by omega)) (rd_app (rd_sn (beq_eq_false_iff_ne.mpr (by omega)) (rd_app (rd_app H400)))))))) rfl (sz_aa (k := 6) (m := mj_sz h + 2057) rfl (by omega) (Nat.le_trans (Nat.le_of_eq hb5.2.1) (sz_s rfl (rd_sn (beq_eq_false_iff_ne.mpr (by omega)) (rd_app (rd_sn (beq_eq_false_iff_ne.mpr (by omega)) (rd_app (rd_app H0))))) rfl (sz_s (Nat.blt_eq.mpr (by omega)) (rd_app (rd_ss (Nat.blt_eq.mpr (by omega)) (rd_app (rd_nw (Nat.blt_eq.mpr (by omega)) HL)))) rfl (sz_aa (k := 1024) (m := mj_sz h + 2051) rfl (by omega) (sz_s (Nat.blt_eq.mpr (by omega)) (rd_app (rd_nw (Nat.blt_eq.mpr (by omega)) HL)) rfl (sz_aa (k := 1024) (m := mj_sz h + 1027) rfl (by omega) (sz_aa (k := 3) (m := mj_sz h + 3) rfl (by omega) (Nat.le_refl (mj_sz h))))))))))) rfl)) (by omega))⟩
theorem w_44_z1 {L i N : Nat} {xs : Nat → Int32} {h : mj_H} {l6 l7 l8 l9 : Option Value} {P : mj_H → Prop} (hL : L ≤ 2048) (hi : i + 4 ≤ L) (hN : N + 2000 < mj_CB) (hN0 : 414 ≤ N) (HL : h.length = N) (hk : xs i &&& nI 63 = nI 44) {gs pl ty wa nw nx dp ca mf : Value} {th : Int32} {sd be : Int64} {ou : Nat → Int64} {vf wf sf uf im jm : Nat → Int32} {k g : Nat} (hk20 : k ≤ 20) (hvw : ∀ j, j < 8 → wf j = vf j) (hsu : ∀ j, j < k → uf j = sf j) (him : ∀ j, j < 8 → jm j = im j) {pe pm ge gm : Value} {q : Nat} (hq6 : q ≤ 6) (hg24 : g ≤ 24) {p q0 : Nat} (hp1 : 1 ≤ p) (hp : p ≤ 10) (hq1 : 1 ≤ q0) (hq : q0 ≤ 10) {pP pM pW : Nat} {pm0 pw0 : Nat → Int32} {pfl : Value} (hP0 : 414 ≤ pP ∧ pP < N) (hM0 : 414 ≤ pM ∧ pM < N) (hW0 : 414 ≤ pW ∧ pW < N) (hMP : pM ≠ pP) (hWP : pW ≠ pP) (hMW : pM ≠ pW) (hR : pbR p q0 = none) (hx1 : xs (i + 1) = nI p) (hx2 : xs (i + 2) = nI q0) (H0 : mj_rd h 0 = some (.inr (0, [.ref 1, .ref 38, .ref 299, .ref 336, .ref 373, .ref 375, .ref 378, .ref 381, .ref 387, .ref 393, gs, .ref pP, .ref 397, .ref 398, .ref 399, .long sd, .long be]))) (H400 : mj_rd h 400 = some (.inr (17, [.int th, .ref 401, .ref 402, ty, .long sd, .long be, .ref 410, wa, nw, nx, .ref 411]))) (HpP : mj_rd h pP = some (.inr (16, [.ref pM, .ref pW, pfl]))) (HpM : mj_rd h pM = some (.inl (0, (1024, .inl (pm0))))) (HpW : mj_rd h pW = some (.inl (0, (1024, .inl (pw0))))) (hn : ∀ (l6 l7 l8 l9 : Option Value) (h' : mj_H), mj_rd h' 400 = some (.inr (17, [.int (nI 2), .ref 401, .ref 402, ty, .long sd, .long be, .ref 410, wa, nw, nx, .ref 411])) ∧ pbX h' pP pM pW ∧ mz_fr [400, pP, pM, pW] h h' ∧ h'.length ≤ N + 3 ∧ mj_sz h' ≤ mj_sz h + 2054 → mj_lrun L xs (28, [some (.retAddr 1), some (.ref 0), some (.ref 400), some (.ref 412), some (.ref 413), some (.int (nI (i + 4))), l6, l7, l8, l9], [], h') P) : mj_lrun L xs (28, [some (.retAddr 1), some (.ref 0), some (.ref 400), some (.ref 412), some (.ref 413), some (.int (nI i)), l6, l7, l8, l9], [], h) P := by
  refine l_ild (p' := 30) rfl rfl rfl rfl ?_
  refine l_alds (p' := 31) rfl rfl rfl rfl ?_
  refine l_lens (p' := 32) rfl rfl rfl ?_
  refine l_con (p' := 33) rfl rfl rfl ?_
  refine l_bz (p' := 34) (z := (nI (L - 4))) rfl rfl rfl rfl rfl (mI_sub (by omega)) ?_
  refine l_icmp (p' := 37) false rfl rfl ((ci_gt (by omega) (by omega)).trans (decide_eq_false (by omega))) rfl ?_
  refine l_alds (p' := 38) rfl rfl rfl rfl ?_
  refine l_ild (p' := 40) rfl rfl rfl rfl ?_
  refine l_ialz (p' := 41) (m := i) (z := (xs i)) rfl rfl (inb_nI (by omega) (by omega)) (mI_cl (by omega)) rfl rfl ?_
  refine l_bip (p' := 43) rfl rfl rfl ?_
  refine l_bz (p' := 44) (z := (nI 44)) rfl rfl rfl rfl rfl hk ?_
  refine l_sp (p' := 2312) (ls' := _) rfl rfl rfl rfl rfl ?_
  refine l_aldn (p' := 2313) rfl rfl rfl rfl ?_
  refine l_alds (p' := 2314) rfl rfl rfl rfl ?_
  refine l_ild (p' := 2316) rfl rfl rfl rfl ?_
  refine l_con (p' := 2317) rfl rfl rfl ?_
  refine l_bz (p' := 2318) (z := (nI (i + 1))) rfl rfl rfl rfl rfl (mI_add _ _) ?_
  refine l_ialz (p' := 2319) (m := (i + 1)) (z := (nI p)) rfl rfl (inb_nI (by omega) (by omega)) (mI_cl (by omega)) hx1 rfl ?_
  refine l_alds (p' := 2320) rfl rfl rfl rfl ?_
  refine l_ild (p' := 2322) rfl rfl rfl rfl ?_
  refine l_con (p' := 2323) rfl rfl rfl ?_
  refine l_bz (p' := 2324) (z := (nI (i + 2))) rfl rfl rfl rfl rfl (mI_add _ _) ?_
  refine l_ialz (p' := 2325) (m := (i + 2)) (z := (nI q0)) rfl rfl (inb_nI (by omega) (by omega)) (mI_cl (by omega)) hx2 rfl ?_
  refine l_aldn (p' := 2326) rfl rfl rfl rfl ?_
  refine l_call (p' := 2329) (kc := 99) (ls0 := [_, _, _, _, _]) rfl rfl rfl rfl rfl rfl rfl rfl rfl rfl ?_
  refine s_aldn (p' := 1) rfl rfl rfl ?_
  refine s_con (p' := 2) rfl rfl ?_
  refine s_aldn (p' := 3) rfl rfl rfl ?_
  refine s_ildn (p' := 4) rfl rfl rfl ?_
  refine s_ildn (p' := 5) rfl rfl rfl ?_
  refine c_call (p' := 8) (kc := 98) (ls0 := [_, _, _, _]) rfl rfl rfl rfl rfl (mj_rcv_is H0) rfl rfl rfl ?_
  refine s_ildn (p' := 1) rfl rfl rfl ?_
  refine s_con (p' := 2) rfl rfl ?_
  refine s_icmp (p' := 5) false rfl ((cg_lt (w := 1) (by decide +kernel)).trans (decide_eq_false (by rw [mI_ti (by omega)]; omega))) rfl ?_
  refine s_ildn (p' := 6) rfl rfl rfl ?_
  refine s_bip (p' := 8) rfl rfl ?_
  refine s_icmp (p' := 11) false rfl ((cg_gt (w := 10) (by decide +kernel)).trans (decide_eq_false (by rw [mI_ti (by omega)]; omega))) rfl ?_
  refine s_ildn (p' := 12) rfl rfl rfl ?_
  refine s_con (p' := 13) rfl rfl ?_
  refine s_icmp (p' := 16) false rfl ((cg_lt (w := 1) (by decide +kernel)).trans (decide_eq_false (by rw [mI_ti (by omega)]; omega))) rfl ?_
  refine s_ildn (p' := 17) rfl rfl rfl ?_
  refine s_bip (p' := 19) rfl rfl ?_
  refine s_icmp (p' := 33) true rfl ((cg_le (w := 10) (by decide +kernel)).trans (decide_eq_true (by rw [mI_ti (by omega)]; omega))) rfl ?_
  refine s_aldn (p' := 34) rfl rfl rfl ?_
  refine s_ildn (p' := 35) rfl rfl rfl ?_
  refine s_ildn (p' := 36) rfl rfl rfl ?_
  refine c_call (p' := 39) (kc := 97) (ls0 := [_, _, _]) rfl rfl rfl rfl rfl (mj_rcv_is H0) rfl rfl rfl ?_
  refine s_aldn (p' := 1) rfl rfl rfl ?_
  refine s_gf (p' := 4) rfl H0 rfl rfl ?_
  refine s_nonnull (p' := 18) (x := some pP) true rfl rfl rfl ?_
  refine s_aldn (p' := 19) rfl rfl rfl ?_
  refine s_gf (p' := 22) rfl H0 rfl rfl ?_
  refine s_ildn (p' := 23) rfl rfl rfl ?_
  refine s_ildn (p' := 24) rfl rfl rfl ?_
  refine s_callEV (p' := 27) (ls0 := [_, _, _, _, _, _, _]) rfl rfl rfl rfl rfl (mj_rcv_is HpP) rfl (x_few (P := pP) (M := pM) (W := pW) (by omega) (by omega) (by omega) HpP HpM HpW (by omega) (by omega) (by omega) hp1 hp) rfl rfl ?_
  rintro v7 g7 ⟨rfl, hb7, s7, hP7, m7, w7, hM7, hW7, _, _⟩
  rw [show pbE (pbR p q0) = nI 4294967295 from by rw [hR]; rfl]
  refine c_iret rfl rfl ?_
  refine s_istn (p' := 40) (ls' := [_, _, _, _]) rfl rfl rfl rfl ?_
  refine s_ildn (p' := 41) rfl rfl rfl ?_
  refine s_if (p' := 44) false rfl (by decide +kernel) rfl ?_
  refine s_thrz (q := N) rfl (hb7.1.trans HL) rfl ?_
  refine K_c (hp := 17) (Nat.blt_eq.mpr (by omega)) (mj_ocl_is (rd_nw (Nat.blt_eq.mpr (by omega)) (hb7.1.trans HL))) rfl ?_
  refine s_ast (p' := 19) (ls' := [_, _, _, _, _]) rfl rfl rfl rfl ?_
  refine s_con (p' := 20) rfl rfl ?_
  refine k_iret rfl rfl ?_
  refine l_ist (p' := 2331) (ls' := [_, _, _, _, _, _, _, _, _, _]) rfl rfl rfl rfl rfl ?_
  refine l_aldn (p' := 2332) rfl rfl rfl rfl ?_
  refine l_alds (p' := 2333) rfl rfl rfl rfl ?_
  refine l_ild (p' := 2335) rfl rfl rfl rfl ?_
  refine l_con (p' := 2336) rfl rfl rfl ?_
  refine l_bz (p' := 2337) (z := (nI (i + 1))) rfl rfl rfl rfl rfl (mI_add _ _) ?_
  refine l_ialz (p' := 2338) (m := (i + 1)) (z := (nI p)) rfl rfl (inb_nI (by omega) (by omega)) (mI_cl (by omega)) hx1 rfl ?_
  refine l_alds (p' := 2339) rfl rfl rfl rfl ?_
  refine l_ild (p' := 2341) rfl rfl rfl rfl ?_
  refine l_con (p' := 2342) rfl rfl rfl ?_
  refine l_bz (p' := 2343) (z := (nI (i + 2))) rfl rfl rfl rfl rfl (mI_add _ _) ?_
  refine l_ialz (p' := 2344) (m := (i + 2)) (z := (nI q0)) rfl rfl (inb_nI (by omega) (by omega)) (mI_cl (by omega)) hx2 rfl ?_
  refine l_call (p' := 2347) (kc := 99) (ls0 := [_, _, _, _]) rfl rfl rfl rfl rfl rfl (mj_rcv_is (rd_app ((hb7.2.2 400 (by omega) (by omega) (by omega)).trans H400))) rfl rfl rfl ?_
  refine s_aldn (p' := 1) rfl rfl rfl ?_
  refine s_ildn (p' := 2) rfl rfl rfl ?_
  refine s_con (p' := 3) rfl rfl ?_
  refine s_bip (p' := 5) rfl rfl ?_
  refine c_call (p' := 8) (kc := 98) (ls0 := [_, _, _]) rfl rfl rfl rfl rfl rfl rfl rfl rfl ?_
  refine s_ildn (p' := 1) rfl rfl rfl ?_
  refine s_ildn (p' := 2) rfl rfl rfl ?_
  refine s_icmp (p' := 5) false rfl ((ch_gt (w := 1) (by decide +kernel)).trans (decide_eq_false (by rw [mI_ti (by omega)]; omega))) rfl ?_
  refine s_ildn (p' := 6) rfl rfl rfl ?_
  refine s_ildn (p' := 7) rfl rfl rfl ?_
  refine s_icmp (p' := 10) false rfl ((cg_gt (w := 10) (by decide +kernel)).trans (decide_eq_false (by rw [mI_ti (by omega)]; omega))) rfl ?_
  refine s_con (p' := 11) rfl rfl ?_
  refine s_goto (p' := 15) rfl rfl ?_
  refine c_iret rfl (by decide +kernel) ?_
  refine s_if (p' := 11) false rfl (by decide +kernel) rfl ?_
  refine s_ildn (p' := 12) rfl rfl rfl ?_
  refine s_con (p' := 13) rfl rfl ?_
  refine s_bip (p' := 15) rfl rfl ?_
  refine c_call (p' := 18) (kc := 98) (ls0 := [_, _, _]) rfl rfl rfl rfl rfl rfl rfl rfl rfl ?_
  refine s_ildn (p' := 1) rfl rfl rfl ?_
  refine s_ildn (p' := 2) rfl rfl rfl ?_
  refine s_icmp (p' := 5) false rfl ((ch_gt (w := 1) (by decide +kernel)).trans (decide_eq_false (by rw [mI_ti (by omega)]; omega))) rfl ?_
  refine s_ildn (p' := 6) rfl rfl rfl ?_
  refine s_ildn (p' := 7) rfl rfl rfl ?_
  refine s_icmp (p' := 10) false rfl ((cg_gt (w := 10) (by decide +kernel)).trans (decide_eq_false (by rw [mI_ti (by omega)]; omega))) rfl ?_
  refine s_con (p' := 11) rfl rfl ?_
  refine s_goto (p' := 15) rfl rfl ?_
  refine c_iret rfl (by decide +kernel) ?_
  refine s_if (p' := 21) false rfl (by decide +kernel) rfl ?_
  refine s_con (p' := 22) rfl rfl ?_
  refine s_goto (p' := 26) rfl rfl ?_
  refine c_call (p' := 29) (kc := 98) (ls0 := [_, _]) rfl rfl rfl rfl rfl (mj_rcv_is (rd_app ((hb7.2.2 400 (by omega) (by omega) (by omega)).trans H400))) rfl rfl rfl ?_
  refine s_aldn (p' := 1) rfl rfl rfl ?_
  refine s_ildn (p' := 2) rfl rfl rfl ?_
  refine s_pfz (p' := 5) (fs' := [_, _, _, _, _, _, _, _, _, _, _]) rfl rfl (rd_app ((hb7.2.2 400 (by omega) (by omega) (by omega)).trans H400)) rfl rfl rfl rfl ?_
  refine s_ildn (p' := 6) rfl rfl rfl ?_
  refine s_if (p' := 13) true rfl (by decide +kernel) rfl ?_
  refine s_con (p' := 14) rfl rfl ?_
  refine c_iret rfl (by decide +kernel) ?_
  refine s_if (p' := 34) true rfl (by decide +kernel) rfl ?_
  refine s_ildn (p' := 35) rfl rfl rfl ?_
  refine s_ildn (p' := 36) rfl rfl rfl ?_
  refine s_callEV (p' := 39) (ls0 := [_, _, _, _, _, _, _, _, _, _]) rfl rfl rfl rfl rfl rfl rfl (y_mov (n := (N + 1)) (len_s (len_a (hb7.1.trans HL) rfl)) (by omega) hp1 hp) rfl rfl ?_
  rintro v8 g8 ⟨rfl, hl8, hz8, he8⟩
  rw [show pbE (pbR p q0) = nI 4294967295 from by rw [hR]; rfl]
  refine s_istn (p' := 40) (ls' := [_, _, _, _]) rfl rfl rfl rfl ?_
  refine s_aldn (p' := 41) rfl rfl rfl ?_
  refine s_ildn (p' := 42) rfl rfl rfl ?_
  refine s_con (p' := 43) rfl rfl ?_
  refine s_icmp (p' := 46) false rfl (by decide +kernel) rfl ?_
  refine s_con (p' := 47) rfl rfl ?_
  refine s_goto (p' := 51) rfl rfl ?_
  refine c_call (p' := 54) (kc := 98) (ls0 := [_, _]) rfl rfl rfl rfl rfl (mj_rcv_is (he8 _ _ (rd_ss rfl (rd_app ((hb7.2.2 400 (by omega) (by omega) (by omega)).trans H400))))) rfl rfl rfl ?_
  refine s_aldn (p' := 1) rfl rfl rfl ?_
  refine s_ildn (p' := 2) rfl rfl rfl ?_
  refine s_pfz (p' := 5) (fs' := [_, _, _, _, _, _, _, _, _, _, _]) rfl rfl (he8 _ _ (rd_ss rfl (rd_app ((hb7.2.2 400 (by omega) (by omega) (by omega)).trans H400)))) rfl rfl rfl rfl ?_
  refine s_ildn (p' := 6) rfl rfl rfl ?_
  refine s_if (p' := 9) false rfl (by decide +kernel) rfl ?_
  refine s_con (p' := 10) rfl rfl ?_
  refine s_goto (p' := 14) rfl rfl ?_
  refine c_iret rfl (by decide +kernel) ?_
  refine s_if (p' := 57) false rfl (by decide +kernel) rfl ?_
  refine s_con (p' := 58) rfl rfl ?_
  refine s_goto (p' := 62) rfl rfl ?_
  refine k_iret rfl rfl ?_
  refine l_ist (p' := 2349) (ls' := [_, _, _, _, _, _, _, _, _, _]) rfl rfl rfl rfl rfl ?_
  refine l_aldn (p' := 2350) rfl rfl rfl rfl ?_
  refine l_call (p' := 2353) (kc := 99) (ls0 := [_]) rfl rfl rfl rfl rfl rfl (mj_rcv_is (rd_ss rfl (he8 _ _ (rd_ss rfl (rd_app ((hb7.2.2 400 (by omega) (by omega) (by omega)).trans H400)))))) rfl rfl rfl ?_
  refine s_aldn (p' := 1) rfl rfl rfl ?_
  refine s_gf (p' := 4) rfl (rd_ss rfl (he8 _ _ (rd_ss rfl (rd_app ((hb7.2.2 400 (by omega) (by omega) (by omega)).trans H400))))) rfl rfl ?_
  refine k_iret rfl rfl ?_
  refine l_ild (p' := 2355) rfl rfl rfl rfl ?_
  refine l_icmp (p' := 2360) true rfl rfl (by decide +kernel) rfl ?_
  refine l_ild (p' := 2362) rfl rfl rfl rfl ?_
  refine l_if (p' := 2377) true rfl rfl (by decide +kernel) rfl ?_
  refine l_goto (p' := 2541) rfl rfl rfl ?_
  refine l_incz (p' := 2544) (w := (nI (i + 4))) (ls' := [_, _, _, _, _, _, _, _, _, _]) rfl rfl rfl rfl (mI_add _ _) rfl rfl ?_
  refine l_goto (p' := 28) rfl rfl rfl ?_
  exact hn _ _ _ _ _ ⟨(rd_ss rfl (he8 _ _ (rd_ss rfl (rd_app ((hb7.2.2 400 (by omega) (by omega) (by omega)).trans H400))))), ⟨m7, w7, _, (rd_sn (beq_eq_false_iff_ne.mpr (by omega)) (he8 _ _ (rd_sn (beq_eq_false_iff_ne.mpr (by omega)) (rd_app hP7)))), (rd_sn (beq_eq_false_iff_ne.mpr (by omega)) (he8 _ _ (rd_sn (beq_eq_false_iff_ne.mpr (by omega)) (rd_app hM7)))), (rd_sn (beq_eq_false_iff_ne.mpr (by omega)) (he8 _ _ (rd_sn (beq_eq_false_iff_ne.mpr (by omega)) (rd_app hW7))))⟩, (mz_fr.s (by simp) (mz_fr.e he8 (mz_fr.s (by simp) (mz_fr.a (mz_fr.pb HL (Or.inl (by simp)) (Or.inl (by simp)) (Or.inl (by simp)) hb7 (mz_fr.rf _ h)))))), (Nat.le_trans (Nat.le_of_eq (len_s (len_b hl8 (len_s (len_a (hb7.1.trans HL) rfl)) rfl))) (by omega)), (Nat.le_trans (sz_s rfl (he8 _ _ (rd_ss rfl (rd_app ((hb7.2.2 400 (by omega) (by omega) (by omega)).trans H400)))) rfl (sz_b (K := 2048) (Nat.le_of_eq hz8) (by have := pb_2 hp; omega) (sz_s rfl (rd_app ((hb7.2.2 400 (by omega) (by omega) (by omega)).trans H400)) rfl (sz_aa (k := 6) (m := mj_sz h + 6) rfl (by omega) (Nat.le_trans (Nat.le_of_eq hb7.2.1) (Nat.le_refl (mj_sz h))))) rfl)) (by omega))⟩
theorem w_44_n {L i N : Nat} {xs : Nat → Int32} {h : mj_H} {l6 l7 l8 l9 : Option Value} {P : mj_H → Prop} (hL : L ≤ 2048) (hi : i + 4 ≤ L) (hN : N + 2000 < mj_CB) (hN0 : 414 ≤ N) (HL : h.length = N) (hk : xs i &&& nI 63 = nI 44) {gs pl ty wa nw nx dp ca mf : Value} {th : Int32} {sd be : Int64} {ou : Nat → Int64} {vf wf sf uf im jm : Nat → Int32} {k g : Nat} (hk20 : k ≤ 20) (hvw : ∀ j, j < 8 → wf j = vf j) (hsu : ∀ j, j < k → uf j = sf j) (him : ∀ j, j < 8 → jm j = im j) {pe pm ge gm : Value} {q : Nat} (hq6 : q ≤ 6) (hg24 : g ≤ 24) {p : Int32} (hp : p.toInt < 1) (hx1 : xs (i + 1) = p) (H0 : mj_rd h 0 = some (.inr (0, [.ref 1, .ref 38, .ref 299, .ref 336, .ref 373, .ref 375, .ref 378, .ref 381, .ref 387, .ref 393, gs, pl, .ref 397, .ref 398, .ref 399, .long sd, .long be]))) (H400 : mj_rd h 400 = some (.inr (17, [.int th, .ref 401, .ref 402, ty, .long sd, .long be, .ref 410, wa, nw, nx, .ref 411]))) (hn : ∀ (l6 l7 l8 l9 : Option Value) (h' : mj_H), mj_rd h' 400 = some (.inr (17, [.int (nI 1), .ref 401, .ref 402, ty, .long sd, .long be, .ref 410, wa, nw, nx, .ref 411])) ∧ mz_fr [400] h h' ∧ h'.length ≤ N + 1 ∧ mj_sz h' ≤ mj_sz h + 6 → mj_lrun L xs (28, [some (.retAddr 1), some (.ref 0), some (.ref 400), some (.ref 412), some (.ref 413), some (.int (nI (i + 4))), l6, l7, l8, l9], [], h') P) : mj_lrun L xs (28, [some (.retAddr 1), some (.ref 0), some (.ref 400), some (.ref 412), some (.ref 413), some (.int (nI i)), l6, l7, l8, l9], [], h) P := by
  refine l_ild (p' := 30) rfl rfl rfl rfl ?_
  refine l_alds (p' := 31) rfl rfl rfl rfl ?_
  refine l_lens (p' := 32) rfl rfl rfl ?_
  refine l_con (p' := 33) rfl rfl rfl ?_
  refine l_bz (p' := 34) (z := (nI (L - 4))) rfl rfl rfl rfl rfl (mI_sub (by omega)) ?_
  refine l_icmp (p' := 37) false rfl rfl ((ci_gt (by omega) (by omega)).trans (decide_eq_false (by omega))) rfl ?_
  refine l_alds (p' := 38) rfl rfl rfl rfl ?_
  refine l_ild (p' := 40) rfl rfl rfl rfl ?_
  refine l_ialz (p' := 41) (m := i) (z := (xs i)) rfl rfl (inb_nI (by omega) (by omega)) (mI_cl (by omega)) rfl rfl ?_
  refine l_bip (p' := 43) rfl rfl rfl ?_
  refine l_bz (p' := 44) (z := (nI 44)) rfl rfl rfl rfl rfl hk ?_
  refine l_sp (p' := 2312) (ls' := _) rfl rfl rfl rfl rfl ?_
  refine l_aldn (p' := 2313) rfl rfl rfl rfl ?_
  refine l_alds (p' := 2314) rfl rfl rfl rfl ?_
  refine l_ild (p' := 2316) rfl rfl rfl rfl ?_
  refine l_con (p' := 2317) rfl rfl rfl ?_
  refine l_bz (p' := 2318) (z := (nI (i + 1))) rfl rfl rfl rfl rfl (mI_add _ _) ?_
  refine l_ialz (p' := 2319) (m := (i + 1)) (z := p) rfl rfl (inb_nI (by omega) (by omega)) (mI_cl (by omega)) hx1 rfl ?_
  refine l_alds (p' := 2320) rfl rfl rfl rfl ?_
  refine l_ild (p' := 2322) rfl rfl rfl rfl ?_
  refine l_con (p' := 2323) rfl rfl rfl ?_
  refine l_bz (p' := 2324) (z := (nI (i + 2))) rfl rfl rfl rfl rfl (mI_add _ _) ?_
  refine l_ialz (p' := 2325) (m := (i + 2)) (z := (xs (i + 2))) rfl rfl (inb_nI (by omega) (by omega)) (mI_cl (by omega)) rfl rfl ?_
  refine l_aldn (p' := 2326) rfl rfl rfl rfl ?_
  refine l_call (p' := 2329) (kc := 99) (ls0 := [_, _, _, _, _]) rfl rfl rfl rfl rfl rfl rfl rfl rfl rfl ?_
  refine s_aldn (p' := 1) rfl rfl rfl ?_
  refine s_con (p' := 2) rfl rfl ?_
  refine s_aldn (p' := 3) rfl rfl rfl ?_
  refine s_ildn (p' := 4) rfl rfl rfl ?_
  refine s_ildn (p' := 5) rfl rfl rfl ?_
  refine c_call (p' := 8) (kc := 98) (ls0 := [_, _, _, _]) rfl rfl rfl rfl rfl (mj_rcv_is H0) rfl rfl rfl ?_
  refine s_ildn (p' := 1) rfl rfl rfl ?_
  refine s_con (p' := 2) rfl rfl ?_
  refine s_icmp (p' := 22) true rfl ((cg_lt (w := 1) (by decide +kernel)).trans (decide_eq_true (by omega))) rfl ?_
  refine s_thrz (q := N) rfl HL rfl ?_
  refine K_c (hp := 13) (Nat.blt_eq.mpr (by omega)) (mj_ocl_is (rd_nw (Nat.blt_eq.mpr (by omega)) HL)) rfl ?_
  refine s_ast (p' := 15) (ls' := [_, _, _, _, _]) rfl rfl rfl rfl ?_
  refine s_con (p' := 16) rfl rfl ?_
  refine k_iret rfl rfl ?_
  refine l_ist (p' := 2331) (ls' := [_, _, _, _, _, _, _, _, _, _]) rfl rfl rfl rfl rfl ?_
  refine l_aldn (p' := 2332) rfl rfl rfl rfl ?_
  refine l_alds (p' := 2333) rfl rfl rfl rfl ?_
  refine l_ild (p' := 2335) rfl rfl rfl rfl ?_
  refine l_con (p' := 2336) rfl rfl rfl ?_
  refine l_bz (p' := 2337) (z := (nI (i + 1))) rfl rfl rfl rfl rfl (mI_add _ _) ?_
  refine l_ialz (p' := 2338) (m := (i + 1)) (z := p) rfl rfl (inb_nI (by omega) (by omega)) (mI_cl (by omega)) hx1 rfl ?_
  refine l_alds (p' := 2339) rfl rfl rfl rfl ?_
  refine l_ild (p' := 2341) rfl rfl rfl rfl ?_
  refine l_con (p' := 2342) rfl rfl rfl ?_
  refine l_bz (p' := 2343) (z := (nI (i + 2))) rfl rfl rfl rfl rfl (mI_add _ _) ?_
  refine l_ialz (p' := 2344) (m := (i + 2)) (z := (xs (i + 2))) rfl rfl (inb_nI (by omega) (by omega)) (mI_cl (by omega)) rfl rfl ?_
  refine l_call (p' := 2347) (kc := 99) (ls0 := [_, _, _, _]) rfl rfl rfl rfl rfl rfl (mj_rcv_is (rd_app H400)) rfl rfl rfl ?_
  refine s_aldn (p' := 1) rfl rfl rfl ?_
  refine s_ildn (p' := 2) rfl rfl rfl ?_
  refine s_con (p' := 3) rfl rfl ?_
  refine s_bip (p' := 5) rfl rfl ?_
  refine c_call (p' := 8) (kc := 98) (ls0 := [_, _, _]) rfl rfl rfl rfl rfl rfl rfl rfl rfl ?_
  refine s_ildn (p' := 1) rfl rfl rfl ?_
  refine s_ildn (p' := 2) rfl rfl rfl ?_
  refine s_icmp (p' := 14) true rfl ((ch_gt (w := 1) (by decide +kernel)).trans (decide_eq_true (by omega))) rfl ?_
  refine s_con (p' := 15) rfl rfl ?_
  refine c_iret rfl (by decide +kernel) ?_
  refine s_if (p' := 25) true rfl (by decide +kernel) rfl ?_
  refine s_con (p' := 26) rfl rfl ?_
  refine c_call (p' := 29) (kc := 98) (ls0 := [_, _]) rfl rfl rfl rfl rfl (mj_rcv_is (rd_app H400)) rfl rfl rfl ?_
  refine s_aldn (p' := 1) rfl rfl rfl ?_
  refine s_ildn (p' := 2) rfl rfl rfl ?_
  refine s_pfz (p' := 5) (fs' := [_, _, _, _, _, _, _, _, _, _, _]) rfl rfl (rd_app H400) rfl rfl rfl rfl ?_
  refine s_ildn (p' := 6) rfl rfl rfl ?_
  refine s_if (p' := 9) false rfl (by decide +kernel) rfl ?_
  refine s_con (p' := 10) rfl rfl ?_
  refine s_goto (p' := 14) rfl rfl ?_
  refine c_iret rfl (by decide +kernel) ?_
  refine s_if (p' := 32) false rfl (by decide +kernel) rfl ?_
  refine s_con (p' := 33) rfl rfl ?_
  refine k_iret rfl rfl ?_
  refine l_ist (p' := 2349) (ls' := [_, _, _, _, _, _, _, _, _, _]) rfl rfl rfl rfl rfl ?_
  refine l_aldn (p' := 2350) rfl rfl rfl rfl ?_
  refine l_call (p' := 2353) (kc := 99) (ls0 := [_]) rfl rfl rfl rfl rfl rfl (mj_rcv_is (rd_ss rfl (rd_app H400))) rfl rfl rfl ?_
  refine s_aldn (p' := 1) rfl rfl rfl ?_
  refine s_gf (p' := 4) rfl (rd_ss rfl (rd_app H400)) rfl rfl ?_
  refine k_iret rfl rfl ?_
  refine l_ild (p' := 2355) rfl rfl rfl rfl ?_
  refine l_icmp (p' := 2360) true rfl rfl (by decide +kernel) rfl ?_
  refine l_ild (p' := 2362) rfl rfl rfl rfl ?_
  refine l_if (p' := 2377) true rfl rfl (by decide +kernel) rfl ?_
  refine l_goto (p' := 2541) rfl rfl rfl ?_
  refine l_incz (p' := 2544) (w := (nI (i + 4))) (ls' := [_, _, _, _, _, _, _, _, _, _]) rfl rfl rfl rfl (mI_add _ _) rfl rfl ?_
  refine l_goto (p' := 28) rfl rfl rfl ?_
  exact hn _ _ _ _ _ ⟨(rd_ss rfl (rd_app H400)), (mz_fr.s (by decide) (mz_fr.a (mz_fr.rf _ h))), (Nat.le_trans (Nat.le_of_eq (len_s (len_a HL rfl))) (by omega)), (Nat.le_trans (sz_s rfl (rd_app H400) rfl (sz_aa (k := 6) (m := mj_sz h + 6) rfl (by omega) (Nat.le_refl (mj_sz h)))) (by omega))⟩
theorem w_45_n {L i N : Nat} {xs : Nat → Int32} {h : mj_H} {l6 l7 l8 l9 : Option Value} {P : mj_H → Prop} (hL : L ≤ 2048) (hi : i + 4 ≤ L) (hN : N + 2000 < mj_CB) (hN0 : 414 ≤ N) (HL : h.length = N) (hk : xs i &&& nI 63 = nI 45) {gs pl ty wa nw nx dp ca mf : Value} {th : Int32} {sd be : Int64} {ou : Nat → Int64} {vf wf sf uf im jm : Nat → Int32} {k g : Nat} (hk20 : k ≤ 20) (hvw : ∀ j, j < 8 → wf j = vf j) (hsu : ∀ j, j < k → uf j = sf j) (him : ∀ j, j < 8 → jm j = im j) {pe pm ge gm : Value} {q : Nat} (hq6 : q ≤ 6) (hg24 : g ≤ 24) {p : Int32} (hp : p.toInt < 1) (hx1 : xs (i + 1) = p) (H0 : mj_rd h 0 = some (.inr (0, [.ref 1, .ref 38, .ref 299, .ref 336, .ref 373, .ref 375, .ref 378, .ref 381, .ref 387, .ref 393, gs, pl, .ref 397, .ref 398, .ref 399, .long sd, .long be]))) (H400 : mj_rd h 400 = some (.inr (17, [.int th, .ref 401, .ref 402, ty, .long sd, .long be, .ref 410, wa, nw, nx, .ref 411]))) (hn : ∀ (l6 l7 l8 l9 : Option Value) (h' : mj_H), mj_rd h' 400 = some (.inr (17, [.int (nI 1), .ref 401, .ref 402, ty, .long sd, .long be, .ref 410, wa, nw, nx, .ref 411])) ∧ mz_fr [400] h h' ∧ h'.length ≤ N + 1 ∧ mj_sz h' ≤ mj_sz h + 6 → mj_lrun L xs (28, [some (.retAddr 1), some (.ref 0), some (.ref 400), some (.ref 412), some (.ref 413), some (.int (nI (i + 4))), l6, l7, l8, l9], [], h') P) : mj_lrun L xs (28, [some (.retAddr 1), some (.ref 0), some (.ref 400), some (.ref 412), some (.ref 413), some (.int (nI i)), l6, l7, l8, l9], [], h) P := by
  refine l_ild (p' := 30) rfl rfl rfl rfl ?_
  refine l_alds (p' := 31) rfl rfl rfl rfl ?_
  refine l_lens (p' := 32) rfl rfl rfl ?_
  refine l_con (p' := 33) rfl rfl rfl ?_
  refine l_bz (p' := 34) (z := (nI (L - 4))) rfl rfl rfl rfl rfl (mI_sub (by omega)) ?_
  refine l_icmp (p' := 37) false rfl rfl ((ci_gt (by omega) (by omega)).trans (decide_eq_false (by omega))) rfl ?_
  refine l_alds (p' := 38) rfl rfl rfl rfl ?_
  refine l_ild (p' := 40) rfl rfl rfl rfl ?_
  refine l_ialz (p' := 41) (m := i) (z := (xs i)) rfl rfl (inb_nI (by omega) (by omega)) (mI_cl (by omega)) rfl rfl ?_
  refine l_bip (p' := 43) rfl rfl rfl ?_
  refine l_bz (p' := 44) (z := (nI 45)) rfl rfl rfl rfl rfl hk ?_
  refine l_sp (p' := 2380) (ls' := _) rfl rfl rfl rfl rfl ?_
  refine l_aldn (p' := 2381) rfl rfl rfl rfl ?_
  refine l_alds (p' := 2382) rfl rfl rfl rfl ?_
  refine l_ild (p' := 2384) rfl rfl rfl rfl ?_
  refine l_con (p' := 2385) rfl rfl rfl ?_
  refine l_bz (p' := 2386) (z := (nI (i + 1))) rfl rfl rfl rfl rfl (mI_add _ _) ?_
  refine l_ialz (p' := 2387) (m := (i + 1)) (z := p) rfl rfl (inb_nI (by omega) (by omega)) (mI_cl (by omega)) hx1 rfl ?_
  refine l_aldn (p' := 2388) rfl rfl rfl rfl ?_
  refine l_call (p' := 2391) (kc := 99) (ls0 := [_, _, _, _]) rfl rfl rfl rfl rfl rfl rfl rfl rfl rfl ?_
  refine s_aldn (p' := 1) rfl rfl rfl ?_
  refine s_con (p' := 2) rfl rfl ?_
  refine s_aldn (p' := 3) rfl rfl rfl ?_
  refine s_ildn (p' := 4) rfl rfl rfl ?_
  refine c_call (p' := 7) (kc := 98) (ls0 := [_, _, _]) rfl rfl rfl rfl rfl (mj_rcv_is H0) rfl rfl rfl ?_
  refine s_ildn (p' := 1) rfl rfl rfl ?_
  refine s_con (p' := 2) rfl rfl ?_
  refine s_icmp (p' := 11) true rfl ((cg_lt (w := 1) (by decide +kernel)).trans (decide_eq_true (by omega))) rfl ?_
  refine s_thrz (q := N) rfl HL rfl ?_
  refine K_c (hp := 12) (Nat.blt_eq.mpr (by omega)) (mj_ocl_is (rd_nw (Nat.blt_eq.mpr (by omega)) HL)) rfl ?_
  refine s_astn (p' := 13) (ls' := [_, _, _, _]) rfl rfl rfl rfl ?_
  refine s_con (p' := 14) rfl rfl ?_
  refine k_iret rfl rfl ?_
  refine l_ist (p' := 2393) (ls' := [_, _, _, _, _, _, _, _, _, _]) rfl rfl rfl rfl rfl ?_
  refine l_aldn (p' := 2394) rfl rfl rfl rfl ?_
  refine l_alds (p' := 2395) rfl rfl rfl rfl ?_
  refine l_ild (p' := 2397) rfl rfl rfl rfl ?_
  refine l_con (p' := 2398) rfl rfl rfl ?_
  refine l_bz (p' := 2399) (z := (nI (i + 1))) rfl rfl rfl rfl rfl (mI_add _ _) ?_
  refine l_ialz (p' := 2400) (m := (i + 1)) (z := p) rfl rfl (inb_nI (by omega) (by omega)) (mI_cl (by omega)) hx1 rfl ?_
  refine l_call (p' := 2403) (kc := 99) (ls0 := [_, _, _]) rfl rfl rfl rfl rfl rfl (mj_rcv_is (rd_app H400)) rfl rfl rfl ?_
  refine s_aldn (p' := 1) rfl rfl rfl ?_
  refine s_ildn (p' := 2) rfl rfl rfl ?_
  refine s_con (p' := 3) rfl rfl ?_
  refine s_bip (p' := 5) rfl rfl ?_
  refine c_call (p' := 8) (kc := 98) (ls0 := [_, _, _]) rfl rfl rfl rfl rfl rfl rfl rfl rfl ?_
  refine s_ildn (p' := 1) rfl rfl rfl ?_
  refine s_ildn (p' := 2) rfl rfl rfl ?_
  refine s_icmp (p' := 14) true rfl ((ch_gt (w := 1) (by decide +kernel)).trans (decide_eq_true (by omega))) rfl ?_
  refine s_con (p' := 15) rfl rfl ?_
  refine c_iret rfl (by decide +kernel) ?_
  refine s_if (p' := 15) true rfl (by decide +kernel) rfl ?_
  refine s_con (p' := 16) rfl rfl ?_
  refine c_call (p' := 19) (kc := 98) (ls0 := [_, _]) rfl rfl rfl rfl rfl (mj_rcv_is (rd_app H400)) rfl rfl rfl ?_
  refine s_aldn (p' := 1) rfl rfl rfl ?_
  refine s_ildn (p' := 2) rfl rfl rfl ?_
  refine s_pfz (p' := 5) (fs' := [_, _, _, _, _, _, _, _, _, _, _]) rfl rfl (rd_app H400) rfl rfl rfl rfl ?_
  refine s_ildn (p' := 6) rfl rfl rfl ?_
  refine s_if (p' := 9) false rfl (by decide +kernel) rfl ?_
  refine s_con (p' := 10) rfl rfl ?_
  refine s_goto (p' := 14) rfl rfl ?_
  refine c_iret rfl (by decide +kernel) ?_
  refine s_if (p' := 22) false rfl (by decide +kernel) rfl ?_
  refine s_con (p' := 23) rfl rfl ?_
  refine k_iret rfl rfl ?_
  refine l_ist (p' := 2405) (ls' := [_, _, _, _, _, _, _, _, _, _]) rfl rfl rfl rfl rfl ?_
  refine l_aldn (p' := 2406) rfl rfl rfl rfl ?_
  refine l_call (p' := 2409) (kc := 99) (ls0 := [_]) rfl rfl rfl rfl rfl rfl (mj_rcv_is (rd_ss rfl (rd_app H400))) rfl rfl rfl ?_
  refine s_aldn (p' := 1) rfl rfl rfl ?_
  refine s_gf (p' := 4) rfl (rd_ss rfl (rd_app H400)) rfl rfl ?_
  refine k_iret rfl rfl ?_
  refine l_ild (p' := 2411) rfl rfl rfl rfl ?_
  refine l_icmp (p' := 2416) true rfl rfl (by decide +kernel) rfl ?_
  refine l_ild (p' := 2418) rfl rfl rfl rfl ?_
  refine l_if (p' := 2433) true rfl rfl (by decide +kernel) rfl ?_
  refine l_goto (p' := 2541) rfl rfl rfl ?_
  refine l_incz (p' := 2544) (w := (nI (i + 4))) (ls' := [_, _, _, _, _, _, _, _, _, _]) rfl rfl rfl rfl (mI_add _ _) rfl rfl ?_
  refine l_goto (p' := 28) rfl rfl rfl ?_
  exact hn _ _ _ _ _ ⟨(rd_ss rfl (rd_app H400)), (mz_fr.s (by decide) (mz_fr.a (mz_fr.rf _ h))), (Nat.le_trans (Nat.le_of_eq (len_s (len_a HL rfl))) (by omega)), (Nat.le_trans (sz_s rfl (rd_app H400) rfl (sz_aa (k := 6) (m := mj_sz h + 6) rfl (by omega) (Nat.le_refl (mj_sz h)))) (by omega))⟩
theorem w_44_pn {L i N : Nat} {xs : Nat → Int32} {h : mj_H} {l6 l7 l8 l9 : Option Value} {P : mj_H → Prop} (hL : L ≤ 2048) (hi : i + 4 ≤ L) (hN : N + 2000 < mj_CB) (hN0 : 414 ≤ N) (HL : h.length = N) (hk : xs i &&& nI 63 = nI 44) {gs pl ty wa nw nx dp ca mf : Value} {th : Int32} {sd be : Int64} {ou : Nat → Int64} {vf wf sf uf im jm : Nat → Int32} {k g : Nat} (hk20 : k ≤ 20) (hvw : ∀ j, j < 8 → wf j = vf j) (hsu : ∀ j, j < k → uf j = sf j) (him : ∀ j, j < 8 → jm j = im j) {pe pm ge gm : Value} {q : Nat} (hq6 : q ≤ 6) (hg24 : g ≤ 24) {p0 : Nat} {p : Int32} (hp1 : 1 ≤ p0) (hp2 : p0 ≤ 10) (hp : p.toInt < 1) (hx1 : xs (i + 1) = nI p0) (hx2 : xs (i + 2) = p) (H0 : mj_rd h 0 = some (.inr (0, [.ref 1, .ref 38, .ref 299, .ref 336, .ref 373, .ref 375, .ref 378, .ref 381, .ref 387, .ref 393, gs, pl, .ref 397, .ref 398, .ref 399, .long sd, .long be]))) (H400 : mj_rd h 400 = some (.inr (17, [.int th, .ref 401, .ref 402, ty, .long sd, .long be, .ref 410, wa, nw, nx, .ref 411]))) (hn : ∀ (l6 l7 l8 l9 : Option Value) (h' : mj_H), mj_rd h' 400 = some (.inr (17, [.int (nI 1), .ref 401, .ref 402, ty, .long sd, .long be, .ref 410, wa, nw, nx, .ref 411])) ∧ mz_fr [400] h h' ∧ h'.length ≤ N + 1 ∧ mj_sz h' ≤ mj_sz h + 6 → mj_lrun L xs (28, [some (.retAddr 1), some (.ref 0), some (.ref 400), some (.ref 412), some (.ref 413), some (.int (nI (i + 4))), l6, l7, l8, l9], [], h') P) : mj_lrun L xs (28, [some (.retAddr 1), some (.ref 0), some (.ref 400), some (.ref 412), some (.ref 413), some (.int (nI i)), l6, l7, l8, l9], [], h) P := by
  refine l_ild (p' := 30) rfl rfl rfl rfl ?_
  refine l_alds (p' := 31) rfl rfl rfl rfl ?_
  refine l_lens (p' := 32) rfl rfl rfl ?_
  refine l_con (p' := 33) rfl rfl rfl ?_
  refine l_bz (p' := 34) (z := (nI (L - 4))) rfl rfl rfl rfl rfl (mI_sub (by omega)) ?_
  refine l_icmp (p' := 37) false rfl rfl ((ci_gt (by omega) (by omega)).trans (decide_eq_false (by omega))) rfl ?_
  refine l_alds (p' := 38) rfl rfl rfl rfl ?_
  refine l_ild (p' := 40) rfl rfl rfl rfl ?_
  refine l_ialz (p' := 41) (m := i) (z := (xs i)) rfl rfl (inb_nI (by omega) (by omega)) (mI_cl (by omega)) rfl rfl ?_
  refine l_bip (p' := 43) rfl rfl rfl ?_
  refine l_bz (p' := 44) (z := (nI 44)) rfl rfl rfl rfl rfl hk ?_
  refine l_sp (p' := 2312) (ls' := _) rfl rfl rfl rfl rfl ?_
  refine l_aldn (p' := 2313) rfl rfl rfl rfl ?_
  refine l_alds (p' := 2314) rfl rfl rfl rfl ?_
  refine l_ild (p' := 2316) rfl rfl rfl rfl ?_
  refine l_con (p' := 2317) rfl rfl rfl ?_
  refine l_bz (p' := 2318) (z := (nI (i + 1))) rfl rfl rfl rfl rfl (mI_add _ _) ?_
  refine l_ialz (p' := 2319) (m := (i + 1)) (z := (nI p0)) rfl rfl (inb_nI (by omega) (by omega)) (mI_cl (by omega)) hx1 rfl ?_
  refine l_alds (p' := 2320) rfl rfl rfl rfl ?_
  refine l_ild (p' := 2322) rfl rfl rfl rfl ?_
  refine l_con (p' := 2323) rfl rfl rfl ?_
  refine l_bz (p' := 2324) (z := (nI (i + 2))) rfl rfl rfl rfl rfl (mI_add _ _) ?_
  refine l_ialz (p' := 2325) (m := (i + 2)) (z := p) rfl rfl (inb_nI (by omega) (by omega)) (mI_cl (by omega)) hx2 rfl ?_
  refine l_aldn (p' := 2326) rfl rfl rfl rfl ?_
  refine l_call (p' := 2329) (kc := 99) (ls0 := [_, _, _, _, _]) rfl rfl rfl rfl rfl rfl rfl rfl rfl rfl ?_
  refine s_aldn (p' := 1) rfl rfl rfl ?_
  refine s_con (p' := 2) rfl rfl ?_
  refine s_aldn (p' := 3) rfl rfl rfl ?_
  refine s_ildn (p' := 4) rfl rfl rfl ?_
  refine s_ildn (p' := 5) rfl rfl rfl ?_
  refine c_call (p' := 8) (kc := 98) (ls0 := [_, _, _, _]) rfl rfl rfl rfl rfl (mj_rcv_is H0) rfl rfl rfl ?_
  refine s_ildn (p' := 1) rfl rfl rfl ?_
  refine s_con (p' := 2) rfl rfl ?_
  refine s_icmp (p' := 5) false rfl ((cg_lt (w := 1) (by decide +kernel)).trans (decide_eq_false (by rw [mI_ti (by omega)]; omega))) rfl ?_
  refine s_ildn (p' := 6) rfl rfl rfl ?_
  refine s_bip (p' := 8) rfl rfl ?_
  refine s_icmp (p' := 11) false rfl ((cg_gt (w := 10) (by decide +kernel)).trans (decide_eq_false (by rw [mI_ti (by omega)]; omega))) rfl ?_
  refine s_ildn (p' := 12) rfl rfl rfl ?_
  refine s_con (p' := 13) rfl rfl ?_
  refine s_icmp (p' := 22) true rfl ((cg_lt (w := 1) (by decide +kernel)).trans (decide_eq_true (by omega))) rfl ?_
  refine s_thrz (q := N) rfl HL rfl ?_
  refine K_c (hp := 13) (Nat.blt_eq.mpr (by omega)) (mj_ocl_is (rd_nw (Nat.blt_eq.mpr (by omega)) HL)) rfl ?_
  refine s_ast (p' := 15) (ls' := [_, _, _, _, _]) rfl rfl rfl rfl ?_
  refine s_con (p' := 16) rfl rfl ?_
  refine k_iret rfl rfl ?_
  refine l_ist (p' := 2331) (ls' := [_, _, _, _, _, _, _, _, _, _]) rfl rfl rfl rfl rfl ?_
  refine l_aldn (p' := 2332) rfl rfl rfl rfl ?_
  refine l_alds (p' := 2333) rfl rfl rfl rfl ?_
  refine l_ild (p' := 2335) rfl rfl rfl rfl ?_
  refine l_con (p' := 2336) rfl rfl rfl ?_
  refine l_bz (p' := 2337) (z := (nI (i + 1))) rfl rfl rfl rfl rfl (mI_add _ _) ?_
  refine l_ialz (p' := 2338) (m := (i + 1)) (z := (nI p0)) rfl rfl (inb_nI (by omega) (by omega)) (mI_cl (by omega)) hx1 rfl ?_
  refine l_alds (p' := 2339) rfl rfl rfl rfl ?_
  refine l_ild (p' := 2341) rfl rfl rfl rfl ?_
  refine l_con (p' := 2342) rfl rfl rfl ?_
  refine l_bz (p' := 2343) (z := (nI (i + 2))) rfl rfl rfl rfl rfl (mI_add _ _) ?_
  refine l_ialz (p' := 2344) (m := (i + 2)) (z := p) rfl rfl (inb_nI (by omega) (by omega)) (mI_cl (by omega)) hx2 rfl ?_
  refine l_call (p' := 2347) (kc := 99) (ls0 := [_, _, _, _]) rfl rfl rfl rfl rfl rfl (mj_rcv_is (rd_app H400)) rfl rfl rfl ?_
  refine s_aldn (p' := 1) rfl rfl rfl ?_
  refine s_ildn (p' := 2) rfl rfl rfl ?_
  refine s_con (p' := 3) rfl rfl ?_
  refine s_bip (p' := 5) rfl rfl ?_
  refine c_call (p' := 8) (kc := 98) (ls0 := [_, _, _]) rfl rfl rfl rfl rfl rfl rfl rfl rfl ?_
  refine s_ildn (p' := 1) rfl rfl rfl ?_
  refine s_ildn (p' := 2) rfl rfl rfl ?_
  refine s_icmp (p' := 5) false rfl ((ch_gt (w := 1) (by decide +kernel)).trans (decide_eq_false (by rw [mI_ti (by omega)]; omega))) rfl ?_
  refine s_ildn (p' := 6) rfl rfl rfl ?_
  refine s_ildn (p' := 7) rfl rfl rfl ?_
  refine s_icmp (p' := 10) false rfl ((cg_gt (w := 10) (by decide +kernel)).trans (decide_eq_false (by rw [mI_ti (by omega)]; omega))) rfl ?_
  refine s_con (p' := 11) rfl rfl ?_
  refine s_goto (p' := 15) rfl rfl ?_
  refine c_iret rfl (by decide +kernel) ?_
  refine s_if (p' := 11) false rfl (by decide +kernel) rfl ?_
  refine s_ildn (p' := 12) rfl rfl rfl ?_
  refine s_con (p' := 13) rfl rfl ?_
  refine s_bip (p' := 15) rfl rfl ?_
  refine c_call (p' := 18) (kc := 98) (ls0 := [_, _, _]) rfl rfl rfl rfl rfl rfl rfl rfl rfl ?_
  refine s_ildn (p' := 1) rfl rfl rfl ?_
  refine s_ildn (p' := 2) rfl rfl rfl ?_
  refine s_icmp (p' := 14) true rfl ((ch_gt (w := 1) (by decide +kernel)).trans (decide_eq_true (by omega))) rfl ?_
  refine s_con (p' := 15) rfl rfl ?_
  refine c_iret rfl (by decide +kernel) ?_
  refine s_if (p' := 25) true rfl (by decide +kernel) rfl ?_
  refine s_con (p' := 26) rfl rfl ?_
  refine c_call (p' := 29) (kc := 98) (ls0 := [_, _]) rfl rfl rfl rfl rfl (mj_rcv_is (rd_app H400)) rfl rfl rfl ?_
  refine s_aldn (p' := 1) rfl rfl rfl ?_
  refine s_ildn (p' := 2) rfl rfl rfl ?_
  refine s_pfz (p' := 5) (fs' := [_, _, _, _, _, _, _, _, _, _, _]) rfl rfl (rd_app H400) rfl rfl rfl rfl ?_
  refine s_ildn (p' := 6) rfl rfl rfl ?_
  refine s_if (p' := 9) false rfl (by decide +kernel) rfl ?_
  refine s_con (p' := 10) rfl rfl ?_
  refine s_goto (p' := 14) rfl rfl ?_
  refine c_iret rfl (by decide +kernel) ?_
  refine s_if (p' := 32) false rfl (by decide +kernel) rfl ?_
  refine s_con (p' := 33) rfl rfl ?_
  refine k_iret rfl rfl ?_
  refine l_ist (p' := 2349) (ls' := [_, _, _, _, _, _, _, _, _, _]) rfl rfl rfl rfl rfl ?_
  refine l_aldn (p' := 2350) rfl rfl rfl rfl ?_
  refine l_call (p' := 2353) (kc := 99) (ls0 := [_]) rfl rfl rfl rfl rfl rfl (mj_rcv_is (rd_ss rfl (rd_app H400))) rfl rfl rfl ?_
  refine s_aldn (p' := 1) rfl rfl rfl ?_
  refine s_gf (p' := 4) rfl (rd_ss rfl (rd_app H400)) rfl rfl ?_
  refine k_iret rfl rfl ?_
  refine l_ild (p' := 2355) rfl rfl rfl rfl ?_
  refine l_icmp (p' := 2360) true rfl rfl (by decide +kernel) rfl ?_
  refine l_ild (p' := 2362) rfl rfl rfl rfl ?_
  refine l_if (p' := 2377) true rfl rfl (by decide +kernel) rfl ?_
  refine l_goto (p' := 2541) rfl rfl rfl ?_
  refine l_incz (p' := 2544) (w := (nI (i + 4))) (ls' := [_, _, _, _, _, _, _, _, _, _]) rfl rfl rfl rfl (mI_add _ _) rfl rfl ?_
  refine l_goto (p' := 28) rfl rfl rfl ?_
  exact hn _ _ _ _ _ ⟨(rd_ss rfl (rd_app H400)), (mz_fr.s (by decide) (mz_fr.a (mz_fr.rf _ h))), (Nat.le_trans (Nat.le_of_eq (len_s (len_a HL rfl))) (by omega)), (Nat.le_trans (sz_s rfl (rd_app H400) rfl (sz_aa (k := 6) (m := mj_sz h + 6) rfl (by omega) (Nat.le_refl (mj_sz h)))) (by omega))⟩
theorem w_44_m {L i N : Nat} {xs : Nat → Int32} {h : mj_H} {l6 l7 l8 l9 : Option Value} {P : mj_H → Prop} (hL : L ≤ 2048) (hi : i + 4 ≤ L) (hN : N + 2000 < mj_CB) (hN0 : 414 ≤ N) (HL : h.length = N) (hk : xs i &&& nI 63 = nI 44) {gs pl ty wa nw nx dp ca mf : Value} {th : Int32} {sd be : Int64} {ou : Nat → Int64} {vf wf sf uf im jm : Nat → Int32} {k g : Nat} (hk20 : k ≤ 20) (hvw : ∀ j, j < 8 → wf j = vf j) (hsu : ∀ j, j < k → uf j = sf j) (him : ∀ j, j < 8 → jm j = im j) {pe pm ge gm : Value} {q : Nat} (hq6 : q ≤ 6) (hg24 : g ≤ 24) {p : Int32} (hp : 10 < p.toInt) (hx1 : xs (i + 1) = p) (H0 : mj_rd h 0 = some (.inr (0, [.ref 1, .ref 38, .ref 299, .ref 336, .ref 373, .ref 375, .ref 378, .ref 381, .ref 387, .ref 393, gs, pl, .ref 397, .ref 398, .ref 399, .long sd, .long be]))) (H400 : mj_rd h 400 = some (.inr (17, [.int th, .ref 401, .ref 402, ty, .long sd, .long be, .ref 410, wa, nw, nx, .ref 411]))) (hn : ∀ (l6 l7 l8 l9 : Option Value) (h' : mj_H), mj_rd h' 400 = some (.inr (17, [.int (nI 1), .ref 401, .ref 402, ty, .long sd, .long be, .ref 410, wa, nw, nx, .ref 411])) ∧ mz_fr [400] h h' ∧ h'.length ≤ N + 1 ∧ mj_sz h' ≤ mj_sz h + 6 → mj_lrun L xs (28, [some (.retAddr 1), some (.ref 0), some (.ref 400), some (.ref 412), some (.ref 413), some (.int (nI (i + 4))), l6, l7, l8, l9], [], h') P) : mj_lrun L xs (28, [some (.retAddr 1), some (.ref 0), some (.ref 400), some (.ref 412), some (.ref 413), some (.int (nI i)), l6, l7, l8, l9], [], h) P := by
  refine l_ild (p' := 30) rfl rfl rfl rfl ?_
  refine l_alds (p' := 31) rfl rfl rfl rfl ?_
  refine l_lens (p' := 32) rfl rfl rfl ?_
  refine l_con (p' := 33) rfl rfl rfl ?_
  refine l_bz (p' := 34) (z := (nI (L - 4))) rfl rfl rfl rfl rfl (mI_sub (by omega)) ?_
  refine l_icmp (p' := 37) false rfl rfl ((ci_gt (by omega) (by omega)).trans (decide_eq_false (by omega))) rfl ?_
  refine l_alds (p' := 38) rfl rfl rfl rfl ?_
  refine l_ild (p' := 40) rfl rfl rfl rfl ?_
  refine l_ialz (p' := 41) (m := i) (z := (xs i)) rfl rfl (inb_nI (by omega) (by omega)) (mI_cl (by omega)) rfl rfl ?_
  refine l_bip (p' := 43) rfl rfl rfl ?_
  refine l_bz (p' := 44) (z := (nI 44)) rfl rfl rfl rfl rfl hk ?_
  refine l_sp (p' := 2312) (ls' := _) rfl rfl rfl rfl rfl ?_
  refine l_aldn (p' := 2313) rfl rfl rfl rfl ?_
  refine l_alds (p' := 2314) rfl rfl rfl rfl ?_
  refine l_ild (p' := 2316) rfl rfl rfl rfl ?_
  refine l_con (p' := 2317) rfl rfl rfl ?_
  refine l_bz (p' := 2318) (z := (nI (i + 1))) rfl rfl rfl rfl rfl (mI_add _ _) ?_
  refine l_ialz (p' := 2319) (m := (i + 1)) (z := p) rfl rfl (inb_nI (by omega) (by omega)) (mI_cl (by omega)) hx1 rfl ?_
  refine l_alds (p' := 2320) rfl rfl rfl rfl ?_
  refine l_ild (p' := 2322) rfl rfl rfl rfl ?_
  refine l_con (p' := 2323) rfl rfl rfl ?_
  refine l_bz (p' := 2324) (z := (nI (i + 2))) rfl rfl rfl rfl rfl (mI_add _ _) ?_
  refine l_ialz (p' := 2325) (m := (i + 2)) (z := (xs (i + 2))) rfl rfl (inb_nI (by omega) (by omega)) (mI_cl (by omega)) rfl rfl ?_
  refine l_aldn (p' := 2326) rfl rfl rfl rfl ?_
  refine l_call (p' := 2329) (kc := 99) (ls0 := [_, _, _, _, _]) rfl rfl rfl rfl rfl rfl rfl rfl rfl rfl ?_
  refine s_aldn (p' := 1) rfl rfl rfl ?_
  refine s_con (p' := 2) rfl rfl ?_
  refine s_aldn (p' := 3) rfl rfl rfl ?_
  refine s_ildn (p' := 4) rfl rfl rfl ?_
  refine s_ildn (p' := 5) rfl rfl rfl ?_
  refine c_call (p' := 8) (kc := 98) (ls0 := [_, _, _, _]) rfl rfl rfl rfl rfl (mj_rcv_is H0) rfl rfl rfl ?_
  refine s_ildn (p' := 1) rfl rfl rfl ?_
  refine s_con (p' := 2) rfl rfl ?_
  refine s_icmp (p' := 5) false rfl ((cg_lt (w := 1) (by decide +kernel)).trans (decide_eq_false (by omega))) rfl ?_
  refine s_ildn (p' := 6) rfl rfl rfl ?_
  refine s_bip (p' := 8) rfl rfl ?_
  refine s_icmp (p' := 22) true rfl ((cg_gt (w := 10) (by decide +kernel)).trans (decide_eq_true (by omega))) rfl ?_
  refine s_thrz (q := N) rfl HL rfl ?_
  refine K_c (hp := 13) (Nat.blt_eq.mpr (by omega)) (mj_ocl_is (rd_nw (Nat.blt_eq.mpr (by omega)) HL)) rfl ?_
  refine s_ast (p' := 15) (ls' := [_, _, _, _, _]) rfl rfl rfl rfl ?_
  refine s_con (p' := 16) rfl rfl ?_
  refine k_iret rfl rfl ?_
  refine l_ist (p' := 2331) (ls' := [_, _, _, _, _, _, _, _, _, _]) rfl rfl rfl rfl rfl ?_
  refine l_aldn (p' := 2332) rfl rfl rfl rfl ?_
  refine l_alds (p' := 2333) rfl rfl rfl rfl ?_
  refine l_ild (p' := 2335) rfl rfl rfl rfl ?_
  refine l_con (p' := 2336) rfl rfl rfl ?_
  refine l_bz (p' := 2337) (z := (nI (i + 1))) rfl rfl rfl rfl rfl (mI_add _ _) ?_
  refine l_ialz (p' := 2338) (m := (i + 1)) (z := p) rfl rfl (inb_nI (by omega) (by omega)) (mI_cl (by omega)) hx1 rfl ?_
  refine l_alds (p' := 2339) rfl rfl rfl rfl ?_
  refine l_ild (p' := 2341) rfl rfl rfl rfl ?_
  refine l_con (p' := 2342) rfl rfl rfl ?_
  refine l_bz (p' := 2343) (z := (nI (i + 2))) rfl rfl rfl rfl rfl (mI_add _ _) ?_
  refine l_ialz (p' := 2344) (m := (i + 2)) (z := (xs (i + 2))) rfl rfl (inb_nI (by omega) (by omega)) (mI_cl (by omega)) rfl rfl ?_
  refine l_call (p' := 2347) (kc := 99) (ls0 := [_, _, _, _]) rfl rfl rfl rfl rfl rfl (mj_rcv_is (rd_app H400)) rfl rfl rfl ?_
  refine s_aldn (p' := 1) rfl rfl rfl ?_
  refine s_ildn (p' := 2) rfl rfl rfl ?_
  refine s_con (p' := 3) rfl rfl ?_
  refine s_bip (p' := 5) rfl rfl ?_
  refine c_call (p' := 8) (kc := 98) (ls0 := [_, _, _]) rfl rfl rfl rfl rfl rfl rfl rfl rfl ?_
  refine s_ildn (p' := 1) rfl rfl rfl ?_
  refine s_ildn (p' := 2) rfl rfl rfl ?_
  refine s_icmp (p' := 5) false rfl ((ch_gt (w := 1) (by decide +kernel)).trans (decide_eq_false (by omega))) rfl ?_
  refine s_ildn (p' := 6) rfl rfl rfl ?_
  refine s_ildn (p' := 7) rfl rfl rfl ?_
  refine s_icmp (p' := 14) true rfl ((cg_gt (w := 10) (by decide +kernel)).trans (decide_eq_true (by omega))) rfl ?_
  refine s_con (p' := 15) rfl rfl ?_
  refine c_iret rfl (by decide +kernel) ?_
  refine s_if (p' := 25) true rfl (by decide +kernel) rfl ?_
  refine s_con (p' := 26) rfl rfl ?_
  refine c_call (p' := 29) (kc := 98) (ls0 := [_, _]) rfl rfl rfl rfl rfl (mj_rcv_is (rd_app H400)) rfl rfl rfl ?_
  refine s_aldn (p' := 1) rfl rfl rfl ?_
  refine s_ildn (p' := 2) rfl rfl rfl ?_
  refine s_pfz (p' := 5) (fs' := [_, _, _, _, _, _, _, _, _, _, _]) rfl rfl (rd_app H400) rfl rfl rfl rfl ?_
  refine s_ildn (p' := 6) rfl rfl rfl ?_
  refine s_if (p' := 9) false rfl (by decide +kernel) rfl ?_
  refine s_con (p' := 10) rfl rfl ?_
  refine s_goto (p' := 14) rfl rfl ?_
  refine c_iret rfl (by decide +kernel) ?_
  refine s_if (p' := 32) false rfl (by decide +kernel) rfl ?_
  refine s_con (p' := 33) rfl rfl ?_
  refine k_iret rfl rfl ?_
  refine l_ist (p' := 2349) (ls' := [_, _, _, _, _, _, _, _, _, _]) rfl rfl rfl rfl rfl ?_
  refine l_aldn (p' := 2350) rfl rfl rfl rfl ?_
  refine l_call (p' := 2353) (kc := 99) (ls0 := [_]) rfl rfl rfl rfl rfl rfl (mj_rcv_is (rd_ss rfl (rd_app H400))) rfl rfl rfl ?_
  refine s_aldn (p' := 1) rfl rfl rfl ?_
  refine s_gf (p' := 4) rfl (rd_ss rfl (rd_app H400)) rfl rfl ?_
  refine k_iret rfl rfl ?_
  refine l_ild (p' := 2355) rfl rfl rfl rfl ?_
  refine l_icmp (p' := 2360) true rfl rfl (by decide +kernel) rfl ?_
  refine l_ild (p' := 2362) rfl rfl rfl rfl ?_
  refine l_if (p' := 2377) true rfl rfl (by decide +kernel) rfl ?_
  refine l_goto (p' := 2541) rfl rfl rfl ?_
  refine l_incz (p' := 2544) (w := (nI (i + 4))) (ls' := [_, _, _, _, _, _, _, _, _, _]) rfl rfl rfl rfl (mI_add _ _) rfl rfl ?_
  refine l_goto (p' := 28) rfl rfl rfl ?_
  exact hn _ _ _ _ _ ⟨(rd_ss rfl (rd_app H400)), (mz_fr.s (by decide) (mz_fr.a (mz_fr.rf _ h))), (Nat.le_trans (Nat.le_of_eq (len_s (len_a HL rfl))) (by omega)), (Nat.le_trans (sz_s rfl (rd_app H400) rfl (sz_aa (k := 6) (m := mj_sz h + 6) rfl (by omega) (Nat.le_refl (mj_sz h)))) (by omega))⟩
theorem w_45_m {L i N : Nat} {xs : Nat → Int32} {h : mj_H} {l6 l7 l8 l9 : Option Value} {P : mj_H → Prop} (hL : L ≤ 2048) (hi : i + 4 ≤ L) (hN : N + 2000 < mj_CB) (hN0 : 414 ≤ N) (HL : h.length = N) (hk : xs i &&& nI 63 = nI 45) {gs pl ty wa nw nx dp ca mf : Value} {th : Int32} {sd be : Int64} {ou : Nat → Int64} {vf wf sf uf im jm : Nat → Int32} {k g : Nat} (hk20 : k ≤ 20) (hvw : ∀ j, j < 8 → wf j = vf j) (hsu : ∀ j, j < k → uf j = sf j) (him : ∀ j, j < 8 → jm j = im j) {pe pm ge gm : Value} {q : Nat} (hq6 : q ≤ 6) (hg24 : g ≤ 24) {p : Int32} (hp : 10 < p.toInt) (hx1 : xs (i + 1) = p) (H0 : mj_rd h 0 = some (.inr (0, [.ref 1, .ref 38, .ref 299, .ref 336, .ref 373, .ref 375, .ref 378, .ref 381, .ref 387, .ref 393, gs, pl, .ref 397, .ref 398, .ref 399, .long sd, .long be]))) (H400 : mj_rd h 400 = some (.inr (17, [.int th, .ref 401, .ref 402, ty, .long sd, .long be, .ref 410, wa, nw, nx, .ref 411]))) (hn : ∀ (l6 l7 l8 l9 : Option Value) (h' : mj_H), mj_rd h' 400 = some (.inr (17, [.int (nI 1), .ref 401, .ref 402, ty, .long sd, .long be, .ref 410, wa, nw, nx, .ref 411])) ∧ mz_fr [400] h h' ∧ h'.length ≤ N + 1 ∧ mj_sz h' ≤ mj_sz h + 6 → mj_lrun L xs (28, [some (.retAddr 1), some (.ref 0), some (.ref 400), some (.ref 412), some (.ref 413), some (.int (nI (i + 4))), l6, l7, l8, l9], [], h') P) : mj_lrun L xs (28, [some (.retAddr 1), some (.ref 0), some (.ref 400), some (.ref 412), some (.ref 413), some (.int (nI i)), l6, l7, l8, l9], [], h) P := by
  refine l_ild (p' := 30) rfl rfl rfl rfl ?_
  refine l_alds (p' := 31) rfl rfl rfl rfl ?_
  refine l_lens (p' := 32) rfl rfl rfl ?_
  refine l_con (p' := 33) rfl rfl rfl ?_
  refine l_bz (p' := 34) (z := (nI (L - 4))) rfl rfl rfl rfl rfl (mI_sub (by omega)) ?_
  refine l_icmp (p' := 37) false rfl rfl ((ci_gt (by omega) (by omega)).trans (decide_eq_false (by omega))) rfl ?_
  refine l_alds (p' := 38) rfl rfl rfl rfl ?_
  refine l_ild (p' := 40) rfl rfl rfl rfl ?_
  refine l_ialz (p' := 41) (m := i) (z := (xs i)) rfl rfl (inb_nI (by omega) (by omega)) (mI_cl (by omega)) rfl rfl ?_
  refine l_bip (p' := 43) rfl rfl rfl ?_
  refine l_bz (p' := 44) (z := (nI 45)) rfl rfl rfl rfl rfl hk ?_
  refine l_sp (p' := 2380) (ls' := _) rfl rfl rfl rfl rfl ?_
  refine l_aldn (p' := 2381) rfl rfl rfl rfl ?_
  refine l_alds (p' := 2382) rfl rfl rfl rfl ?_
  refine l_ild (p' := 2384) rfl rfl rfl rfl ?_
  refine l_con (p' := 2385) rfl rfl rfl ?_
  refine l_bz (p' := 2386) (z := (nI (i + 1))) rfl rfl rfl rfl rfl (mI_add _ _) ?_
  refine l_ialz (p' := 2387) (m := (i + 1)) (z := p) rfl rfl (inb_nI (by omega) (by omega)) (mI_cl (by omega)) hx1 rfl ?_
  refine l_aldn (p' := 2388) rfl rfl rfl rfl ?_
  refine l_call (p' := 2391) (kc := 99) (ls0 := [_, _, _, _]) rfl rfl rfl rfl rfl rfl rfl rfl rfl rfl ?_
  refine s_aldn (p' := 1) rfl rfl rfl ?_
  refine s_con (p' := 2) rfl rfl ?_
  refine s_aldn (p' := 3) rfl rfl rfl ?_
  refine s_ildn (p' := 4) rfl rfl rfl ?_
  refine c_call (p' := 7) (kc := 98) (ls0 := [_, _, _]) rfl rfl rfl rfl rfl (mj_rcv_is H0) rfl rfl rfl ?_
  refine s_ildn (p' := 1) rfl rfl rfl ?_
  refine s_con (p' := 2) rfl rfl ?_
  refine s_icmp (p' := 5) false rfl ((cg_lt (w := 1) (by decide +kernel)).trans (decide_eq_false (by omega))) rfl ?_
  refine s_ildn (p' := 6) rfl rfl rfl ?_
  refine s_bip (p' := 8) rfl rfl ?_
  refine s_icmp (p' := 11) false rfl ((cg_le (w := 10) (by decide +kernel)).trans (decide_eq_false (by omega))) rfl ?_
  refine s_thrz (q := N) rfl HL rfl ?_
  refine K_c (hp := 12) (Nat.blt_eq.mpr (by omega)) (mj_ocl_is (rd_nw (Nat.blt_eq.mpr (by omega)) HL)) rfl ?_
  refine s_astn (p' := 13) (ls' := [_, _, _, _]) rfl rfl rfl rfl ?_
  refine s_con (p' := 14) rfl rfl ?_
  refine k_iret rfl rfl ?_
  refine l_ist (p' := 2393) (ls' := [_, _, _, _, _, _, _, _, _, _]) rfl rfl rfl rfl rfl ?_
  refine l_aldn (p' := 2394) rfl rfl rfl rfl ?_
  refine l_alds (p' := 2395) rfl rfl rfl rfl ?_
  refine l_ild (p' := 2397) rfl rfl rfl rfl ?_
  refine l_con (p' := 2398) rfl rfl rfl ?_
  refine l_bz (p' := 2399) (z := (nI (i + 1))) rfl rfl rfl rfl rfl (mI_add _ _) ?_
  refine l_ialz (p' := 2400) (m := (i + 1)) (z := p) rfl rfl (inb_nI (by omega) (by omega)) (mI_cl (by omega)) hx1 rfl ?_
  refine l_call (p' := 2403) (kc := 99) (ls0 := [_, _, _]) rfl rfl rfl rfl rfl rfl (mj_rcv_is (rd_app H400)) rfl rfl rfl ?_
  refine s_aldn (p' := 1) rfl rfl rfl ?_
  refine s_ildn (p' := 2) rfl rfl rfl ?_
  refine s_con (p' := 3) rfl rfl ?_
  refine s_bip (p' := 5) rfl rfl ?_
  refine c_call (p' := 8) (kc := 98) (ls0 := [_, _, _]) rfl rfl rfl rfl rfl rfl rfl rfl rfl ?_
  refine s_ildn (p' := 1) rfl rfl rfl ?_
  refine s_ildn (p' := 2) rfl rfl rfl ?_
  refine s_icmp (p' := 5) false rfl ((ch_gt (w := 1) (by decide +kernel)).trans (decide_eq_false (by omega))) rfl ?_
  refine s_ildn (p' := 6) rfl rfl rfl ?_
  refine s_ildn (p' := 7) rfl rfl rfl ?_
  refine s_icmp (p' := 14) true rfl ((cg_gt (w := 10) (by decide +kernel)).trans (decide_eq_true (by omega))) rfl ?_
  refine s_con (p' := 15) rfl rfl ?_
  refine c_iret rfl (by decide +kernel) ?_
  refine s_if (p' := 15) true rfl (by decide +kernel) rfl ?_
  refine s_con (p' := 16) rfl rfl ?_
  refine c_call (p' := 19) (kc := 98) (ls0 := [_, _]) rfl rfl rfl rfl rfl (mj_rcv_is (rd_app H400)) rfl rfl rfl ?_
  refine s_aldn (p' := 1) rfl rfl rfl ?_
  refine s_ildn (p' := 2) rfl rfl rfl ?_
  refine s_pfz (p' := 5) (fs' := [_, _, _, _, _, _, _, _, _, _, _]) rfl rfl (rd_app H400) rfl rfl rfl rfl ?_
  refine s_ildn (p' := 6) rfl rfl rfl ?_
  refine s_if (p' := 9) false rfl (by decide +kernel) rfl ?_
  refine s_con (p' := 10) rfl rfl ?_
  refine s_goto (p' := 14) rfl rfl ?_
  refine c_iret rfl (by decide +kernel) ?_
  refine s_if (p' := 22) false rfl (by decide +kernel) rfl ?_
  refine s_con (p' := 23) rfl rfl ?_
  refine k_iret rfl rfl ?_
  refine l_ist (p' := 2405) (ls' := [_, _, _, _, _, _, _, _, _, _]) rfl rfl rfl rfl rfl ?_
  refine l_aldn (p' := 2406) rfl rfl rfl rfl ?_
  refine l_call (p' := 2409) (kc := 99) (ls0 := [_]) rfl rfl rfl rfl rfl rfl (mj_rcv_is (rd_ss rfl (rd_app H400))) rfl rfl rfl ?_
  refine s_aldn (p' := 1) rfl rfl rfl ?_
  refine s_gf (p' := 4) rfl (rd_ss rfl (rd_app H400)) rfl rfl ?_
  refine k_iret rfl rfl ?_
  refine l_ild (p' := 2411) rfl rfl rfl rfl ?_
  refine l_icmp (p' := 2416) true rfl rfl (by decide +kernel) rfl ?_
  refine l_ild (p' := 2418) rfl rfl rfl rfl ?_
  refine l_if (p' := 2433) true rfl rfl (by decide +kernel) rfl ?_
  refine l_goto (p' := 2541) rfl rfl rfl ?_
  refine l_incz (p' := 2544) (w := (nI (i + 4))) (ls' := [_, _, _, _, _, _, _, _, _, _]) rfl rfl rfl rfl (mI_add _ _) rfl rfl ?_
  refine l_goto (p' := 28) rfl rfl rfl ?_
  exact hn _ _ _ _ _ ⟨(rd_ss rfl (rd_app H400)), (mz_fr.s (by decide) (mz_fr.a (mz_fr.rf _ h))), (Nat.le_trans (Nat.le_of_eq (len_s (len_a HL rfl))) (by omega)), (Nat.le_trans (sz_s rfl (rd_app H400) rfl (sz_aa (k := 6) (m := mj_sz h + 6) rfl (by omega) (Nat.le_refl (mj_sz h)))) (by omega))⟩
theorem w_44_pm {L i N : Nat} {xs : Nat → Int32} {h : mj_H} {l6 l7 l8 l9 : Option Value} {P : mj_H → Prop} (hL : L ≤ 2048) (hi : i + 4 ≤ L) (hN : N + 2000 < mj_CB) (hN0 : 414 ≤ N) (HL : h.length = N) (hk : xs i &&& nI 63 = nI 44) {gs pl ty wa nw nx dp ca mf : Value} {th : Int32} {sd be : Int64} {ou : Nat → Int64} {vf wf sf uf im jm : Nat → Int32} {k g : Nat} (hk20 : k ≤ 20) (hvw : ∀ j, j < 8 → wf j = vf j) (hsu : ∀ j, j < k → uf j = sf j) (him : ∀ j, j < 8 → jm j = im j) {pe pm ge gm : Value} {q : Nat} (hq6 : q ≤ 6) (hg24 : g ≤ 24) {p0 : Nat} {p : Int32} (hp1 : 1 ≤ p0) (hp2 : p0 ≤ 10) (hp : 10 < p.toInt) (hx1 : xs (i + 1) = nI p0) (hx2 : xs (i + 2) = p) (H0 : mj_rd h 0 = some (.inr (0, [.ref 1, .ref 38, .ref 299, .ref 336, .ref 373, .ref 375, .ref 378, .ref 381, .ref 387, .ref 393, gs, pl, .ref 397, .ref 398, .ref 399, .long sd, .long be]))) (H400 : mj_rd h 400 = some (.inr (17, [.int th, .ref 401, .ref 402, ty, .long sd, .long be, .ref 410, wa, nw, nx, .ref 411]))) (hn : ∀ (l6 l7 l8 l9 : Option Value) (h' : mj_H), mj_rd h' 400 = some (.inr (17, [.int (nI 1), .ref 401, .ref 402, ty, .long sd, .long be, .ref 410, wa, nw, nx, .ref 411])) ∧ mz_fr [400] h h' ∧ h'.length ≤ N + 1 ∧ mj_sz h' ≤ mj_sz h + 6 → mj_lrun L xs (28, [some (.retAddr 1), some (.ref 0), some (.ref 400), some (.ref 412), some (.ref 413), some (.int (nI (i + 4))), l6, l7, l8, l9], [], h') P) : mj_lrun L xs (28, [some (.retAddr 1), some (.ref 0), some (.ref 400), some (.ref 412), some (.ref 413), some (.int (nI i)), l6, l7, l8, l9], [], h) P := by
  refine l_ild (p' := 30) rfl rfl rfl rfl ?_
  refine l_alds (p' := 31) rfl rfl rfl rfl ?_
  refine l_lens (p' := 32) rfl rfl rfl ?_
  refine l_con (p' := 33) rfl rfl rfl ?_
  refine l_bz (p' := 34) (z := (nI (L - 4))) rfl rfl rfl rfl rfl (mI_sub (by omega)) ?_
  refine l_icmp (p' := 37) false rfl rfl ((ci_gt (by omega) (by omega)).trans (decide_eq_false (by omega))) rfl ?_
  refine l_alds (p' := 38) rfl rfl rfl rfl ?_
  refine l_ild (p' := 40) rfl rfl rfl rfl ?_
  refine l_ialz (p' := 41) (m := i) (z := (xs i)) rfl rfl (inb_nI (by omega) (by omega)) (mI_cl (by omega)) rfl rfl ?_
  refine l_bip (p' := 43) rfl rfl rfl ?_
  refine l_bz (p' := 44) (z := (nI 44)) rfl rfl rfl rfl rfl hk ?_
  refine l_sp (p' := 2312) (ls' := _) rfl rfl rfl rfl rfl ?_
  refine l_aldn (p' := 2313) rfl rfl rfl rfl ?_
  refine l_alds (p' := 2314) rfl rfl rfl rfl ?_
  refine l_ild (p' := 2316) rfl rfl rfl rfl ?_
  refine l_con (p' := 2317) rfl rfl rfl ?_
  refine l_bz (p' := 2318) (z := (nI (i + 1))) rfl rfl rfl rfl rfl (mI_add _ _) ?_
  refine l_ialz (p' := 2319) (m := (i + 1)) (z := (nI p0)) rfl rfl (inb_nI (by omega) (by omega)) (mI_cl (by omega)) hx1 rfl ?_
  refine l_alds (p' := 2320) rfl rfl rfl rfl ?_
  refine l_ild (p' := 2322) rfl rfl rfl rfl ?_
  refine l_con (p' := 2323) rfl rfl rfl ?_
  refine l_bz (p' := 2324) (z := (nI (i + 2))) rfl rfl rfl rfl rfl (mI_add _ _) ?_
  refine l_ialz (p' := 2325) (m := (i + 2)) (z := p) rfl rfl (inb_nI (by omega) (by omega)) (mI_cl (by omega)) hx2 rfl ?_
  refine l_aldn (p' := 2326) rfl rfl rfl rfl ?_
  refine l_call (p' := 2329) (kc := 99) (ls0 := [_, _, _, _, _]) rfl rfl rfl rfl rfl rfl rfl rfl rfl rfl ?_
  refine s_aldn (p' := 1) rfl rfl rfl ?_
  refine s_con (p' := 2) rfl rfl ?_
  refine s_aldn (p' := 3) rfl rfl rfl ?_
  refine s_ildn (p' := 4) rfl rfl rfl ?_
  refine s_ildn (p' := 5) rfl rfl rfl ?_
  refine c_call (p' := 8) (kc := 98) (ls0 := [_, _, _, _]) rfl rfl rfl rfl rfl (mj_rcv_is H0) rfl rfl rfl ?_
  refine s_ildn (p' := 1) rfl rfl rfl ?_
  refine s_con (p' := 2) rfl rfl ?_
  refine s_icmp (p' := 5) false rfl ((cg_lt (w := 1) (by decide +kernel)).trans (decide_eq_false (by rw [mI_ti (by omega)]; omega))) rfl ?_
  refine s_ildn (p' := 6) rfl rfl rfl ?_
  refine s_bip (p' := 8) rfl rfl ?_
  refine s_icmp (p' := 11) false rfl ((cg_gt (w := 10) (by decide +kernel)).trans (decide_eq_false (by rw [mI_ti (by omega)]; omega))) rfl ?_
  refine s_ildn (p' := 12) rfl rfl rfl ?_
  refine s_con (p' := 13) rfl rfl ?_
  refine s_icmp (p' := 16) false rfl ((cg_lt (w := 1) (by decide +kernel)).trans (decide_eq_false (by omega))) rfl ?_
  refine s_ildn (p' := 17) rfl rfl rfl ?_
  refine s_bip (p' := 19) rfl rfl ?_
  refine s_icmp (p' := 22) false rfl ((cg_le (w := 10) (by decide +kernel)).trans (decide_eq_false (by omega))) rfl ?_
  refine s_thrz (q := N) rfl HL rfl ?_
  refine K_c (hp := 13) (Nat.blt_eq.mpr (by omega)) (mj_ocl_is (rd_nw (Nat.blt_eq.mpr (by omega)) HL)) rfl ?_
  refine s_ast (p' := 15) (ls' := [_, _, _, _, _]) rfl rfl rfl rfl ?_
  refine s_con (p' := 16) rfl rfl ?_
  refine k_iret rfl rfl ?_
  refine l_ist (p' := 2331) (ls' := [_, _, _, _, _, _, _, _, _, _]) rfl rfl rfl rfl rfl ?_
  refine l_aldn (p' := 2332) rfl rfl rfl rfl ?_
  refine l_alds (p' := 2333) rfl rfl rfl rfl ?_
  refine l_ild (p' := 2335) rfl rfl rfl rfl ?_
  refine l_con (p' := 2336) rfl rfl rfl ?_
  refine l_bz (p' := 2337) (z := (nI (i + 1))) rfl rfl rfl rfl rfl (mI_add _ _) ?_
  refine l_ialz (p' := 2338) (m := (i + 1)) (z := (nI p0)) rfl rfl (inb_nI (by omega) (by omega)) (mI_cl (by omega)) hx1 rfl ?_
  refine l_alds (p' := 2339) rfl rfl rfl rfl ?_
  refine l_ild (p' := 2341) rfl rfl rfl rfl ?_
  refine l_con (p' := 2342) rfl rfl rfl ?_
  refine l_bz (p' := 2343) (z := (nI (i + 2))) rfl rfl rfl rfl rfl (mI_add _ _) ?_
  refine l_ialz (p' := 2344) (m := (i + 2)) (z := p) rfl rfl (inb_nI (by omega) (by omega)) (mI_cl (by omega)) hx2 rfl ?_
  refine l_call (p' := 2347) (kc := 99) (ls0 := [_, _, _, _]) rfl rfl rfl rfl rfl rfl (mj_rcv_is (rd_app H400)) rfl rfl rfl ?_
  refine s_aldn (p' := 1) rfl rfl rfl ?_
  refine s_ildn (p' := 2) rfl rfl rfl ?_
  refine s_con (p' := 3) rfl rfl ?_
  refine s_bip (p' := 5) rfl rfl ?_
  refine c_call (p' := 8) (kc := 98) (ls0 := [_, _, _]) rfl rfl rfl rfl rfl rfl rfl rfl rfl ?_
  refine s_ildn (p' := 1) rfl rfl rfl ?_
  refine s_ildn (p' := 2) rfl rfl rfl ?_
  refine s_icmp (p' := 5) false rfl ((ch_gt (w := 1) (by decide +kernel)).trans (decide_eq_false (by rw [mI_ti (by omega)]; omega))) rfl ?_
  refine s_ildn (p' := 6) rfl rfl rfl ?_
  refine s_ildn (p' := 7) rfl rfl rfl ?_
  refine s_icmp (p' := 10) false rfl ((cg_gt (w := 10) (by decide +kernel)).trans (decide_eq_false (by rw [mI_ti (by omega)]; omega))) rfl ?_
  refine s_con (p' := 11) rfl rfl ?_
  refine s_goto (p' := 15) rfl rfl ?_
  refine c_iret rfl (by decide +kernel) ?_
  refine s_if (p' := 11) false rfl (by decide +kernel) rfl ?_
  refine s_ildn (p' := 12) rfl rfl rfl ?_
  refine s_con (p' := 13) rfl rfl ?_
  refine s_bip (p' := 15) rfl rfl ?_
  refine c_call (p' := 18) (kc := 98) (ls0 := [_, _, _]) rfl rfl rfl rfl rfl rfl rfl rfl rfl ?_
  refine s_ildn (p' := 1) rfl rfl rfl ?_
  refine s_ildn (p' := 2) rfl rfl rfl ?_
  refine s_icmp (p' := 5) false rfl ((ch_gt (w := 1) (by decide +kernel)).trans (decide_eq_false (by omega))) rfl ?_
  refine s_ildn (p' := 6) rfl rfl rfl ?_
  refine s_ildn (p' := 7) rfl rfl rfl ?_
  refine s_icmp (p' := 14) true rfl ((cg_gt (w := 10) (by decide +kernel)).trans (decide_eq_true (by omega))) rfl ?_
  refine s_con (p' := 15) rfl rfl ?_
  refine c_iret rfl (by decide +kernel) ?_
  refine s_if (p' := 25) true rfl (by decide +kernel) rfl ?_
  refine s_con (p' := 26) rfl rfl ?_
  refine c_call (p' := 29) (kc := 98) (ls0 := [_, _]) rfl rfl rfl rfl rfl (mj_rcv_is (rd_app H400)) rfl rfl rfl ?_
  refine s_aldn (p' := 1) rfl rfl rfl ?_
  refine s_ildn (p' := 2) rfl rfl rfl ?_
  refine s_pfz (p' := 5) (fs' := [_, _, _, _, _, _, _, _, _, _, _]) rfl rfl (rd_app H400) rfl rfl rfl rfl ?_
  refine s_ildn (p' := 6) rfl rfl rfl ?_
  refine s_if (p' := 9) false rfl (by decide +kernel) rfl ?_
  refine s_con (p' := 10) rfl rfl ?_
  refine s_goto (p' := 14) rfl rfl ?_
  refine c_iret rfl (by decide +kernel) ?_
  refine s_if (p' := 32) false rfl (by decide +kernel) rfl ?_
  refine s_con (p' := 33) rfl rfl ?_
  refine k_iret rfl rfl ?_
  refine l_ist (p' := 2349) (ls' := [_, _, _, _, _, _, _, _, _, _]) rfl rfl rfl rfl rfl ?_
  refine l_aldn (p' := 2350) rfl rfl rfl rfl ?_
  refine l_call (p' := 2353) (kc := 99) (ls0 := [_]) rfl rfl rfl rfl rfl rfl (mj_rcv_is (rd_ss rfl (rd_app H400))) rfl rfl rfl ?_
  refine s_aldn (p' := 1) rfl rfl rfl ?_
  refine s_gf (p' := 4) rfl (rd_ss rfl (rd_app H400)) rfl rfl ?_
  refine k_iret rfl rfl ?_
  refine l_ild (p' := 2355) rfl rfl rfl rfl ?_
  refine l_icmp (p' := 2360) true rfl rfl (by decide +kernel) rfl ?_
  refine l_ild (p' := 2362) rfl rfl rfl rfl ?_
  refine l_if (p' := 2377) true rfl rfl (by decide +kernel) rfl ?_
  refine l_goto (p' := 2541) rfl rfl rfl ?_
  refine l_incz (p' := 2544) (w := (nI (i + 4))) (ls' := [_, _, _, _, _, _, _, _, _, _]) rfl rfl rfl rfl (mI_add _ _) rfl rfl ?_
  refine l_goto (p' := 28) rfl rfl rfl ?_
  exact hn _ _ _ _ _ ⟨(rd_ss rfl (rd_app H400)), (mz_fr.s (by decide) (mz_fr.a (mz_fr.rf _ h))), (Nat.le_trans (Nat.le_of_eq (len_s (len_a HL rfl))) (by omega)), (Nat.le_trans (sz_s rfl (rd_app H400) rfl (sz_aa (k := 6) (m := mj_sz h + 6) rfl (by omega) (Nat.le_refl (mj_sz h)))) (by omega))⟩
