/-! Rounds on any state: gates refused, the first one, the row grows. -/
theorem cpq_G {h : mj_H} {ef : Nat → Option Nat} {G : Nat → Nat} {n : Nat} (hG : ∀ j, j < n → ef j = some (1000138 + G j) ∧ G j < 24) : mj_cpq h ef 0 n = true := by
  unfold mj_cpq
  refine List.all_eq_true.mpr fun j hj => ?_
  have hg := hG j (List.mem_range.mp hj)
  rw [Nat.zero_add, hg.1]
  dsimp only
  rw [k_ocl h hg.2]
  rfl
theorem w_29_n {L i N : Nat} {xs : Nat → Int32} {h : mj_H} {l6 l7 l8 l9 : Option Value} {P : mj_H → Prop} (hL : L ≤ 2048) (hi : i + 4 ≤ L) (hN : N + 2000 < mj_CB) (hN0 : 414 ≤ N) (HL : h.length = N) (hk : xs i &&& nI 63 = nI 29) {gs pl ty wa nw nx dp ca mf : Value} {th : Int32} {sd be : Int64} {ou : Nat → Int64} {vf wf sf uf im jm : Nat → Int32} {k g : Nat} (hk20 : k ≤ 20) (hvw : ∀ j, j < 8 → wf j = vf j) (hsu : ∀ j, j < k → uf j = sf j) (him : ∀ j, j < 8 → jm j = im j) {pe pm ge gm : Value} {q : Nat} (hq6 : q ≤ 6) (hg24 : g ≤ 24) {rf : Nat → Int32} {E cap : Nat} {mc : Int32} {ef : Nat → Option Nat} {G : Nat → Nat} (hG1 : ∀ j, j < g → rf j = nI (G j) ∧ G j < 24) (hE0 : 414 ≤ E) (hEA : mj_rdA h E = some (6, (cap, .inr (.inr (.inr (.inr ef)))))) (hG2 : ∀ j, j < g → ef j = some (1000138 + G j) ∧ G j < 24) (hgc : g ≤ cap) (hc31 : cap < 1000) {p : Int32} (hp : p.toInt < 0) (hx1 : xs (i + 1) = p) (H0 : mj_rd h 0 = some (.inr (0, [.ref 1, .ref 38, .ref 299, .ref 336, .ref 373, .ref 375, .ref 378, .ref 381, .ref 387, .ref 393, gs, pl, .ref 397, .ref 398, .ref 399, .long sd, .long be]))) (H400 : mj_rd h 400 = some (.inr (17, [.int th, .ref 401, .ref 402, ty, .long sd, .long be, .ref 410, wa, nw, nx, .ref 411]))) (hn : ∀ (l6 l7 l8 l9 : Option Value) (h' : mj_H), mj_rd h' 400 = some (.inr (17, [.int (nI 1), .ref 401, .ref 402, ty, .long sd, .long be, .ref 410, wa, nw, nx, .ref 411])) ∧ mz_fr [400] h h' ∧ h'.length ≤ N + 1 ∧ mj_sz h' ≤ mj_sz h + 6 → mj_lrun L xs (28, [some (.retAddr 1), some (.ref 0), some (.ref 400), some (.ref 412), some (.ref 413), some (.int (nI (i + 4))), l6, l7, l8, l9], [], h') P) : mj_lrun L xs (28, [some (.retAddr 1), some (.ref 0), some (.ref 400), some (.ref 412), some (.ref 413), some (.int (nI i)), l6, l7, l8, l9], [], h) P := by
  refine l_ild (p' := 30) rfl rfl rfl rfl ?_
  refine l_alds (p' := 31) rfl rfl rfl rfl ?_
  refine l_lens (p' := 32) rfl rfl rfl ?_
  refine l_con (p' := 33) rfl rfl rfl ?_
  refine l_bz (p' := 34) (z := (nI (L - 4))) rfl rfl rfl rfl rfl (mI_sub (by omega)) ?_
  refine l_icmp (p' := 37) false rfl rfl ((ci_gt (by omega) (by omega)).trans (decide_eq_false (by omega))) rfl ?_
  refine l_alds (p' := 38) rfl rfl rfl rfl ?_
  refine l_ild (p' := 40) rfl rfl rfl rfl ?_
  refine l_ialz (p' := 41) (m := i) (z := (xs i)) rfl rfl (inb_nI (by omega) (by omega)) (mI_cl (by omega)) rfl rfl ?_
  refine l_bip (p' := 43) rfl rfl rfl ?_
  refine l_bz (p' := 44) (z := (nI 29)) rfl rfl rfl rfl rfl hk ?_
  refine l_sp (p' := 1817) (ls' := _) rfl rfl rfl rfl rfl ?_
  refine l_aldn (p' := 1818) rfl rfl rfl rfl ?_
  refine l_alds (p' := 1819) rfl rfl rfl rfl ?_
  refine l_ild (p' := 1821) rfl rfl rfl rfl ?_
  refine l_con (p' := 1822) rfl rfl rfl ?_
  refine l_bz (p' := 1823) (z := (nI (i + 1))) rfl rfl rfl rfl rfl (mI_add _ _) ?_
  refine l_ialz (p' := 1824) (m := (i + 1)) (z := p) rfl rfl (inb_nI (by omega) (by omega)) (mI_cl (by omega)) hx1 rfl ?_
  refine l_alds (p' := 1825) rfl rfl rfl rfl ?_
  refine l_ild (p' := 1827) rfl rfl rfl rfl ?_
  refine l_con (p' := 1828) rfl rfl rfl ?_
  refine l_bz (p' := 1829) (z := (nI (i + 2))) rfl rfl rfl rfl rfl (mI_add _ _) ?_
  refine l_ialz (p' := 1830) (m := (i + 2)) (z := (xs (i + 2))) rfl rfl (inb_nI (by omega) (by omega)) (mI_cl (by omega)) rfl rfl ?_
  refine l_aldn (p' := 1831) rfl rfl rfl rfl ?_
  refine l_call (p' := 1834) (kc := 99) (ls0 := [_, _, _, _, _]) rfl rfl rfl rfl rfl rfl rfl rfl rfl rfl ?_
  refine s_aldn (p' := 1) rfl rfl rfl ?_
  refine s_con (p' := 2) rfl rfl ?_
  refine s_aldn (p' := 3) rfl rfl rfl ?_
  refine s_ildn (p' := 4) rfl rfl rfl ?_
  refine s_ildn (p' := 5) rfl rfl rfl ?_
  refine c_call (p' := 8) (kc := 98) (ls0 := [_, _, _]) rfl rfl rfl rfl rfl (mj_rcv_is H0) rfl rfl rfl ?_
  refine s_ildn (p' := 1) rfl rfl rfl ?_
  refine s_if (p' := 19) true rfl ((cg_lt (w := 0) (by decide +kernel)).trans (decide_eq_true (by omega))) rfl ?_
  refine s_thrz (q := N) rfl HL rfl ?_
  refine K_c (hp := 13) (Nat.blt_eq.mpr (by omega)) (mj_ocl_is (rd_nw (Nat.blt_eq.mpr (by omega)) HL)) rfl ?_
  refine s_ast (p' := 15) (ls' := [_, _, _, _, _]) rfl rfl rfl rfl ?_
  refine s_con (p' := 16) rfl rfl ?_
  refine k_iret rfl rfl ?_
  refine l_ist (p' := 1836) (ls' := [_, _, _, _, _, _, _, _, _, _]) rfl rfl rfl rfl rfl ?_
  refine l_aldn (p' := 1837) rfl rfl rfl rfl ?_
  refine l_alds (p' := 1838) rfl rfl rfl rfl ?_
  refine l_ild (p' := 1840) rfl rfl rfl rfl ?_
  refine l_con (p' := 1841) rfl rfl rfl ?_
  refine l_bz (p' := 1842) (z := (nI (i + 1))) rfl rfl rfl rfl rfl (mI_add _ _) ?_
  refine l_ialz (p' := 1843) (m := (i + 1)) (z := p) rfl rfl (inb_nI (by omega) (by omega)) (mI_cl (by omega)) hx1 rfl ?_
  refine l_alds (p' := 1844) rfl rfl rfl rfl ?_
  refine l_ild (p' := 1846) rfl rfl rfl rfl ?_
  refine l_con (p' := 1847) rfl rfl rfl ?_
  refine l_bz (p' := 1848) (z := (nI (i + 2))) rfl rfl rfl rfl rfl (mI_add _ _) ?_
  refine l_ialz (p' := 1849) (m := (i + 2)) (z := (xs (i + 2))) rfl rfl (inb_nI (by omega) (by omega)) (mI_cl (by omega)) rfl rfl ?_
  refine l_call (p' := 1852) (kc := 99) (ls0 := [_, _, _, _]) rfl rfl rfl rfl rfl rfl (mj_rcv_is (rd_app H400)) rfl rfl rfl ?_
  refine s_ildn (p' := 1) rfl rfl rfl ?_
  refine s_con (p' := 2) rfl rfl ?_
  refine s_con (p' := 3) rfl rfl ?_
  refine c_call (p' := 6) (kc := 98) (ls0 := [_, _, _]) rfl rfl rfl rfl rfl rfl rfl rfl rfl ?_
  refine s_ildn (p' := 1) rfl rfl rfl ?_
  refine s_ildn (p' := 2) rfl rfl rfl ?_
  refine s_icmp (p' := 14) true rfl ((ch_gt (w := 0) (by decide +kernel)).trans (decide_eq_true (by omega))) rfl ?_
  refine s_con (p' := 15) rfl rfl ?_
  refine c_iret rfl (by decide +kernel) ?_
  refine s_if (p' := 31) true rfl (by decide +kernel) rfl ?_
  refine s_con (p' := 32) rfl rfl ?_
  refine s_istn (p' := 33) (ls' := [_, _, _, _]) rfl rfl rfl rfl ?_
  refine s_aldn (p' := 34) rfl rfl rfl ?_
  refine s_ildn (p' := 35) rfl rfl rfl ?_
  refine s_if (p' := 38) false rfl (by decide +kernel) rfl ?_
  refine s_con (p' := 39) rfl rfl ?_
  refine s_goto (p' := 61) rfl rfl ?_
  refine c_call (p' := 64) (kc := 98) (ls0 := [_, _]) rfl rfl rfl rfl rfl (mj_rcv_is (rd_app H400)) rfl rfl rfl ?_
  refine s_aldn (p' := 1) rfl rfl rfl ?_
  refine s_ildn (p' := 2) rfl rfl rfl ?_
  refine s_pfz (p' := 5) (fs' := [_, _, _, _, _, _, _, _, _, _, _]) rfl rfl (rd_app H400) rfl rfl rfl rfl ?_
  refine s_ildn (p' := 6) rfl rfl rfl ?_
  refine s_if (p' := 9) false rfl (by decide +kernel) rfl ?_
  refine s_con (p' := 10) rfl rfl ?_
  refine s_goto (p' := 14) rfl rfl ?_
  refine c_iret rfl (by decide +kernel) ?_
  refine s_if (p' := 67) false rfl (by decide +kernel) rfl ?_
  refine s_con (p' := 68) rfl rfl ?_
  refine k_iret rfl rfl ?_
  refine l_ist (p' := 1854) (ls' := [_, _, _, _, _, _, _, _, _, _]) rfl rfl rfl rfl rfl ?_
  refine l_aldn (p' := 1855) rfl rfl rfl rfl ?_
  refine l_call (p' := 1858) (kc := 99) (ls0 := [_]) rfl rfl rfl rfl rfl rfl (mj_rcv_is (rd_ss rfl (rd_app H400))) rfl rfl rfl ?_
  refine s_aldn (p' := 1) rfl rfl rfl ?_
  refine s_gf (p' := 4) rfl (rd_ss rfl (rd_app H400)) rfl rfl ?_
  refine k_iret rfl rfl ?_
  refine l_ild (p' := 1860) rfl rfl rfl rfl ?_
  refine l_icmp (p' := 1865) true rfl rfl (by decide +kernel) rfl ?_
  refine l_ild (p' := 1867) rfl rfl rfl rfl ?_
  refine l_if (p' := 1882) true rfl rfl (by decide +kernel) rfl ?_
  refine l_goto (p' := 2541) rfl rfl rfl ?_
  refine l_incz (p' := 2544) (w := (nI (i + 4))) (ls' := [_, _, _, _, _, _, _, _, _, _]) rfl rfl rfl rfl (mI_add _ _) rfl rfl ?_
  refine l_goto (p' := 28) rfl rfl rfl ?_
  exact hn _ _ _ _ _ ⟨(rd_ss rfl (rd_app H400)), (mz_fr.s (by decide) (mz_fr.a (mz_fr.rf _ h))), (Nat.le_trans (Nat.le_of_eq (len_s (len_a HL rfl))) (by omega)), (Nat.le_trans (sz_s rfl (rd_app H400) rfl (sz_aa (k := 6) (m := mj_sz h + 6) rfl (by omega) (Nat.le_refl (mj_sz h)))) (by omega))⟩
theorem w_29_m {L i N : Nat} {xs : Nat → Int32} {h : mj_H} {l6 l7 l8 l9 : Option Value} {P : mj_H → Prop} (hL : L ≤ 2048) (hi : i + 4 ≤ L) (hN : N + 2000 < mj_CB) (hN0 : 414 ≤ N) (HL : h.length = N) (hk : xs i &&& nI 63 = nI 29) {gs pl ty wa nw nx dp ca mf : Value} {th : Int32} {sd be : Int64} {ou : Nat → Int64} {vf wf sf uf im jm : Nat → Int32} {k g : Nat} (hk20 : k ≤ 20) (hvw : ∀ j, j < 8 → wf j = vf j) (hsu : ∀ j, j < k → uf j = sf j) (him : ∀ j, j < 8 → jm j = im j) {pe pm ge gm : Value} {q : Nat} (hq6 : q ≤ 6) (hg24 : g ≤ 24) {rf : Nat → Int32} {E cap : Nat} {mc : Int32} {ef : Nat → Option Nat} {G : Nat → Nat} (hG1 : ∀ j, j < g → rf j = nI (G j) ∧ G j < 24) (hE0 : 414 ≤ E) (hEA : mj_rdA h E = some (6, (cap, .inr (.inr (.inr (.inr ef)))))) (hG2 : ∀ j, j < g → ef j = some (1000138 + G j) ∧ G j < 24) (hgc : g ≤ cap) (hc31 : cap < 1000) {p : Int32} (hp : 2 < p.toInt) (hx1 : xs (i + 1) = p) (H0 : mj_rd h 0 = some (.inr (0, [.ref 1, .ref 38, .ref 299, .ref 336, .ref 373, .ref 375, .ref 378, .ref 381, .ref 387, .ref 393, gs, pl, .ref 397, .ref 398, .ref 399, .long sd, .long be]))) (H400 : mj_rd h 400 = some (.inr (17, [.int th, .ref 401, .ref 402, ty, .long sd, .long be, .ref 410, wa, nw, nx, .ref 411]))) (hn : ∀ (l6 l7 l8 l9 : Option Value) (h' : mj_H), mj_rd h' 400 = some (.inr (17, [.int (nI 1), .ref 401, .ref 402, ty, .long sd, .long be, .ref 410, wa, nw, nx, .ref 411])) ∧ mz_fr [400] h h' ∧ h'.length ≤ N + 1 ∧ mj_sz h' ≤ mj_sz h + 6 → mj_lrun L xs (28, [some (.retAddr 1), some (.ref 0), some (.ref 400), some (.ref 412), some (.ref 413), some (.int (nI (i + 4))), l6, l7, l8, l9], [], h') P) : mj_lrun L xs (28, [some (.retAddr 1), some (.ref 0), some (.ref 400), some (.ref 412), some (.ref 413), some (.int (nI i)), l6, l7, l8, l9], [], h) P := by
  refine l_ild (p' := 30) rfl rfl rfl rfl ?_
  refine l_alds (p' := 31) rfl rfl rfl rfl ?_
  refine l_lens (p' := 32) rfl rfl rfl ?_
  refine l_con (p' := 33) rfl rfl rfl ?_
  refine l_bz (p' := 34) (z := (nI (L - 4))) rfl rfl rfl rfl rfl (mI_sub (by omega)) ?_
  refine l_icmp (p' := 37) false rfl rfl ((ci_gt (by omega) (by omega)).trans (decide_eq_false (by omega))) rfl ?_
  refine l_alds (p' := 38) rfl rfl rfl rfl ?_
  refine l_ild (p' := 40) rfl rfl rfl rfl ?_
  refine l_ialz (p' := 41) (m := i) (z := (xs i)) rfl rfl (inb_nI (by omega) (by omega)) (mI_cl (by omega)) rfl rfl ?_
  refine l_bip (p' := 43) rfl rfl rfl ?_
  refine l_bz (p' := 44) (z := (nI 29)) rfl rfl rfl rfl rfl hk ?_
  refine l_sp (p' := 1817) (ls' := _) rfl rfl rfl rfl rfl ?_
  refine l_aldn (p' := 1818) rfl rfl rfl rfl ?_
  refine l_alds (p' := 1819) rfl rfl rfl rfl ?_
  refine l_ild (p' := 1821) rfl rfl rfl rfl ?_
  refine l_con (p' := 1822) rfl rfl rfl ?_
  refine l_bz (p' := 1823) (z := (nI (i + 1))) rfl rfl rfl rfl rfl (mI_add _ _) ?_
  refine l_ialz (p' := 1824) (m := (i + 1)) (z := p) rfl rfl (inb_nI (by omega) (by omega)) (mI_cl (by omega)) hx1 rfl ?_
  refine l_alds (p' := 1825) rfl rfl rfl rfl ?_
  refine l_ild (p' := 1827) rfl rfl rfl rfl ?_
  refine l_con (p' := 1828) rfl rfl rfl ?_
  refine l_bz (p' := 1829) (z := (nI (i + 2))) rfl rfl rfl rfl rfl (mI_add _ _) ?_
  refine l_ialz (p' := 1830) (m := (i + 2)) (z := (xs (i + 2))) rfl rfl (inb_nI (by omega) (by omega)) (mI_cl (by omega)) rfl rfl ?_
  refine l_aldn (p' := 1831) rfl rfl rfl rfl ?_
  refine l_call (p' := 1834) (kc := 99) (ls0 := [_, _, _, _, _]) rfl rfl rfl rfl rfl rfl rfl rfl rfl rfl ?_
  refine s_aldn (p' := 1) rfl rfl rfl ?_
  refine s_con (p' := 2) rfl rfl ?_
  refine s_aldn (p' := 3) rfl rfl rfl ?_
  refine s_ildn (p' := 4) rfl rfl rfl ?_
  refine s_ildn (p' := 5) rfl rfl rfl ?_
  refine c_call (p' := 8) (kc := 98) (ls0 := [_, _, _]) rfl rfl rfl rfl rfl (mj_rcv_is H0) rfl rfl rfl ?_
  refine s_ildn (p' := 1) rfl rfl rfl ?_
  refine s_if (p' := 4) false rfl ((cg_lt (w := 0) (by decide +kernel)).trans (decide_eq_false (by omega))) rfl ?_
  refine s_ildn (p' := 5) rfl rfl rfl ?_
  refine s_con (p' := 6) rfl rfl ?_
  refine s_icmp (p' := 19) true rfl ((cg_ge (w := 3) (by decide +kernel)).trans (decide_eq_true (by omega))) rfl ?_
  refine s_thrz (q := N) rfl HL rfl ?_
  refine K_c (hp := 13) (Nat.blt_eq.mpr (by omega)) (mj_ocl_is (rd_nw (Nat.blt_eq.mpr (by omega)) HL)) rfl ?_
  refine s_ast (p' := 15) (ls' := [_, _, _, _, _]) rfl rfl rfl rfl ?_
  refine s_con (p' := 16) rfl rfl ?_
  refine k_iret rfl rfl ?_
  refine l_ist (p' := 1836) (ls' := [_, _, _, _, _, _, _, _, _, _]) rfl rfl rfl rfl rfl ?_
  refine l_aldn (p' := 1837) rfl rfl rfl rfl ?_
  refine l_alds (p' := 1838) rfl rfl rfl rfl ?_
  refine l_ild (p' := 1840) rfl rfl rfl rfl ?_
  refine l_con (p' := 1841) rfl rfl rfl ?_
  refine l_bz (p' := 1842) (z := (nI (i + 1))) rfl rfl rfl rfl rfl (mI_add _ _) ?_
  refine l_ialz (p' := 1843) (m := (i + 1)) (z := p) rfl rfl (inb_nI (by omega) (by omega)) (mI_cl (by omega)) hx1 rfl ?_
  refine l_alds (p' := 1844) rfl rfl rfl rfl ?_
  refine l_ild (p' := 1846) rfl rfl rfl rfl ?_
  refine l_con (p' := 1847) rfl rfl rfl ?_
  refine l_bz (p' := 1848) (z := (nI (i + 2))) rfl rfl rfl rfl rfl (mI_add _ _) ?_
  refine l_ialz (p' := 1849) (m := (i + 2)) (z := (xs (i + 2))) rfl rfl (inb_nI (by omega) (by omega)) (mI_cl (by omega)) rfl rfl ?_
  refine l_call (p' := 1852) (kc := 99) (ls0 := [_, _, _, _]) rfl rfl rfl rfl rfl rfl (mj_rcv_is (rd_app H400)) rfl rfl rfl ?_
  refine s_ildn (p' := 1) rfl rfl rfl ?_
  refine s_con (p' := 2) rfl rfl ?_
  refine s_con (p' := 3) rfl rfl ?_
  refine c_call (p' := 6) (kc := 98) (ls0 := [_, _, _]) rfl rfl rfl rfl rfl rfl rfl rfl rfl ?_
  refine s_ildn (p' := 1) rfl rfl rfl ?_
  refine s_ildn (p' := 2) rfl rfl rfl ?_
  refine s_icmp (p' := 5) false rfl ((ch_gt (w := 0) (by decide +kernel)).trans (decide_eq_false (by omega))) rfl ?_
  refine s_ildn (p' := 6) rfl rfl rfl ?_
  refine s_ildn (p' := 7) rfl rfl rfl ?_
  refine s_icmp (p' := 14) true rfl ((cg_gt (w := 2) (by decide +kernel)).trans (decide_eq_true (by omega))) rfl ?_
  refine s_con (p' := 15) rfl rfl ?_
  refine c_iret rfl (by decide +kernel) ?_
  refine s_if (p' := 31) true rfl (by decide +kernel) rfl ?_
  refine s_con (p' := 32) rfl rfl ?_
  refine s_istn (p' := 33) (ls' := [_, _, _, _]) rfl rfl rfl rfl ?_
  refine s_aldn (p' := 34) rfl rfl rfl ?_
  refine s_ildn (p' := 35) rfl rfl rfl ?_
  refine s_if (p' := 38) false rfl (by decide +kernel) rfl ?_
  refine s_con (p' := 39) rfl rfl ?_
  refine s_goto (p' := 61) rfl rfl ?_
  refine c_call (p' := 64) (kc := 98) (ls0 := [_, _]) rfl rfl rfl rfl rfl (mj_rcv_is (rd_app H400)) rfl rfl rfl ?_
  refine s_aldn (p' := 1) rfl rfl rfl ?_
  refine s_ildn (p' := 2) rfl rfl rfl ?_
  refine s_pfz (p' := 5) (fs' := [_, _, _, _, _, _, _, _, _, _, _]) rfl rfl (rd_app H400) rfl rfl rfl rfl ?_
  refine s_ildn (p' := 6) rfl rfl rfl ?_
  refine s_if (p' := 9) false rfl (by decide +kernel) rfl ?_
  refine s_con (p' := 10) rfl rfl ?_
  refine s_goto (p' := 14) rfl rfl ?_
  refine c_iret rfl (by decide +kernel) ?_
  refine s_if (p' := 67) false rfl (by decide +kernel) rfl ?_
  refine s_con (p' := 68) rfl rfl ?_
  refine k_iret rfl rfl ?_
  refine l_ist (p' := 1854) (ls' := [_, _, _, _, _, _, _, _, _, _]) rfl rfl rfl rfl rfl ?_
  refine l_aldn (p' := 1855) rfl rfl rfl rfl ?_
  refine l_call (p' := 1858) (kc := 99) (ls0 := [_]) rfl rfl rfl rfl rfl rfl (mj_rcv_is (rd_ss rfl (rd_app H400))) rfl rfl rfl ?_
  refine s_aldn (p' := 1) rfl rfl rfl ?_
  refine s_gf (p' := 4) rfl (rd_ss rfl (rd_app H400)) rfl rfl ?_
  refine k_iret rfl rfl ?_
  refine l_ild (p' := 1860) rfl rfl rfl rfl ?_
  refine l_icmp (p' := 1865) true rfl rfl (by decide +kernel) rfl ?_
  refine l_ild (p' := 1867) rfl rfl rfl rfl ?_
  refine l_if (p' := 1882) true rfl rfl (by decide +kernel) rfl ?_
  refine l_goto (p' := 2541) rfl rfl rfl ?_
  refine l_incz (p' := 2544) (w := (nI (i + 4))) (ls' := [_, _, _, _, _, _, _, _, _, _]) rfl rfl rfl rfl (mI_add _ _) rfl rfl ?_
  refine l_goto (p' := 28) rfl rfl rfl ?_
  exact hn _ _ _ _ _ ⟨(rd_ss rfl (rd_app H400)), (mz_fr.s (by decide) (mz_fr.a (mz_fr.rf _ h))), (Nat.le_trans (Nat.le_of_eq (len_s (len_a HL rfl))) (by omega)), (Nat.le_trans (sz_s rfl (rd_app H400) rfl (sz_aa (k := 6) (m := mj_sz h + 6) rfl (by omega) (Nat.le_refl (mj_sz h)))) (by omega))⟩
theorem w_29_ln {L i N : Nat} {xs : Nat → Int32} {h : mj_H} {l6 l7 l8 l9 : Option Value} {P : mj_H → Prop} (hL : L ≤ 2048) (hi : i + 4 ≤ L) (hN : N + 2000 < mj_CB) (hN0 : 414 ≤ N) (HL : h.length = N) (hk : xs i &&& nI 63 = nI 29) {gs pl ty wa nw nx dp ca mf : Value} {th : Int32} {sd be : Int64} {ou : Nat → Int64} {vf wf sf uf im jm : Nat → Int32} {k g : Nat} (hk20 : k ≤ 20) (hvw : ∀ j, j < 8 → wf j = vf j) (hsu : ∀ j, j < k → uf j = sf j) (him : ∀ j, j < 8 → jm j = im j) {pe pm ge gm : Value} {q : Nat} (hq6 : q ≤ 6) (hg24 : g ≤ 24) {rf : Nat → Int32} {E cap : Nat} {mc : Int32} {ef : Nat → Option Nat} {G : Nat → Nat} (hG1 : ∀ j, j < g → rf j = nI (G j) ∧ G j < 24) (hE0 : 414 ≤ E) (hEA : mj_rdA h E = some (6, (cap, .inr (.inr (.inr (.inr ef)))))) (hG2 : ∀ j, j < g → ef j = some (1000138 + G j) ∧ G j < 24) (hgc : g ≤ cap) (hc31 : cap < 1000) {l : Nat} {p : Int32} (hl : l < 3) (hp : p.toInt < 0) (hx1 : xs (i + 1) = nI l) (hx2 : xs (i + 2) = p) (H0 : mj_rd h 0 = some (.inr (0, [.ref 1, .ref 38, .ref 299, .ref 336, .ref 373, .ref 375, .ref 378, .ref 381, .ref 387, .ref 393, gs, pl, .ref 397, .ref 398, .ref 399, .long sd, .long be]))) (H400 : mj_rd h 400 = some (.inr (17, [.int th, .ref 401, .ref 402, ty, .long sd, .long be, .ref 410, wa, nw, nx, .ref 411]))) (hn : ∀ (l6 l7 l8 l9 : Option Value) (h' : mj_H), mj_rd h' 400 = some (.inr (17, [.int (nI 1), .ref 401, .ref 402, ty, .long sd, .long be, .ref 410, wa, nw, nx, .ref 411])) ∧ mz_fr [400] h h' ∧ h'.length ≤ N + 1 ∧ mj_sz h' ≤ mj_sz h + 6 → mj_lrun L xs (28, [some (.retAddr 1), some (.ref 0), some (.ref 400), some (.ref 412), some (.ref 413), some (.int (nI (i + 4))), l6, l7, l8, l9], [], h') P) : mj_lrun L xs (28, [some (.retAddr 1), some (.ref 0), some (.ref 400), some (.ref 412), some (.ref 413), some (.int (nI i)), l6, l7, l8, l9], [], h) P := by
  refine l_ild (p' := 30) rfl rfl rfl rfl ?_
  refine l_alds (p' := 31) rfl rfl rfl rfl ?_
  refine l_lens (p' := 32) rfl rfl rfl ?_
  refine l_con (p' := 33) rfl rfl rfl ?_
  refine l_bz (p' := 34) (z := (nI (L - 4))) rfl rfl rfl rfl rfl (mI_sub (by omega)) ?_
  refine l_icmp (p' := 37) false rfl rfl ((ci_gt (by omega) (by omega)).trans (decide_eq_false (by omega))) rfl ?_
  refine l_alds (p' := 38) rfl rfl rfl rfl ?_
  refine l_ild (p' := 40) rfl rfl rfl rfl ?_
  refine l_ialz (p' := 41) (m := i) (z := (xs i)) rfl rfl (inb_nI (by omega) (by omega)) (mI_cl (by omega)) rfl rfl ?_
  refine l_bip (p' := 43) rfl rfl rfl ?_
  refine l_bz (p' := 44) (z := (nI 29)) rfl rfl rfl rfl rfl hk ?_
  refine l_sp (p' := 1817) (ls' := _) rfl rfl rfl rfl rfl ?_
  refine l_aldn (p' := 1818) rfl rfl rfl rfl ?_
  refine l_alds (p' := 1819) rfl rfl rfl rfl ?_
  refine l_ild (p' := 1821) rfl rfl rfl rfl ?_
  refine l_con (p' := 1822) rfl rfl rfl ?_
  refine l_bz (p' := 1823) (z := (nI (i + 1))) rfl rfl rfl rfl rfl (mI_add _ _) ?_
  refine l_ialz (p' := 1824) (m := (i + 1)) (z := (nI l)) rfl rfl (inb_nI (by omega) (by omega)) (mI_cl (by omega)) hx1 rfl ?_
  refine l_alds (p' := 1825) rfl rfl rfl rfl ?_
  refine l_ild (p' := 1827) rfl rfl rfl rfl ?_
  refine l_con (p' := 1828) rfl rfl rfl ?_
  refine l_bz (p' := 1829) (z := (nI (i + 2))) rfl rfl rfl rfl rfl (mI_add _ _) ?_
  refine l_ialz (p' := 1830) (m := (i + 2)) (z := p) rfl rfl (inb_nI (by omega) (by omega)) (mI_cl (by omega)) hx2 rfl ?_
  refine l_aldn (p' := 1831) rfl rfl rfl rfl ?_
  refine l_call (p' := 1834) (kc := 99) (ls0 := [_, _, _, _, _]) rfl rfl rfl rfl rfl rfl rfl rfl rfl rfl ?_
  refine s_aldn (p' := 1) rfl rfl rfl ?_
  refine s_con (p' := 2) rfl rfl ?_
  refine s_aldn (p' := 3) rfl rfl rfl ?_
  refine s_ildn (p' := 4) rfl rfl rfl ?_
  refine s_ildn (p' := 5) rfl rfl rfl ?_
  refine c_call (p' := 8) (kc := 98) (ls0 := [_, _, _]) rfl rfl rfl rfl rfl (mj_rcv_is H0) rfl rfl rfl ?_
  refine s_ildn (p' := 1) rfl rfl rfl ?_
  refine s_if (p' := 4) false rfl ((cg_lt (w := 0) (by decide +kernel)).trans (decide_eq_false (by rw [mI_ti (by omega)]; omega))) rfl ?_
  refine s_ildn (p' := 5) rfl rfl rfl ?_
  refine s_con (p' := 6) rfl rfl ?_
  refine s_icmp (p' := 9) false rfl ((cg_ge (w := 3) (by decide +kernel)).trans (decide_eq_false (by rw [mI_ti (by omega)]; omega))) rfl ?_
  refine s_ildn (p' := 10) rfl rfl rfl ?_
  refine s_if (p' := 19) true rfl ((cg_lt (w := 0) (by decide +kernel)).trans (decide_eq_true (by omega))) rfl ?_
  refine s_thrz (q := N) rfl HL rfl ?_
  refine K_c (hp := 13) (Nat.blt_eq.mpr (by omega)) (mj_ocl_is (rd_nw (Nat.blt_eq.mpr (by omega)) HL)) rfl ?_
  refine s_ast (p' := 15) (ls' := [_, _, _, _, _]) rfl rfl rfl rfl ?_
  refine s_con (p' := 16) rfl rfl ?_
  refine k_iret rfl rfl ?_
  refine l_ist (p' := 1836) (ls' := [_, _, _, _, _, _, _, _, _, _]) rfl rfl rfl rfl rfl ?_
  refine l_aldn (p' := 1837) rfl rfl rfl rfl ?_
  refine l_alds (p' := 1838) rfl rfl rfl rfl ?_
  refine l_ild (p' := 1840) rfl rfl rfl rfl ?_
  refine l_con (p' := 1841) rfl rfl rfl ?_
  refine l_bz (p' := 1842) (z := (nI (i + 1))) rfl rfl rfl rfl rfl (mI_add _ _) ?_
  refine l_ialz (p' := 1843) (m := (i + 1)) (z := (nI l)) rfl rfl (inb_nI (by omega) (by omega)) (mI_cl (by omega)) hx1 rfl ?_
  refine l_alds (p' := 1844) rfl rfl rfl rfl ?_
  refine l_ild (p' := 1846) rfl rfl rfl rfl ?_
  refine l_con (p' := 1847) rfl rfl rfl ?_
  refine l_bz (p' := 1848) (z := (nI (i + 2))) rfl rfl rfl rfl rfl (mI_add _ _) ?_
  refine l_ialz (p' := 1849) (m := (i + 2)) (z := p) rfl rfl (inb_nI (by omega) (by omega)) (mI_cl (by omega)) hx2 rfl ?_
  refine l_call (p' := 1852) (kc := 99) (ls0 := [_, _, _, _]) rfl rfl rfl rfl rfl rfl (mj_rcv_is (rd_app H400)) rfl rfl rfl ?_
  refine s_ildn (p' := 1) rfl rfl rfl ?_
  refine s_con (p' := 2) rfl rfl ?_
  refine s_con (p' := 3) rfl rfl ?_
  refine c_call (p' := 6) (kc := 98) (ls0 := [_, _, _]) rfl rfl rfl rfl rfl rfl rfl rfl rfl ?_
  refine s_ildn (p' := 1) rfl rfl rfl ?_
  refine s_ildn (p' := 2) rfl rfl rfl ?_
  refine s_icmp (p' := 5) false rfl ((ch_gt (w := 0) (by decide +kernel)).trans (decide_eq_false (by rw [mI_ti (by omega)]; omega))) rfl ?_
  refine s_ildn (p' := 6) rfl rfl rfl ?_
  refine s_ildn (p' := 7) rfl rfl rfl ?_
  refine s_icmp (p' := 10) false rfl ((cg_gt (w := 2) (by decide +kernel)).trans (decide_eq_false (by rw [mI_ti (by omega)]; omega))) rfl ?_
  refine s_con (p' := 11) rfl rfl ?_
  refine s_goto (p' := 15) rfl rfl ?_
  refine c_iret rfl (by decide +kernel) ?_
  refine s_if (p' := 9) false rfl (by decide +kernel) rfl ?_
  refine s_ildn (p' := 10) rfl rfl rfl ?_
  refine s_con (p' := 11) rfl rfl ?_
  refine s_bip (p' := 13) rfl rfl ?_
  refine c_call (p' := 16) (kc := 98) (ls0 := [_, _, _]) rfl rfl rfl rfl rfl rfl rfl rfl rfl ?_
  refine s_ildn (p' := 1) rfl rfl rfl ?_
  refine s_ildn (p' := 2) rfl rfl rfl ?_
  refine s_icmp (p' := 14) true rfl ((ch_gt (w := 0) (by decide +kernel)).trans (decide_eq_true (by omega))) rfl ?_
  refine s_con (p' := 15) rfl rfl ?_
  refine c_iret rfl (by decide +kernel) ?_
  refine s_if (p' := 31) true rfl (by decide +kernel) rfl ?_
  refine s_con (p' := 32) rfl rfl ?_
  refine s_istn (p' := 33) (ls' := [_, _, _, _]) rfl rfl rfl rfl ?_
  refine s_aldn (p' := 34) rfl rfl rfl ?_
  refine s_ildn (p' := 35) rfl rfl rfl ?_
  refine s_if (p' := 38) false rfl (by decide +kernel) rfl ?_
  refine s_con (p' := 39) rfl rfl ?_
  refine s_goto (p' := 61) rfl rfl ?_
  refine c_call (p' := 64) (kc := 98) (ls0 := [_, _]) rfl rfl rfl rfl rfl (mj_rcv_is (rd_app H400)) rfl rfl rfl ?_
  refine s_aldn (p' := 1) rfl rfl rfl ?_
  refine s_ildn (p' := 2) rfl rfl rfl ?_
  refine s_pfz (p' := 5) (fs' := [_, _, _, _, _, _, _, _, _, _, _]) rfl rfl (rd_app H400) rfl rfl rfl rfl ?_
  refine s_ildn (p' := 6) rfl rfl rfl ?_
  refine s_if (p' := 9) false rfl (by decide +kernel) rfl ?_
  refine s_con (p' := 10) rfl rfl ?_
  refine s_goto (p' := 14) rfl rfl ?_
  refine c_iret rfl (by decide +kernel) ?_
  refine s_if (p' := 67) false rfl (by decide +kernel) rfl ?_
  refine s_con (p' := 68) rfl rfl ?_
  refine k_iret rfl rfl ?_
  refine l_ist (p' := 1854) (ls' := [_, _, _, _, _, _, _, _, _, _]) rfl rfl rfl rfl rfl ?_
  refine l_aldn (p' := 1855) rfl rfl rfl rfl ?_
  refine l_call (p' := 1858) (kc := 99) (ls0 := [_]) rfl rfl rfl rfl rfl rfl (mj_rcv_is (rd_ss rfl (rd_app H400))) rfl rfl rfl ?_
  refine s_aldn (p' := 1) rfl rfl rfl ?_
  refine s_gf (p' := 4) rfl (rd_ss rfl (rd_app H400)) rfl rfl ?_
  refine k_iret rfl rfl ?_
  refine l_ild (p' := 1860) rfl rfl rfl rfl ?_
  refine l_icmp (p' := 1865) true rfl rfl (by decide +kernel) rfl ?_
  refine l_ild (p' := 1867) rfl rfl rfl rfl ?_
  refine l_if (p' := 1882) true rfl rfl (by decide +kernel) rfl ?_
  refine l_goto (p' := 2541) rfl rfl rfl ?_
  refine l_incz (p' := 2544) (w := (nI (i + 4))) (ls' := [_, _, _, _, _, _, _, _, _, _]) rfl rfl rfl rfl (mI_add _ _) rfl rfl ?_
  refine l_goto (p' := 28) rfl rfl rfl ?_
  exact hn _ _ _ _ _ ⟨(rd_ss rfl (rd_app H400)), (mz_fr.s (by decide) (mz_fr.a (mz_fr.rf _ h))), (Nat.le_trans (Nat.le_of_eq (len_s (len_a HL rfl))) (by omega)), (Nat.le_trans (sz_s rfl (rd_app H400) rfl (sz_aa (k := 6) (m := mj_sz h + 6) rfl (by omega) (Nat.le_refl (mj_sz h)))) (by omega))⟩
theorem w_29_lm {L i N : Nat} {xs : Nat → Int32} {h : mj_H} {l6 l7 l8 l9 : Option Value} {P : mj_H → Prop} (hL : L ≤ 2048) (hi : i + 4 ≤ L) (hN : N + 2000 < mj_CB) (hN0 : 414 ≤ N) (HL : h.length = N) (hk : xs i &&& nI 63 = nI 29) {gs pl ty wa nw nx dp ca mf : Value} {th : Int32} {sd be : Int64} {ou : Nat → Int64} {vf wf sf uf im jm : Nat → Int32} {k g : Nat} (hk20 : k ≤ 20) (hvw : ∀ j, j < 8 → wf j = vf j) (hsu : ∀ j, j < k → uf j = sf j) (him : ∀ j, j < 8 → jm j = im j) {pe pm ge gm : Value} {q : Nat} (hq6 : q ≤ 6) (hg24 : g ≤ 24) {rf : Nat → Int32} {E cap : Nat} {mc : Int32} {ef : Nat → Option Nat} {G : Nat → Nat} (hG1 : ∀ j, j < g → rf j = nI (G j) ∧ G j < 24) (hE0 : 414 ≤ E) (hEA : mj_rdA h E = some (6, (cap, .inr (.inr (.inr (.inr ef)))))) (hG2 : ∀ j, j < g → ef j = some (1000138 + G j) ∧ G j < 24) (hgc : g ≤ cap) (hc31 : cap < 1000) {l : Nat} {p : Int32} (hl : l < 3) (hp : 7 < p.toInt) (hx1 : xs (i + 1) = nI l) (hx2 : xs (i + 2) = p) (H0 : mj_rd h 0 = some (.inr (0, [.ref 1, .ref 38, .ref 299, .ref 336, .ref 373, .ref 375, .ref 378, .ref 381, .ref 387, .ref 393, gs, pl, .ref 397, .ref 398, .ref 399, .long sd, .long be]))) (H400 : mj_rd h 400 = some (.inr (17, [.int th, .ref 401, .ref 402, ty, .long sd, .long be, .ref 410, wa, nw, nx, .ref 411]))) (hn : ∀ (l6 l7 l8 l9 : Option Value) (h' : mj_H), mj_rd h' 400 = some (.inr (17, [.int (nI 1), .ref 401, .ref 402, ty, .long sd, .long be, .ref 410, wa, nw, nx, .ref 411])) ∧ mz_fr [400] h h' ∧ h'.length ≤ N + 1 ∧ mj_sz h' ≤ mj_sz h + 6 → mj_lrun L xs (28, [some (.retAddr 1), some (.ref 0), some (.ref 400), some (.ref 412), some (.ref 413), some (.int (nI (i + 4))), l6, l7, l8, l9], [], h') P) : mj_lrun L xs (28, [some (.retAddr 1), some (.ref 0), some (.ref 400), some (.ref 412), some (.ref 413), some (.int (nI i)), l6, l7, l8, l9], [], h) P := by
  refine l_ild (p' := 30) rfl rfl rfl rfl ?_
  refine l_alds (p' := 31) rfl rfl rfl rfl ?_
  refine l_lens (p' := 32) rfl rfl rfl ?_
  refine l_con (p' := 33) rfl rfl rfl ?_
  refine l_bz (p' := 34) (z := (nI (L - 4))) rfl rfl rfl rfl rfl (mI_sub (by omega)) ?_
  refine l_icmp (p' := 37) false rfl rfl ((ci_gt (by omega) (by omega)).trans (decide_eq_false (by omega))) rfl ?_
  refine l_alds (p' := 38) rfl rfl rfl rfl ?_
  refine l_ild (p' := 40) rfl rfl rfl rfl ?_
  refine l_ialz (p' := 41) (m := i) (z := (xs i)) rfl rfl (inb_nI (by omega) (by omega)) (mI_cl (by omega)) rfl rfl ?_
  refine l_bip (p' := 43) rfl rfl rfl ?_
  refine l_bz (p' := 44) (z := (nI 29)) rfl rfl rfl rfl rfl hk ?_
  refine l_sp (p' := 1817) (ls' := _) rfl rfl rfl rfl rfl ?_
  refine l_aldn (p' := 1818) rfl rfl rfl rfl ?_
  refine l_alds (p' := 1819) rfl rfl rfl rfl ?_
  refine l_ild (p' := 1821) rfl rfl rfl rfl ?_
  refine l_con (p' := 1822) rfl rfl rfl ?_
  refine l_bz (p' := 1823) (z := (nI (i + 1))) rfl rfl rfl rfl rfl (mI_add _ _) ?_
  refine l_ialz (p' := 1824) (m := (i + 1)) (z := (nI l)) rfl rfl (inb_nI (by omega) (by omega)) (mI_cl (by omega)) hx1 rfl ?_
  refine l_alds (p' := 1825) rfl rfl rfl rfl ?_
  refine l_ild (p' := 1827) rfl rfl rfl rfl ?_
  refine l_con (p' := 1828) rfl rfl rfl ?_
  refine l_bz (p' := 1829) (z := (nI (i + 2))) rfl rfl rfl rfl rfl (mI_add _ _) ?_
  refine l_ialz (p' := 1830) (m := (i + 2)) (z := p) rfl rfl (inb_nI (by omega) (by omega)) (mI_cl (by omega)) hx2 rfl ?_
  refine l_aldn (p' := 1831) rfl rfl rfl rfl ?_
  refine l_call (p' := 1834) (kc := 99) (ls0 := [_, _, _, _, _]) rfl rfl rfl rfl rfl rfl rfl rfl rfl rfl ?_
  refine s_aldn (p' := 1) rfl rfl rfl ?_
  refine s_con (p' := 2) rfl rfl ?_
  refine s_aldn (p' := 3) rfl rfl rfl ?_
  refine s_ildn (p' := 4) rfl rfl rfl ?_
  refine s_ildn (p' := 5) rfl rfl rfl ?_
  refine c_call (p' := 8) (kc := 98) (ls0 := [_, _, _]) rfl rfl rfl rfl rfl (mj_rcv_is H0) rfl rfl rfl ?_
  refine s_ildn (p' := 1) rfl rfl rfl ?_
  refine s_if (p' := 4) false rfl ((cg_lt (w := 0) (by decide +kernel)).trans (decide_eq_false (by rw [mI_ti (by omega)]; omega))) rfl ?_
  refine s_ildn (p' := 5) rfl rfl rfl ?_
  refine s_con (p' := 6) rfl rfl ?_
  refine s_icmp (p' := 9) false rfl ((cg_ge (w := 3) (by decide +kernel)).trans (decide_eq_false (by rw [mI_ti (by omega)]; omega))) rfl ?_
  refine s_ildn (p' := 10) rfl rfl rfl ?_
  refine s_if (p' := 13) false rfl ((cg_lt (w := 0) (by decide +kernel)).trans (decide_eq_false (by omega))) rfl ?_
  refine s_ildn (p' := 14) rfl rfl rfl ?_
  refine s_bip (p' := 16) rfl rfl ?_
  refine s_icmp (p' := 19) false rfl ((cg_lt (w := 8) (by decide +kernel)).trans (decide_eq_false (by omega))) rfl ?_
  refine s_thrz (q := N) rfl HL rfl ?_
  refine K_c (hp := 13) (Nat.blt_eq.mpr (by omega)) (mj_ocl_is (rd_nw (Nat.blt_eq.mpr (by omega)) HL)) rfl ?_
  refine s_ast (p' := 15) (ls' := [_, _, _, _, _]) rfl rfl rfl rfl ?_
  refine s_con (p' := 16) rfl rfl ?_
  refine k_iret rfl rfl ?_
  refine l_ist (p' := 1836) (ls' := [_, _, _, _, _, _, _, _, _, _]) rfl rfl rfl rfl rfl ?_
  refine l_aldn (p' := 1837) rfl rfl rfl rfl ?_
  refine l_alds (p' := 1838) rfl rfl rfl rfl ?_
  refine l_ild (p' := 1840) rfl rfl rfl rfl ?_
  refine l_con (p' := 1841) rfl rfl rfl ?_
  refine l_bz (p' := 1842) (z := (nI (i + 1))) rfl rfl rfl rfl rfl (mI_add _ _) ?_
  refine l_ialz (p' := 1843) (m := (i + 1)) (z := (nI l)) rfl rfl (inb_nI (by omega) (by omega)) (mI_cl (by omega)) hx1 rfl ?_
  refine l_alds (p' := 1844) rfl rfl rfl rfl ?_
  refine l_ild (p' := 1846) rfl rfl rfl rfl ?_
  refine l_con (p' := 1847) rfl rfl rfl ?_
  refine l_bz (p' := 1848) (z := (nI (i + 2))) rfl rfl rfl rfl rfl (mI_add _ _) ?_
  refine l_ialz (p' := 1849) (m := (i + 2)) (z := p) rfl rfl (inb_nI (by omega) (by omega)) (mI_cl (by omega)) hx2 rfl ?_
  refine l_call (p' := 1852) (kc := 99) (ls0 := [_, _, _, _]) rfl rfl rfl rfl rfl rfl (mj_rcv_is (rd_app H400)) rfl rfl rfl ?_
  refine s_ildn (p' := 1) rfl rfl rfl ?_
  refine s_con (p' := 2) rfl rfl ?_
  refine s_con (p' := 3) rfl rfl ?_
  refine c_call (p' := 6) (kc := 98) (ls0 := [_, _, _]) rfl rfl rfl rfl rfl rfl rfl rfl rfl ?_
  refine s_ildn (p' := 1) rfl rfl rfl ?_
  refine s_ildn (p' := 2) rfl rfl rfl ?_
  refine s_icmp (p' := 5) false rfl ((ch_gt (w := 0) (by decide +kernel)).trans (decide_eq_false (by rw [mI_ti (by omega)]; omega))) rfl ?_
  refine s_ildn (p' := 6) rfl rfl rfl ?_
  refine s_ildn (p' := 7) rfl rfl rfl ?_
  refine s_icmp (p' := 10) false rfl ((cg_gt (w := 2) (by decide +kernel)).trans (decide_eq_false (by rw [mI_ti (by omega)]; omega))) rfl ?_
  refine s_con (p' := 11) rfl rfl ?_
  refine s_goto (p' := 15) rfl rfl ?_
  refine c_iret rfl (by decide +kernel) ?_
  refine s_if (p' := 9) false rfl (by decide +kernel) rfl ?_
  refine s_ildn (p' := 10) rfl rfl rfl ?_
  refine s_con (p' := 11) rfl rfl ?_
  refine s_bip (p' := 13) rfl rfl ?_
  refine c_call (p' := 16) (kc := 98) (ls0 := [_, _, _]) rfl rfl rfl rfl rfl rfl rfl rfl rfl ?_
  refine s_ildn (p' := 1) rfl rfl rfl ?_
  refine s_ildn (p' := 2) rfl rfl rfl ?_
  refine s_icmp (p' := 5) false rfl ((ch_gt (w := 0) (by decide +kernel)).trans (decide_eq_false (by omega))) rfl ?_
  refine s_ildn (p' := 6) rfl rfl rfl ?_
  refine s_ildn (p' := 7) rfl rfl rfl ?_
  refine s_icmp (p' := 14) true rfl ((cg_gt (w := 7) (by decide +kernel)).trans (decide_eq_true (by omega))) rfl ?_
  refine s_con (p' := 15) rfl rfl ?_
  refine c_iret rfl (by decide +kernel) ?_
  refine s_if (p' := 31) true rfl (by decide +kernel) rfl ?_
  refine s_con (p' := 32) rfl rfl ?_
  refine s_istn (p' := 33) (ls' := [_, _, _, _]) rfl rfl rfl rfl ?_
  refine s_aldn (p' := 34) rfl rfl rfl ?_
  refine s_ildn (p' := 35) rfl rfl rfl ?_
  refine s_if (p' := 38) false rfl (by decide +kernel) rfl ?_
  refine s_con (p' := 39) rfl rfl ?_
  refine s_goto (p' := 61) rfl rfl ?_
  refine c_call (p' := 64) (kc := 98) (ls0 := [_, _]) rfl rfl rfl rfl rfl (mj_rcv_is (rd_app H400)) rfl rfl rfl ?_
  refine s_aldn (p' := 1) rfl rfl rfl ?_
  refine s_ildn (p' := 2) rfl rfl rfl ?_
  refine s_pfz (p' := 5) (fs' := [_, _, _, _, _, _, _, _, _, _, _]) rfl rfl (rd_app H400) rfl rfl rfl rfl ?_
  refine s_ildn (p' := 6) rfl rfl rfl ?_
  refine s_if (p' := 9) false rfl (by decide +kernel) rfl ?_
  refine s_con (p' := 10) rfl rfl ?_
  refine s_goto (p' := 14) rfl rfl ?_
  refine c_iret rfl (by decide +kernel) ?_
  refine s_if (p' := 67) false rfl (by decide +kernel) rfl ?_
  refine s_con (p' := 68) rfl rfl ?_
  refine k_iret rfl rfl ?_
  refine l_ist (p' := 1854) (ls' := [_, _, _, _, _, _, _, _, _, _]) rfl rfl rfl rfl rfl ?_
  refine l_aldn (p' := 1855) rfl rfl rfl rfl ?_
  refine l_call (p' := 1858) (kc := 99) (ls0 := [_]) rfl rfl rfl rfl rfl rfl (mj_rcv_is (rd_ss rfl (rd_app H400))) rfl rfl rfl ?_
  refine s_aldn (p' := 1) rfl rfl rfl ?_
  refine s_gf (p' := 4) rfl (rd_ss rfl (rd_app H400)) rfl rfl ?_
  refine k_iret rfl rfl ?_
  refine l_ild (p' := 1860) rfl rfl rfl rfl ?_
  refine l_icmp (p' := 1865) true rfl rfl (by decide +kernel) rfl ?_
  refine l_ild (p' := 1867) rfl rfl rfl rfl ?_
  refine l_if (p' := 1882) true rfl rfl (by decide +kernel) rfl ?_
  refine l_goto (p' := 2541) rfl rfl rfl ?_
  refine l_incz (p' := 2544) (w := (nI (i + 4))) (ls' := [_, _, _, _, _, _, _, _, _, _]) rfl rfl rfl rfl (mI_add _ _) rfl rfl ?_
  refine l_goto (p' := 28) rfl rfl rfl ?_
  exact hn _ _ _ _ _ ⟨(rd_ss rfl (rd_app H400)), (mz_fr.s (by decide) (mz_fr.a (mz_fr.rf _ h))), (Nat.le_trans (Nat.le_of_eq (len_s (len_a HL rfl))) (by omega)), (Nat.le_trans (sz_s rfl (rd_app H400) rfl (sz_aa (k := 6) (m := mj_sz h + 6) rfl (by omega) (Nat.le_refl (mj_sz h)))) (by omega))⟩
theorem w_29_lc {L i N : Nat} {xs : Nat → Int32} {h : mj_H} {l6 l7 l8 l9 : Option Value} {P : mj_H → Prop} (hL : L ≤ 2048) (hi : i + 4 ≤ L) (hN : N + 2000 < mj_CB) (hN0 : 414 ≤ N) (HL : h.length = N) (hk : xs i &&& nI 63 = nI 29) {gs pl ty wa nw nx dp ca mf : Value} {th : Int32} {sd be : Int64} {ou : Nat → Int64} {vf wf sf uf im jm : Nat → Int32} {k g : Nat} (hk20 : k ≤ 20) (hvw : ∀ j, j < 8 → wf j = vf j) (hsu : ∀ j, j < k → uf j = sf j) (him : ∀ j, j < 8 → jm j = im j) {pe pm ge gm : Value} {q : Nat} (hq6 : q ≤ 6) (hg24 : g ≤ 24) {rf : Nat → Int32} {E cap : Nat} {mc : Int32} {ef : Nat → Option Nat} {G : Nat → Nat} (hG1 : ∀ j, j < g → rf j = nI (G j) ∧ G j < 24) (hE0 : 414 ≤ E) (hEA : mj_rdA h E = some (6, (cap, .inr (.inr (.inr (.inr ef)))))) (hG2 : ∀ j, j < g → ef j = some (1000138 + G j) ∧ G j < 24) (hgc : g ≤ cap) (hc31 : cap < 1000) {l c : Nat} {w1 : Int32} (hl : l < 3) (hc : c < 8) (hw1 : ¬ w1.toInt = 0) (hcl : nI c &&& (nI 1 <<< (nI l &&& 31)) = w1) (hcr : (nI c >>> (nI l &&& 31)) &&& nI 1 = nI 1)  (hx1 : xs (i + 1) = nI l) (hx2 : xs (i + 2) = nI c) (H0 : mj_rd h 0 = some (.inr (0, [.ref 1, .ref 38, .ref 299, .ref 336, .ref 373, .ref 375, .ref 378, .ref 381, .ref 387, .ref 393, gs, pl, .ref 397, .ref 398, .ref 399, .long sd, .long be]))) (H400 : mj_rd h 400 = some (.inr (17, [.int th, .ref 401, .ref 402, ty, .long sd, .long be, .ref 410, wa, nw, nx, .ref 411]))) (hn : ∀ (l6 l7 l8 l9 : Option Value) (h' : mj_H), mj_rd h' 400 = some (.inr (17, [.int (nI 1), .ref 401, .ref 402, ty, .long sd, .long be, .ref 410, wa, nw, nx, .ref 411])) ∧ mz_fr [400] h h' ∧ h'.length ≤ N + 1 ∧ mj_sz h' ≤ mj_sz h + 6 → mj_lrun L xs (28, [some (.retAddr 1), some (.ref 0), some (.ref 400), some (.ref 412), some (.ref 413), some (.int (nI (i + 4))), l6, l7, l8, l9], [], h') P) : mj_lrun L xs (28, [some (.retAddr 1), some (.ref 0), some (.ref 400), some (.ref 412), some (.ref 413), some (.int (nI i)), l6, l7, l8, l9], [], h) P := by
  refine l_ild (p' := 30) rfl rfl rfl rfl ?_
  refine l_alds (p' := 31) rfl rfl rfl rfl ?_
  refine l_lens (p' := 32) rfl rfl rfl ?_
  refine l_con (p' := 33) rfl rfl rfl ?_
  refine l_bz (p' := 34) (z := (nI (L - 4))) rfl rfl rfl rfl rfl (mI_sub (by omega)) ?_
  refine l_icmp (p' := 37) false rfl rfl ((ci_gt (by omega) (by omega)).trans (decide_eq_false (by omega))) rfl ?_
  refine l_alds (p' := 38) rfl rfl rfl rfl ?_
  refine l_ild (p' := 40) rfl rfl rfl rfl ?_
  refine l_ialz (p' := 41) (m := i) (z := (xs i)) rfl rfl (inb_nI (by omega) (by omega)) (mI_cl (by omega)) rfl rfl ?_
  refine l_bip (p' := 43) rfl rfl rfl ?_
  refine l_bz (p' := 44) (z := (nI 29)) rfl rfl rfl rfl rfl hk ?_
  refine l_sp (p' := 1817) (ls' := _) rfl rfl rfl rfl rfl ?_
  refine l_aldn (p' := 1818) rfl rfl rfl rfl ?_
  refine l_alds (p' := 1819) rfl rfl rfl rfl ?_
  refine l_ild (p' := 1821) rfl rfl rfl rfl ?_
  refine l_con (p' := 1822) rfl rfl rfl ?_
  refine l_bz (p' := 1823) (z := (nI (i + 1))) rfl rfl rfl rfl rfl (mI_add _ _) ?_
  refine l_ialz (p' := 1824) (m := (i + 1)) (z := (nI l)) rfl rfl (inb_nI (by omega) (by omega)) (mI_cl (by omega)) hx1 rfl ?_
  refine l_alds (p' := 1825) rfl rfl rfl rfl ?_
  refine l_ild (p' := 1827) rfl rfl rfl rfl ?_
  refine l_con (p' := 1828) rfl rfl rfl ?_
  refine l_bz (p' := 1829) (z := (nI (i + 2))) rfl rfl rfl rfl rfl (mI_add _ _) ?_
  refine l_ialz (p' := 1830) (m := (i + 2)) (z := (nI c)) rfl rfl (inb_nI (by omega) (by omega)) (mI_cl (by omega)) hx2 rfl ?_
  refine l_aldn (p' := 1831) rfl rfl rfl rfl ?_
  refine l_call (p' := 1834) (kc := 99) (ls0 := [_, _, _, _, _]) rfl rfl rfl rfl rfl rfl rfl rfl rfl rfl ?_
  refine s_aldn (p' := 1) rfl rfl rfl ?_
  refine s_con (p' := 2) rfl rfl ?_
  refine s_aldn (p' := 3) rfl rfl rfl ?_
  refine s_ildn (p' := 4) rfl rfl rfl ?_
  refine s_ildn (p' := 5) rfl rfl rfl ?_
  refine c_call (p' := 8) (kc := 98) (ls0 := [_, _, _]) rfl rfl rfl rfl rfl (mj_rcv_is H0) rfl rfl rfl ?_
  refine s_ildn (p' := 1) rfl rfl rfl ?_
  refine s_if (p' := 4) false rfl ((cg_lt (w := 0) (by decide +kernel)).trans (decide_eq_false (by rw [mI_ti (by omega)]; omega))) rfl ?_
  refine s_ildn (p' := 5) rfl rfl rfl ?_
  refine s_con (p' := 6) rfl rfl ?_
  refine s_icmp (p' := 9) false rfl ((cg_ge (w := 3) (by decide +kernel)).trans (decide_eq_false (by rw [mI_ti (by omega)]; omega))) rfl ?_
  refine s_ildn (p' := 10) rfl rfl rfl ?_
  refine s_if (p' := 13) false rfl ((cg_lt (w := 0) (by decide +kernel)).trans (decide_eq_false (by rw [mI_ti (by omega)]; omega))) rfl ?_
  refine s_ildn (p' := 14) rfl rfl rfl ?_
  refine s_bip (p' := 16) rfl rfl ?_
  refine s_icmp (p' := 30) true rfl ((cg_lt (w := 8) (by decide +kernel)).trans (decide_eq_true (by rw [mI_ti (by omega)]; omega))) rfl ?_
  refine s_ildn (p' := 31) rfl rfl rfl ?_
  refine s_con (p' := 32) rfl rfl ?_
  refine s_ildn (p' := 33) rfl rfl rfl ?_
  refine s_bz (p' := 34) (z := (nI 1 <<< (nI l &&& 31))) rfl rfl rfl rfl ?_
  refine s_bz (p' := 35) (z := w1) rfl rfl rfl hcl ?_
  refine s_if (p' := 38) false rfl ((cg_eq (w := 0) (by decide +kernel)).trans (decide_eq_false (by omega))) rfl ?_
  refine s_thrz (q := N) rfl HL rfl ?_
  refine K_c (hp := 13) (Nat.blt_eq.mpr (by omega)) (mj_ocl_is (rd_nw (Nat.blt_eq.mpr (by omega)) HL)) rfl ?_
  refine s_ast (p' := 15) (ls' := [_, _, _, _, _]) rfl rfl rfl rfl ?_
  refine s_con (p' := 16) rfl rfl ?_
  refine k_iret rfl rfl ?_
  refine l_ist (p' := 1836) (ls' := [_, _, _, _, _, _, _, _, _, _]) rfl rfl rfl rfl rfl ?_
  refine l_aldn (p' := 1837) rfl rfl rfl rfl ?_
  refine l_alds (p' := 1838) rfl rfl rfl rfl ?_
  refine l_ild (p' := 1840) rfl rfl rfl rfl ?_
  refine l_con (p' := 1841) rfl rfl rfl ?_
  refine l_bz (p' := 1842) (z := (nI (i + 1))) rfl rfl rfl rfl rfl (mI_add _ _) ?_
  refine l_ialz (p' := 1843) (m := (i + 1)) (z := (nI l)) rfl rfl (inb_nI (by omega) (by omega)) (mI_cl (by omega)) hx1 rfl ?_
  refine l_alds (p' := 1844) rfl rfl rfl rfl ?_
  refine l_ild (p' := 1846) rfl rfl rfl rfl ?_
  refine l_con (p' := 1847) rfl rfl rfl ?_
  refine l_bz (p' := 1848) (z := (nI (i + 2))) rfl rfl rfl rfl rfl (mI_add _ _) ?_
  refine l_ialz (p' := 1849) (m := (i + 2)) (z := (nI c)) rfl rfl (inb_nI (by omega) (by omega)) (mI_cl (by omega)) hx2 rfl ?_
  refine l_call (p' := 1852) (kc := 99) (ls0 := [_, _, _, _]) rfl rfl rfl rfl rfl rfl (mj_rcv_is (rd_app H400)) rfl rfl rfl ?_
  refine s_ildn (p' := 1) rfl rfl rfl ?_
  refine s_con (p' := 2) rfl rfl ?_
  refine s_con (p' := 3) rfl rfl ?_
  refine c_call (p' := 6) (kc := 98) (ls0 := [_, _, _]) rfl rfl rfl rfl rfl rfl rfl rfl rfl ?_
  refine s_ildn (p' := 1) rfl rfl rfl ?_
  refine s_ildn (p' := 2) rfl rfl rfl ?_
  refine s_icmp (p' := 5) false rfl ((ch_gt (w := 0) (by decide +kernel)).trans (decide_eq_false (by rw [mI_ti (by omega)]; omega))) rfl ?_
  refine s_ildn (p' := 6) rfl rfl rfl ?_
  refine s_ildn (p' := 7) rfl rfl rfl ?_
  refine s_icmp (p' := 10) false rfl ((cg_gt (w := 2) (by decide +kernel)).trans (decide_eq_false (by rw [mI_ti (by omega)]; omega))) rfl ?_
  refine s_con (p' := 11) rfl rfl ?_
  refine s_goto (p' := 15) rfl rfl ?_
  refine c_iret rfl (by decide +kernel) ?_
  refine s_if (p' := 9) false rfl (by decide +kernel) rfl ?_
  refine s_ildn (p' := 10) rfl rfl rfl ?_
  refine s_con (p' := 11) rfl rfl ?_
  refine s_bip (p' := 13) rfl rfl ?_
  refine c_call (p' := 16) (kc := 98) (ls0 := [_, _, _]) rfl rfl rfl rfl rfl rfl rfl rfl rfl ?_
  refine s_ildn (p' := 1) rfl rfl rfl ?_
  refine s_ildn (p' := 2) rfl rfl rfl ?_
  refine s_icmp (p' := 5) false rfl ((ch_gt (w := 0) (by decide +kernel)).trans (decide_eq_false (by rw [mI_ti (by omega)]; omega))) rfl ?_
  refine s_ildn (p' := 6) rfl rfl rfl ?_
  refine s_ildn (p' := 7) rfl rfl rfl ?_
  refine s_icmp (p' := 10) false rfl ((cg_gt (w := 7) (by decide +kernel)).trans (decide_eq_false (by rw [mI_ti (by omega)]; omega))) rfl ?_
  refine s_con (p' := 11) rfl rfl ?_
  refine s_goto (p' := 15) rfl rfl ?_
  refine c_iret rfl (by decide +kernel) ?_
  refine s_if (p' := 19) false rfl (by decide +kernel) rfl ?_
  refine s_ildn (p' := 20) rfl rfl rfl ?_
  refine s_ildn (p' := 21) rfl rfl rfl ?_
  refine s_bz (p' := 22) (z := (nI c >>> (nI l &&& 31))) rfl rfl rfl rfl ?_
  refine s_con (p' := 23) rfl rfl ?_
  refine s_bz (p' := 24) (z := (nI 1)) rfl rfl rfl hcr ?_
  refine s_if (p' := 31) true rfl (by decide +kernel) rfl ?_
  refine s_con (p' := 32) rfl rfl ?_
  refine s_istn (p' := 33) (ls' := [_, _, _, _]) rfl rfl rfl rfl ?_
  refine s_aldn (p' := 34) rfl rfl rfl ?_
  refine s_ildn (p' := 35) rfl rfl rfl ?_
  refine s_if (p' := 38) false rfl (by decide +kernel) rfl ?_
  refine s_con (p' := 39) rfl rfl ?_
  refine s_goto (p' := 61) rfl rfl ?_
  refine c_call (p' := 64) (kc := 98) (ls0 := [_, _]) rfl rfl rfl rfl rfl (mj_rcv_is (rd_app H400)) rfl rfl rfl ?_
  refine s_aldn (p' := 1) rfl rfl rfl ?_
  refine s_ildn (p' := 2) rfl rfl rfl ?_
  refine s_pfz (p' := 5) (fs' := [_, _, _, _, _, _, _, _, _, _, _]) rfl rfl (rd_app H400) rfl rfl rfl rfl ?_
  refine s_ildn (p' := 6) rfl rfl rfl ?_
  refine s_if (p' := 9) false rfl (by decide +kernel) rfl ?_
  refine s_con (p' := 10) rfl rfl ?_
  refine s_goto (p' := 14) rfl rfl ?_
  refine c_iret rfl (by decide +kernel) ?_
  refine s_if (p' := 67) false rfl (by decide +kernel) rfl ?_
  refine s_con (p' := 68) rfl rfl ?_
  refine k_iret rfl rfl ?_
  refine l_ist (p' := 1854) (ls' := [_, _, _, _, _, _, _, _, _, _]) rfl rfl rfl rfl rfl ?_
  refine l_aldn (p' := 1855) rfl rfl rfl rfl ?_
  refine l_call (p' := 1858) (kc := 99) (ls0 := [_]) rfl rfl rfl rfl rfl rfl (mj_rcv_is (rd_ss rfl (rd_app H400))) rfl rfl rfl ?_
  refine s_aldn (p' := 1) rfl rfl rfl ?_
  refine s_gf (p' := 4) rfl (rd_ss rfl (rd_app H400)) rfl rfl ?_
  refine k_iret rfl rfl ?_
  refine l_ild (p' := 1860) rfl rfl rfl rfl ?_
  refine l_icmp (p' := 1865) true rfl rfl (by decide +kernel) rfl ?_
  refine l_ild (p' := 1867) rfl rfl rfl rfl ?_
  refine l_if (p' := 1882) true rfl rfl (by decide +kernel) rfl ?_
  refine l_goto (p' := 2541) rfl rfl rfl ?_
  refine l_incz (p' := 2544) (w := (nI (i + 4))) (ls' := [_, _, _, _, _, _, _, _, _, _]) rfl rfl rfl rfl (mI_add _ _) rfl rfl ?_
  refine l_goto (p' := 28) rfl rfl rfl ?_
  exact hn _ _ _ _ _ ⟨(rd_ss rfl (rd_app H400)), (mz_fr.s (by decide) (mz_fr.a (mz_fr.rf _ h))), (Nat.le_trans (Nat.le_of_eq (len_s (len_a HL rfl))) (by omega)), (Nat.le_trans (sz_s rfl (rd_app H400) rfl (sz_aa (k := 6) (m := mj_sz h + 6) rfl (by omega) (Nat.le_refl (mj_sz h)))) (by omega))⟩
theorem w_29_f {L i N : Nat} {xs : Nat → Int32} {h : mj_H} {l6 l7 l8 l9 : Option Value} {P : mj_H → Prop} (hL : L ≤ 2048) (hi : i + 4 ≤ L) (hN : N + 2000 < mj_CB) (hN0 : 414 ≤ N) (HL : h.length = N) (hk : xs i &&& nI 63 = nI 29) {gs pl ty wa nw nx dp ca mf : Value} {th : Int32} {sd be : Int64} {ou : Nat → Int64} {vf wf sf uf im jm : Nat → Int32} {k g : Nat} (hk20 : k ≤ 20) (hvw : ∀ j, j < 8 → wf j = vf j) (hsu : ∀ j, j < k → uf j = sf j) (him : ∀ j, j < 8 → jm j = im j) {pe pm ge gm : Value} {q : Nat} (hq6 : q ≤ 6) (hg24 : g ≤ 24) {rf : Nat → Int32} {E cap : Nat} {mc : Int32} {ef : Nat → Option Nat} {G : Nat → Nat} (hG1 : ∀ j, j < g → rf j = nI (G j) ∧ G j < 24) (hE0 : 414 ≤ E) (hEA : mj_rdA h E = some (6, (cap, .inr (.inr (.inr (.inr ef)))))) (hG2 : ∀ j, j < g → ef j = some (1000138 + G j) ∧ G j < 24) (hgc : g ≤ cap) (hc31 : cap < 1000) {l c : Nat} (hl : l < 3) (hc : c < 8) (hcl : nI c &&& (nI 1 <<< (nI l &&& 31)) = nI 0) (hcr : (nI c >>> (nI l &&& 31)) &&& nI 1 = nI 0)  (hx1 : xs (i + 1) = nI l) (hx2 : xs (i + 2) = nI c) (H0 : mj_rd h 0 = some (.inr (0, [.ref 1, .ref 38, .ref 299, .ref 336, .ref 373, .ref 375, .ref 378, .ref 381, .ref 387, .ref 393, gs, pl, .ref 397, .ref 398, .ref 399, .long sd, .long be]))) (H393 : mj_rd h 393 = some (.inr (9, [.ref 394, .ref 395, .ref 396, .int (nI 24), mf]))) (H400 : mj_rd h 400 = some (.inr (17, [.int th, .ref 401, .ref 402, ty, .long sd, .long be, .ref 410, wa, nw, nx, .ref 411]))) (H410 : mj_rd h 410 = some (.inr (18, [.ref E, .int (nI 24), .int mc]))) (hn : ∀ (l6 l7 l8 l9 : Option Value) (h' : mj_H), mj_rd h' 400 = some (.inr (17, [.int (nI 2), .ref 401, .ref 402, ty, .long sd, .long be, .ref 410, wa, nw, nx, .ref 411])) ∧ mz_fr [400] h h' ∧ h'.length ≤ N + 1 ∧ mj_sz h' ≤ mj_sz h + 6 → mj_lrun L xs (28, [some (.retAddr 1), some (.ref 0), some (.ref 400), some (.ref 412), some (.ref 413), some (.int (nI (i + 4))), l6, l7, l8, l9], [], h') P) : mj_lrun L xs (28, [some (.retAddr 1), some (.ref 0), some (.ref 400), some (.ref 412), some (.ref 413), some (.int (nI i)), l6, l7, l8, l9], [], h) P := by
  refine l_ild (p' := 30) rfl rfl rfl rfl ?_
  refine l_alds (p' := 31) rfl rfl rfl rfl ?_
  refine l_lens (p' := 32) rfl rfl rfl ?_
  refine l_con (p' := 33) rfl rfl rfl ?_
  refine l_bz (p' := 34) (z := (nI (L - 4))) rfl rfl rfl rfl rfl (mI_sub (by omega)) ?_
  refine l_icmp (p' := 37) false rfl rfl ((ci_gt (by omega) (by omega)).trans (decide_eq_false (by omega))) rfl ?_
  refine l_alds (p' := 38) rfl rfl rfl rfl ?_
  refine l_ild (p' := 40) rfl rfl rfl rfl ?_
  refine l_ialz (p' := 41) (m := i) (z := (xs i)) rfl rfl (inb_nI (by omega) (by omega)) (mI_cl (by omega)) rfl rfl ?_
  refine l_bip (p' := 43) rfl rfl rfl ?_
  refine l_bz (p' := 44) (z := (nI 29)) rfl rfl rfl rfl rfl hk ?_
  refine l_sp (p' := 1817) (ls' := _) rfl rfl rfl rfl rfl ?_
  refine l_aldn (p' := 1818) rfl rfl rfl rfl ?_
  refine l_alds (p' := 1819) rfl rfl rfl rfl ?_
  refine l_ild (p' := 1821) rfl rfl rfl rfl ?_
  refine l_con (p' := 1822) rfl rfl rfl ?_
  refine l_bz (p' := 1823) (z := (nI (i + 1))) rfl rfl rfl rfl rfl (mI_add _ _) ?_
  refine l_ialz (p' := 1824) (m := (i + 1)) (z := (nI l)) rfl rfl (inb_nI (by omega) (by omega)) (mI_cl (by omega)) hx1 rfl ?_
  refine l_alds (p' := 1825) rfl rfl rfl rfl ?_
  refine l_ild (p' := 1827) rfl rfl rfl rfl ?_
  refine l_con (p' := 1828) rfl rfl rfl ?_
  refine l_bz (p' := 1829) (z := (nI (i + 2))) rfl rfl rfl rfl rfl (mI_add _ _) ?_
  refine l_ialz (p' := 1830) (m := (i + 2)) (z := (nI c)) rfl rfl (inb_nI (by omega) (by omega)) (mI_cl (by omega)) hx2 rfl ?_
  refine l_aldn (p' := 1831) rfl rfl rfl rfl ?_
  refine l_call (p' := 1834) (kc := 99) (ls0 := [_, _, _, _, _]) rfl rfl rfl rfl rfl rfl rfl rfl rfl rfl ?_
  refine s_aldn (p' := 1) rfl rfl rfl ?_
  refine s_con (p' := 2) rfl rfl ?_
  refine s_aldn (p' := 3) rfl rfl rfl ?_
  refine s_ildn (p' := 4) rfl rfl rfl ?_
  refine s_ildn (p' := 5) rfl rfl rfl ?_
  refine c_call (p' := 8) (kc := 98) (ls0 := [_, _, _]) rfl rfl rfl rfl rfl (mj_rcv_is H0) rfl rfl rfl ?_
  refine s_ildn (p' := 1) rfl rfl rfl ?_
  refine s_if (p' := 4) false rfl ((cg_lt (w := 0) (by decide +kernel)).trans (decide_eq_false (by rw [mI_ti (by omega)]; omega))) rfl ?_
  refine s_ildn (p' := 5) rfl rfl rfl ?_
  refine s_con (p' := 6) rfl rfl ?_
  refine s_icmp (p' := 9) false rfl ((cg_ge (w := 3) (by decide +kernel)).trans (decide_eq_false (by rw [mI_ti (by omega)]; omega))) rfl ?_
  refine s_ildn (p' := 10) rfl rfl rfl ?_
  refine s_if (p' := 13) false rfl ((cg_lt (w := 0) (by decide +kernel)).trans (decide_eq_false (by rw [mI_ti (by omega)]; omega))) rfl ?_
  refine s_ildn (p' := 14) rfl rfl rfl ?_
  refine s_bip (p' := 16) rfl rfl ?_
  refine s_icmp (p' := 30) true rfl ((cg_lt (w := 8) (by decide +kernel)).trans (decide_eq_true (by rw [mI_ti (by omega)]; omega))) rfl ?_
  refine s_ildn (p' := 31) rfl rfl rfl ?_
  refine s_con (p' := 32) rfl rfl ?_
  refine s_ildn (p' := 33) rfl rfl rfl ?_
  refine s_bz (p' := 34) (z := (nI 1 <<< (nI l &&& 31))) rfl rfl rfl rfl ?_
  refine s_bz (p' := 35) (z := (nI 0)) rfl rfl rfl hcl ?_
  refine s_if (p' := 49) true rfl (by decide +kernel) rfl ?_
  refine s_aldn (p' := 50) rfl rfl rfl ?_
  refine s_gf (p' := 53) rfl H0 rfl rfl ?_
  refine c_call (p' := 56) (kc := 97) (ls0 := [_]) rfl rfl rfl rfl rfl (mj_rcv_is H393) rfl rfl rfl ?_
  refine s_aldn (p' := 1) rfl rfl rfl ?_
  refine s_gf (p' := 4) rfl H393 rfl rfl ?_
  refine s_bip (p' := 6) rfl rfl ?_
  refine s_icmp (p' := 9) false rfl (by decide +kernel) rfl ?_
  refine s_con (p' := 10) rfl rfl ?_
  refine s_goto (p' := 14) rfl rfl ?_
  refine c_iret rfl (by decide +kernel) ?_
  refine s_if (p' := 59) false rfl (by decide +kernel) rfl ?_
  refine s_thrz (q := N) rfl HL rfl ?_
  refine K_c (hp := 17) (Nat.blt_eq.mpr (by omega)) (mj_ocl_is (rd_nw (Nat.blt_eq.mpr (by omega)) HL)) rfl ?_
  refine s_ast (p' := 19) (ls' := [_, _, _, _, _]) rfl rfl rfl rfl ?_
  refine s_con (p' := 20) rfl rfl ?_
  refine k_iret rfl rfl ?_
  refine l_ist (p' := 1836) (ls' := [_, _, _, _, _, _, _, _, _, _]) rfl rfl rfl rfl rfl ?_
  refine l_aldn (p' := 1837) rfl rfl rfl rfl ?_
  refine l_alds (p' := 1838) rfl rfl rfl rfl ?_
  refine l_ild (p' := 1840) rfl rfl rfl rfl ?_
  refine l_con (p' := 1841) rfl rfl rfl ?_
  refine l_bz (p' := 1842) (z := (nI (i + 1))) rfl rfl rfl rfl rfl (mI_add _ _) ?_
  refine l_ialz (p' := 1843) (m := (i + 1)) (z := (nI l)) rfl rfl (inb_nI (by omega) (by omega)) (mI_cl (by omega)) hx1 rfl ?_
  refine l_alds (p' := 1844) rfl rfl rfl rfl ?_
  refine l_ild (p' := 1846) rfl rfl rfl rfl ?_
  refine l_con (p' := 1847) rfl rfl rfl ?_
  refine l_bz (p' := 1848) (z := (nI (i + 2))) rfl rfl rfl rfl rfl (mI_add _ _) ?_
  refine l_ialz (p' := 1849) (m := (i + 2)) (z := (nI c)) rfl rfl (inb_nI (by omega) (by omega)) (mI_cl (by omega)) hx2 rfl ?_
  refine l_call (p' := 1852) (kc := 99) (ls0 := [_, _, _, _]) rfl rfl rfl rfl rfl rfl (mj_rcv_is (rd_app H400)) rfl rfl rfl ?_
  refine s_ildn (p' := 1) rfl rfl rfl ?_
  refine s_con (p' := 2) rfl rfl ?_
  refine s_con (p' := 3) rfl rfl ?_
  refine c_call (p' := 6) (kc := 98) (ls0 := [_, _, _]) rfl rfl rfl rfl rfl rfl rfl rfl rfl ?_
  refine s_ildn (p' := 1) rfl rfl rfl ?_
  refine s_ildn (p' := 2) rfl rfl rfl ?_
  refine s_icmp (p' := 5) false rfl ((ch_gt (w := 0) (by decide +kernel)).trans (decide_eq_false (by rw [mI_ti (by omega)]; omega))) rfl ?_
  refine s_ildn (p' := 6) rfl rfl rfl ?_
  refine s_ildn (p' := 7) rfl rfl rfl ?_
  refine s_icmp (p' := 10) false rfl ((cg_gt (w := 2) (by decide +kernel)).trans (decide_eq_false (by rw [mI_ti (by omega)]; omega))) rfl ?_
  refine s_con (p' := 11) rfl rfl ?_
  refine s_goto (p' := 15) rfl rfl ?_
  refine c_iret rfl (by decide +kernel) ?_
  refine s_if (p' := 9) false rfl (by decide +kernel) rfl ?_
  refine s_ildn (p' := 10) rfl rfl rfl ?_
  refine s_con (p' := 11) rfl rfl ?_
  refine s_bip (p' := 13) rfl rfl ?_
  refine c_call (p' := 16) (kc := 98) (ls0 := [_, _, _]) rfl rfl rfl rfl rfl rfl rfl rfl rfl ?_
  refine s_ildn (p' := 1) rfl rfl rfl ?_
  refine s_ildn (p' := 2) rfl rfl rfl ?_
  refine s_icmp (p' := 5) false rfl ((ch_gt (w := 0) (by decide +kernel)).trans (decide_eq_false (by rw [mI_ti (by omega)]; omega))) rfl ?_
  refine s_ildn (p' := 6) rfl rfl rfl ?_
  refine s_ildn (p' := 7) rfl rfl rfl ?_
  refine s_icmp (p' := 10) false rfl ((cg_gt (w := 7) (by decide +kernel)).trans (decide_eq_false (by rw [mI_ti (by omega)]; omega))) rfl ?_
  refine s_con (p' := 11) rfl rfl ?_
  refine s_goto (p' := 15) rfl rfl ?_
  refine c_iret rfl (by decide +kernel) ?_
  refine s_if (p' := 19) false rfl (by decide +kernel) rfl ?_
  refine s_ildn (p' := 20) rfl rfl rfl ?_
  refine s_ildn (p' := 21) rfl rfl rfl ?_
  refine s_bz (p' := 22) (z := (nI c >>> (nI l &&& 31))) rfl rfl rfl rfl ?_
  refine s_con (p' := 23) rfl rfl ?_
  refine s_bz (p' := 24) (z := (nI 0)) rfl rfl rfl hcr ?_
  refine s_if (p' := 27) false rfl (by decide +kernel) rfl ?_
  refine s_con (p' := 28) rfl rfl ?_
  refine s_goto (p' := 32) rfl rfl ?_
  refine s_istn (p' := 33) (ls' := [_, _, _, _]) rfl rfl rfl rfl ?_
  refine s_aldn (p' := 34) rfl rfl rfl ?_
  refine s_ildn (p' := 35) rfl rfl rfl ?_
  refine s_if (p' := 42) true rfl (by decide +kernel) rfl ?_
  refine s_aldn (p' := 43) rfl rfl rfl ?_
  refine s_gf (p' := 46) rfl (rd_app H400) rfl rfl ?_
  refine c_call (p' := 51) (kc := 98) (ls0 := [_]) rfl rfl rfl rfl rfl (mj_rcv_is (rd_app H410)) rfl rfl rfl ?_
  refine s_aldn (p' := 1) rfl rfl rfl ?_
  refine s_gf (p' := 4) rfl (rd_app H410) rfl rfl ?_
  refine c_iret rfl rfl ?_
  refine s_bip (p' := 53) rfl rfl ?_
  refine s_icmp (p' := 56) false rfl (by decide +kernel) rfl ?_
  refine s_con (p' := 57) rfl rfl ?_
  refine s_goto (p' := 61) rfl rfl ?_
  refine c_call (p' := 64) (kc := 98) (ls0 := [_, _]) rfl rfl rfl rfl rfl (mj_rcv_is (rd_app H400)) rfl rfl rfl ?_
  refine s_aldn (p' := 1) rfl rfl rfl ?_
  refine s_ildn (p' := 2) rfl rfl rfl ?_
  refine s_pfz (p' := 5) (fs' := [_, _, _, _, _, _, _, _, _, _, _]) rfl rfl (rd_app H400) rfl rfl rfl rfl ?_
  refine s_ildn (p' := 6) rfl rfl rfl ?_
  refine s_if (p' := 9) false rfl (by decide +kernel) rfl ?_
  refine s_con (p' := 10) rfl rfl ?_
  refine s_goto (p' := 14) rfl rfl ?_
  refine c_iret rfl (by decide +kernel) ?_
  refine s_if (p' := 67) false rfl (by decide +kernel) rfl ?_
  refine s_con (p' := 68) rfl rfl ?_
  refine k_iret rfl rfl ?_
  refine l_ist (p' := 1854) (ls' := [_, _, _, _, _, _, _, _, _, _]) rfl rfl rfl rfl rfl ?_
  refine l_aldn (p' := 1855) rfl rfl rfl rfl ?_
  refine l_call (p' := 1858) (kc := 99) (ls0 := [_]) rfl rfl rfl rfl rfl rfl (mj_rcv_is (rd_ss rfl (rd_app H400))) rfl rfl rfl ?_
  refine s_aldn (p' := 1) rfl rfl rfl ?_
  refine s_gf (p' := 4) rfl (rd_ss rfl (rd_app H400)) rfl rfl ?_
  refine k_iret rfl rfl ?_
  refine l_ild (p' := 1860) rfl rfl rfl rfl ?_
  refine l_icmp (p' := 1865) true rfl rfl (by decide +kernel) rfl ?_
  refine l_ild (p' := 1867) rfl rfl rfl rfl ?_
  refine l_if (p' := 1882) true rfl rfl (by decide +kernel) rfl ?_
  refine l_goto (p' := 2541) rfl rfl rfl ?_
  refine l_incz (p' := 2544) (w := (nI (i + 4))) (ls' := [_, _, _, _, _, _, _, _, _, _]) rfl rfl rfl rfl (mI_add _ _) rfl rfl ?_
  refine l_goto (p' := 28) rfl rfl rfl ?_
  exact hn _ _ _ _ _ ⟨(rd_ss rfl (rd_app H400)), (mz_fr.s (by decide) (mz_fr.a (mz_fr.rf _ h))), (Nat.le_trans (Nat.le_of_eq (len_s (len_a HL rfl))) (by omega)), (Nat.le_trans (sz_s rfl (rd_app H400) rfl (sz_aa (k := 6) (m := mj_sz h + 6) rfl (by omega) (Nat.le_refl (mj_sz h)))) (by omega))⟩
theorem w_29_0 {L i N : Nat} {xs : Nat → Int32} {h : mj_H} {l6 l7 l8 l9 : Option Value} {P : mj_H → Prop} (hL : L ≤ 2048) (hi : i + 4 ≤ L) (hN : N + 2000 < mj_CB) (hN0 : 414 ≤ N) (HL : h.length = N) (hk : xs i &&& nI 63 = nI 29) {gs pl ty wa nw nx dp ca mf : Value} {th : Int32} {sd be : Int64} {ou : Nat → Int64} {vf wf sf uf im jm : Nat → Int32} {k g : Nat} (hk20 : k ≤ 20) (hvw : ∀ j, j < 8 → wf j = vf j) (hsu : ∀ j, j < k → uf j = sf j) (him : ∀ j, j < 8 → jm j = im j) {pe pm ge gm : Value} {q : Nat} (hq6 : q ≤ 6) (hg24 : g ≤ 24) {rf : Nat → Int32} {mc : Int32} {l c : Nat} (hl : l < 3) (hc : c < 8) (hcl : nI c &&& (nI 1 <<< (nI l &&& 31)) = nI 0) (hcr : (nI c >>> (nI l &&& 31)) &&& nI 1 = nI 0)  (hx1 : xs (i + 1) = nI l) (hx2 : xs (i + 2) = nI c) (H0 : mj_rd h 0 = some (.inr (0, [.ref 1, .ref 38, .ref 299, .ref 336, .ref 373, .ref 375, .ref 378, .ref 381, .ref 387, .ref 393, gs, pl, .ref 397, .ref 398, .ref 399, .long sd, .long be]))) (H393 : mj_rd h 393 = some (.inr (9, [.ref 394, .ref 395, .ref 396, .int (nI 0), mf]))) (H394 : mj_rd h 394 = some (.inl (0, (24, .inl (rf))))) (H400 : mj_rd h 400 = some (.inr (17, [.int th, .ref 401, .ref 402, ty, .long sd, .long be, .ref 410, wa, nw, nx, .ref 411]))) (H410 : mj_rd h 410 = some (.inr (18, [.ref 1000000, .int (nI 0), .int mc]))) (H412 : mj_rd h 412 = some (.inl (4, (1, .inr (.inl (ou)))))) (hn : ∀ (l6 l7 l8 l9 : Option Value) (h' : mj_H), mj_rd h' 393 = some (.inr (9, [.ref 394, .ref 395, .ref 396, .int (nI 1), mf])) ∧ mj_rd h' 394 = some (.inl (0, (24, .inl ((upd rf 0 (nI ((8 * l) + c))))))) ∧ mj_rd h' 400 = some (.inr (17, [.int (nI 0), .ref 401, .ref 402, ty, .long sd, .long be, .ref 410, wa, nw, nx, .ref 411])) ∧ mj_rd h' 410 = some (.inr (18, [.ref N, .int (nI 1), .int (mc + nI 1)])) ∧ mj_rd h' 412 = some (.inl (4, (1, .inr (.inl ((vp_updL ou 0 (lN 1))))))) ∧ mj_rd h' N = some (.inl (6, (10, .inr (.inr (.inr (.inr ((va_up (fun _ => none) 0 (some (1000138 + ((8 * l) + c))))))))))) ∧ mz_fr [393, 394, 400, 410, 412] h h' ∧ h'.length ≤ N + 1 ∧ mj_sz h' ≤ mj_sz h + 10 → mj_lrun L xs (28, [some (.retAddr 1), some (.ref 0), some (.ref 400), some (.ref 412), some (.ref 413), some (.int (nI (i + 4))), l6, l7, l8, l9], [], h') P) : mj_lrun L xs (28, [some (.retAddr 1), some (.ref 0), some (.ref 400), some (.ref 412), some (.ref 413), some (.int (nI i)), l6, l7, l8, l9], [], h) P := by
  refine l_ild (p' := 30) rfl rfl rfl rfl ?_
  refine l_alds (p' := 31) rfl rfl rfl rfl ?_
  refine l_lens (p' := 32) rfl rfl rfl ?_
  refine l_con (p' := 33) rfl rfl rfl ?_
  refine l_bz (p' := 34) (z := (nI (L - 4))) rfl rfl rfl rfl rfl (mI_sub (by omega)) ?_
  refine l_icmp (p' := 37) false rfl rfl ((ci_gt (by omega) (by omega)).trans (decide_eq_false (by omega))) rfl ?_
  refine l_alds (p' := 38) rfl rfl rfl rfl ?_
  refine l_ild (p' := 40) rfl rfl rfl rfl ?_
  refine l_ialz (p' := 41) (m := i) (z := (xs i)) rfl rfl (inb_nI (by omega) (by omega)) (mI_cl (by omega)) rfl rfl ?_
  refine l_bip (p' := 43) rfl rfl rfl ?_
  refine l_bz (p' := 44) (z := (nI 29)) rfl rfl rfl rfl rfl hk ?_
  refine l_sp (p' := 1817) (ls' := _) rfl rfl rfl rfl rfl ?_
  refine l_aldn (p' := 1818) rfl rfl rfl rfl ?_
  refine l_alds (p' := 1819) rfl rfl rfl rfl ?_
  refine l_ild (p' := 1821) rfl rfl rfl rfl ?_
  refine l_con (p' := 1822) rfl rfl rfl ?_
  refine l_bz (p' := 1823) (z := (nI (i + 1))) rfl rfl rfl rfl rfl (mI_add _ _) ?_
  refine l_ialz (p' := 1824) (m := (i + 1)) (z := (nI l)) rfl rfl (inb_nI (by omega) (by omega)) (mI_cl (by omega)) hx1 rfl ?_
  refine l_alds (p' := 1825) rfl rfl rfl rfl ?_
  refine l_ild (p' := 1827) rfl rfl rfl rfl ?_
  refine l_con (p' := 1828) rfl rfl rfl ?_
  refine l_bz (p' := 1829) (z := (nI (i + 2))) rfl rfl rfl rfl rfl (mI_add _ _) ?_
  refine l_ialz (p' := 1830) (m := (i + 2)) (z := (nI c)) rfl rfl (inb_nI (by omega) (by omega)) (mI_cl (by omega)) hx2 rfl ?_
  refine l_aldn (p' := 1831) rfl rfl rfl rfl ?_
  refine l_call (p' := 1834) (kc := 99) (ls0 := [_, _, _, _, _]) rfl rfl rfl rfl rfl rfl rfl rfl rfl rfl ?_
  refine s_aldn (p' := 1) rfl rfl rfl ?_
  refine s_con (p' := 2) rfl rfl ?_
  refine s_aldn (p' := 3) rfl rfl rfl ?_
  refine s_ildn (p' := 4) rfl rfl rfl ?_
  refine s_ildn (p' := 5) rfl rfl rfl ?_
  refine c_call (p' := 8) (kc := 98) (ls0 := [_, _, _]) rfl rfl rfl rfl rfl (mj_rcv_is H0) rfl rfl rfl ?_
  refine s_ildn (p' := 1) rfl rfl rfl ?_
  refine s_if (p' := 4) false rfl ((cg_lt (w := 0) (by decide +kernel)).trans (decide_eq_false (by rw [mI_ti (by omega)]; omega))) rfl ?_
  refine s_ildn (p' := 5) rfl rfl rfl ?_
  refine s_con (p' := 6) rfl rfl ?_
  refine s_icmp (p' := 9) false rfl ((cg_ge (w := 3) (by decide +kernel)).trans (decide_eq_false (by rw [mI_ti (by omega)]; omega))) rfl ?_
  refine s_ildn (p' := 10) rfl rfl rfl ?_
  refine s_if (p' := 13) false rfl ((cg_lt (w := 0) (by decide +kernel)).trans (decide_eq_false (by rw [mI_ti (by omega)]; omega))) rfl ?_
  refine s_ildn (p' := 14) rfl rfl rfl ?_
  refine s_bip (p' := 16) rfl rfl ?_
  refine s_icmp (p' := 30) true rfl ((cg_lt (w := 8) (by decide +kernel)).trans (decide_eq_true (by rw [mI_ti (by omega)]; omega))) rfl ?_
  refine s_ildn (p' := 31) rfl rfl rfl ?_
  refine s_con (p' := 32) rfl rfl ?_
  refine s_ildn (p' := 33) rfl rfl rfl ?_
  refine s_bz (p' := 34) (z := (nI 1 <<< (nI l &&& 31))) rfl rfl rfl rfl ?_
  refine s_bz (p' := 35) (z := (nI 0)) rfl rfl rfl hcl ?_
  refine s_if (p' := 49) true rfl (by decide +kernel) rfl ?_
  refine s_aldn (p' := 50) rfl rfl rfl ?_
  refine s_gf (p' := 53) rfl H0 rfl rfl ?_
  refine c_call (p' := 56) (kc := 97) (ls0 := [_]) rfl rfl rfl rfl rfl (mj_rcv_is H393) rfl rfl rfl ?_
  refine s_aldn (p' := 1) rfl rfl rfl ?_
  refine s_gf (p' := 4) rfl H393 rfl rfl ?_
  refine s_bip (p' := 6) rfl rfl ?_
  refine s_icmp (p' := 13) true rfl (by decide +kernel) rfl ?_
  refine s_con (p' := 14) rfl rfl ?_
  refine c_iret rfl (by decide +kernel) ?_
  refine s_if (p' := 70) true rfl (by decide +kernel) rfl ?_
  refine s_aldn (p' := 71) rfl rfl rfl ?_
  refine s_gf (p' := 74) rfl H0 rfl rfl ?_
  refine s_bip (p' := 76) rfl rfl ?_
  refine s_ildn (p' := 77) rfl rfl rfl ?_
  refine s_bz (p' := 78) (z := (nI (8 * l))) rfl rfl rfl (mI_mul _ _) ?_
  refine s_ildn (p' := 79) rfl rfl rfl ?_
  refine s_bz (p' := 80) (z := (nI ((8 * l) + c))) rfl rfl rfl (mI_add _ _) ?_
  refine c_call (p' := 83) (kc := 97) (ls0 := [_, _]) rfl rfl rfl rfl rfl (mj_rcv_is H393) rfl rfl rfl ?_
  refine s_aldn (p' := 1) rfl rfl rfl ?_
  refine s_gf (p' := 4) rfl H393 rfl rfl ?_
  refine s_if (p' := 7) false rfl (by decide +kernel) rfl ?_
  refine s_aldn (p' := 8) rfl rfl rfl ?_
  refine s_gf (p' := 11) rfl H393 rfl rfl ?_
  refine s_aldn (p' := 12) rfl rfl rfl ?_
  refine s_gf (p' := 15) rfl H393 rfl rfl ?_
  refine s_lenz (p' := 16) rfl (mj_rdA_is H394 (by decide)) rfl rfl ?_
  refine s_icmp (p' := 19) false rfl (by decide +kernel) rfl ?_
  refine s_aldn (p' := 20) rfl rfl rfl ?_
  refine s_gf (p' := 23) rfl H393 rfl rfl ?_
  refine s_aldn (p' := 24) rfl rfl rfl ?_
  refine s_gf (p' := 27) rfl H393 rfl rfl ?_
  refine s_ildn (p' := 28) rfl rfl rfl ?_
  refine s_iasz (p' := 29) (m := 0) rfl rfl H394 (by decide +kernel) rfl rfl rfl ?_
  refine s_aldn (p' := 30) rfl rfl rfl ?_
  refine s_dupr (p' := 31) rfl rfl ?_
  refine s_gf (p' := 34) rfl (rd_sn rfl H393) rfl rfl ?_
  refine s_con (p' := 35) rfl rfl ?_
  refine s_bz (p' := 36) (z := (nI 1)) rfl rfl rfl (by decide +kernel) ?_
  refine s_pfz (p' := 39) (fs' := [_, _, _, _, _]) rfl rfl (rd_sn rfl H393) rfl rfl rfl rfl ?_
  refine c_ret rfl ?_
  refine s_aldn (p' := 84) rfl rfl rfl ?_
  refine s_gf (p' := 87) rfl (rd_sn rfl (rd_sn rfl H0)) rfl rfl ?_
  refine c_call (p' := 90) (kc := 97) (ls0 := [_]) rfl rfl rfl rfl rfl (mj_rcv_is (rd_ss rfl (rd_sn rfl H393))) rfl rfl rfl ?_
  refine s_aldn (p' := 1) rfl rfl rfl ?_
  refine s_gf (p' := 4) rfl (rd_ss rfl (rd_sn rfl H393)) rfl rfl ?_
  refine c_iret rfl rfl ?_
  refine c_iret rfl rfl ?_
  refine s_bzL (p' := 9) (z := (lN 1)) rfl rfl rfl (by decide +kernel) ?_
  refine s_lasz (p' := 10) (m := 0) rfl rfl (rd_sn rfl (rd_sn rfl H412)) (by decide +kernel) rfl rfl rfl ?_
  refine s_goto (p' := 21) rfl rfl ?_
  refine s_con (p' := 22) rfl rfl ?_
  refine k_iret rfl rfl ?_
  refine l_ist (p' := 1836) (ls' := [_, _, _, _, _, _, _, _, _, _]) rfl rfl rfl rfl rfl ?_
  refine l_aldn (p' := 1837) rfl rfl rfl rfl ?_
  refine l_alds (p' := 1838) rfl rfl rfl rfl ?_
  refine l_ild (p' := 1840) rfl rfl rfl rfl ?_
  refine l_con (p' := 1841) rfl rfl rfl ?_
  refine l_bz (p' := 1842) (z := (nI (i + 1))) rfl rfl rfl rfl rfl (mI_add _ _) ?_
  refine l_ialz (p' := 1843) (m := (i + 1)) (z := (nI l)) rfl rfl (inb_nI (by omega) (by omega)) (mI_cl (by omega)) hx1 rfl ?_
  refine l_alds (p' := 1844) rfl rfl rfl rfl ?_
  refine l_ild (p' := 1846) rfl rfl rfl rfl ?_
  refine l_con (p' := 1847) rfl rfl rfl ?_
  refine l_bz (p' := 1848) (z := (nI (i + 2))) rfl rfl rfl rfl rfl (mI_add _ _) ?_
  refine l_ialz (p' := 1849) (m := (i + 2)) (z := (nI c)) rfl rfl (inb_nI (by omega) (by omega)) (mI_cl (by omega)) hx2 rfl ?_
  refine l_call (p' := 1852) (kc := 99) (ls0 := [_, _, _, _]) rfl rfl rfl rfl rfl rfl (mj_rcv_is (rd_sn rfl (rd_sn rfl (rd_sn rfl H400)))) rfl rfl rfl ?_
  refine s_ildn (p' := 1) rfl rfl rfl ?_
  refine s_con (p' := 2) rfl rfl ?_
  refine s_con (p' := 3) rfl rfl ?_
  refine c_call (p' := 6) (kc := 98) (ls0 := [_, _, _]) rfl rfl rfl rfl rfl rfl rfl rfl rfl ?_
  refine s_ildn (p' := 1) rfl rfl rfl ?_
  refine s_ildn (p' := 2) rfl rfl rfl ?_
  refine s_icmp (p' := 5) false rfl ((ch_gt (w := 0) (by decide +kernel)).trans (decide_eq_false (by rw [mI_ti (by omega)]; omega))) rfl ?_
  refine s_ildn (p' := 6) rfl rfl rfl ?_
  refine s_ildn (p' := 7) rfl rfl rfl ?_
  refine s_icmp (p' := 10) false rfl ((cg_gt (w := 2) (by decide +kernel)).trans (decide_eq_false (by rw [mI_ti (by omega)]; omega))) rfl ?_
  refine s_con (p' := 11) rfl rfl ?_
  refine s_goto (p' := 15) rfl rfl ?_
  refine c_iret rfl (by decide +kernel) ?_
  refine s_if (p' := 9) false rfl (by decide +kernel) rfl ?_
  refine s_ildn (p' := 10) rfl rfl rfl ?_
  refine s_con (p' := 11) rfl rfl ?_
  refine s_bip (p' := 13) rfl rfl ?_
  refine c_call (p' := 16) (kc := 98) (ls0 := [_, _, _]) rfl rfl rfl rfl rfl rfl rfl rfl rfl ?_
  refine s_ildn (p' := 1) rfl rfl rfl ?_
  refine s_ildn (p' := 2) rfl rfl rfl ?_
  refine s_icmp (p' := 5) false rfl ((ch_gt (w := 0) (by decide +kernel)).trans (decide_eq_false (by rw [mI_ti (by omega)]; omega))) rfl ?_
  refine s_ildn (p' := 6) rfl rfl rfl ?_
  refine s_ildn (p' := 7) rfl rfl rfl ?_
  refine s_icmp (p' := 10) false rfl ((cg_gt (w := 7) (by decide +kernel)).trans (decide_eq_false (by rw [mI_ti (by omega)]; omega))) rfl ?_
  refine s_con (p' := 11) rfl rfl ?_
  refine s_goto (p' := 15) rfl rfl ?_
  refine c_iret rfl (by decide +kernel) ?_
  refine s_if (p' := 19) false rfl (by decide +kernel) rfl ?_
  refine s_ildn (p' := 20) rfl rfl rfl ?_
  refine s_ildn (p' := 21) rfl rfl rfl ?_
  refine s_bz (p' := 22) (z := (nI c >>> (nI l &&& 31))) rfl rfl rfl rfl ?_
  refine s_con (p' := 23) rfl rfl ?_
  refine s_bz (p' := 24) (z := (nI 0)) rfl rfl rfl hcr ?_
  refine s_if (p' := 27) false rfl (by decide +kernel) rfl ?_
  refine s_con (p' := 28) rfl rfl ?_
  refine s_goto (p' := 32) rfl rfl ?_
  refine s_istn (p' := 33) (ls' := [_, _, _, _]) rfl rfl rfl rfl ?_
  refine s_aldn (p' := 34) rfl rfl rfl ?_
  refine s_ildn (p' := 35) rfl rfl rfl ?_
  refine s_if (p' := 42) true rfl (by decide +kernel) rfl ?_
  refine s_aldn (p' := 43) rfl rfl rfl ?_
  refine s_gf (p' := 46) rfl (rd_sn rfl (rd_sn rfl (rd_sn rfl H400))) rfl rfl ?_
  refine c_call (p' := 51) (kc := 98) (ls0 := [_]) rfl rfl rfl rfl rfl (mj_rcv_is (rd_sn rfl (rd_sn rfl (rd_sn rfl H410)))) rfl rfl rfl ?_
  refine s_aldn (p' := 1) rfl rfl rfl ?_
  refine s_gf (p' := 4) rfl (rd_sn rfl (rd_sn rfl (rd_sn rfl H410))) rfl rfl ?_
  refine c_iret rfl rfl ?_
  refine s_bip (p' := 53) rfl rfl ?_
  refine s_icmp (p' := 60) true rfl (by decide +kernel) rfl ?_
  refine s_con (p' := 61) rfl rfl ?_
  refine c_call (p' := 64) (kc := 98) (ls0 := [_, _]) rfl rfl rfl rfl rfl (mj_rcv_is (rd_sn rfl (rd_sn rfl (rd_sn rfl H400)))) rfl rfl rfl ?_
  refine s_aldn (p' := 1) rfl rfl rfl ?_
  refine s_ildn (p' := 2) rfl rfl rfl ?_
  refine s_pfz (p' := 5) (fs' := [_, _, _, _, _, _, _, _, _, _, _]) rfl rfl (rd_sn rfl (rd_sn rfl (rd_sn rfl H400))) rfl rfl rfl rfl ?_
  refine s_ildn (p' := 6) rfl rfl rfl ?_
  refine s_if (p' := 13) true rfl (by decide +kernel) rfl ?_
  refine s_con (p' := 14) rfl rfl ?_
  refine c_iret rfl (by decide +kernel) ?_
  refine s_if (p' := 69) true rfl (by decide +kernel) rfl ?_
  refine s_aldn (p' := 70) rfl rfl rfl ?_
  refine s_gf (p' := 73) rfl (rd_ss rfl (rd_sn rfl (rd_sn rfl (rd_sn rfl H400)))) rfl rfl ?_
  refine s_bip (p' := 75) rfl rfl ?_
  refine s_ildn (p' := 76) rfl rfl rfl ?_
  refine s_bz (p' := 77) (z := (nI (8 * l))) rfl rfl rfl (mI_mul _ _) ?_
  refine s_ildn (p' := 78) rfl rfl rfl ?_
  refine s_bz (p' := 79) (z := (nI ((8 * l) + c))) rfl rfl rfl (mI_add _ _) ?_
  refine s_callV (p' := 82) (kc := 0) (ls0 := [_]) rfl rfl rfl rfl rfl rfl rfl (y_vo (by omega)) (by decide) rfl ?_
  refine s_callV (p' := 87) (kc := 4) (ls0 := [_, _]) rfl rfl rfl rfl rfl (mj_rcv_is (rd_sn rfl (rd_sn rfl (rd_sn rfl (rd_sn rfl H410))))) rfl (y_add0 (by decide) (len_s (len_s (len_s (len_s HL)))) (by omega) (rd_sn rfl (rd_sn rfl (rd_sn rfl (rd_sn rfl H410)))) (k_int _ (by omega)) (by omega) rfl) (by decide) rfl ?_
  refine s_sp (p' := 88) (ls' := _) rfl rfl rfl ?_
  refine s_aldn (p' := 89) rfl rfl rfl ?_
  refine s_gf (p' := 92) rfl (rd_sn rfl (rd_sn (beq_eq_false_iff_ne.mpr (by omega)) (rd_sn rfl (rd_app (rd_sn rfl (rd_ss rfl (rd_sn rfl (rd_sn rfl (rd_sn rfl H400))))))))) rfl rfl ?_
  refine c_call (p' := 97) (kc := 98) (ls0 := [_]) rfl rfl rfl rfl rfl (mj_rcv_is (rd_ss rfl (rd_sn (beq_eq_false_iff_ne.mpr (by omega)) (rd_ss rfl (rd_app (rd_ss rfl (rd_sn rfl (rd_sn rfl (rd_sn rfl (rd_sn rfl H410)))))))))) rfl rfl rfl ?_
  refine s_aldn (p' := 1) rfl rfl rfl ?_
  refine s_gf (p' := 4) rfl (rd_ss rfl (rd_sn (beq_eq_false_iff_ne.mpr (by omega)) (rd_ss rfl (rd_app (rd_ss rfl (rd_sn rfl (rd_sn rfl (rd_sn rfl (rd_sn rfl H410))))))))) rfl rfl ?_
  refine c_iret rfl rfl ?_
  refine k_iret rfl rfl ?_
  refine l_ist (p' := 1854) (ls' := [_, _, _, _, _, _, _, _, _, _]) rfl rfl rfl rfl rfl ?_
  refine l_aldn (p' := 1855) rfl rfl rfl rfl ?_
  refine l_call (p' := 1858) (kc := 99) (ls0 := [_]) rfl rfl rfl rfl rfl rfl (mj_rcv_is (rd_sn rfl (rd_sn (beq_eq_false_iff_ne.mpr (by omega)) (rd_sn rfl (rd_app (rd_sn rfl (rd_ss rfl (rd_sn rfl (rd_sn rfl (rd_sn rfl H400)))))))))) rfl rfl rfl ?_
  refine s_aldn (p' := 1) rfl rfl rfl ?_
  refine s_gf (p' := 4) rfl (rd_sn rfl (rd_sn (beq_eq_false_iff_ne.mpr (by omega)) (rd_sn rfl (rd_app (rd_sn rfl (rd_ss rfl (rd_sn rfl (rd_sn rfl (rd_sn rfl H400))))))))) rfl rfl ?_
  refine k_iret rfl rfl ?_
  refine l_ild (p' := 1860) rfl rfl rfl rfl ?_
  refine l_icmp (p' := 1865) true rfl rfl (by decide +kernel) rfl ?_
  refine l_ild (p' := 1867) rfl rfl rfl rfl ?_
  refine l_if (p' := 1870) false rfl rfl (by decide +kernel) rfl ?_
  refine l_aldn (p' := 1871) rfl rfl rfl rfl ?_
  refine l_con (p' := 1872) rfl rfl rfl ?_
  refine l_lalz (p' := 1873) (m := 0) (v := (lN 1)) rfl rfl (rd_sn rfl (rd_sn (beq_eq_false_iff_ne.mpr (by omega)) (rd_sn rfl (rd_app (rd_sn rfl (rd_sn rfl (rd_ss rfl (rd_sn rfl (rd_sn rfl H412))))))))) (by decide +kernel) rfl rfl rfl ?_
  refine l_ild (p' := 1875) rfl rfl rfl rfl ?_
  refine l_bzL (p' := 1876) (z := (lN 1)) rfl rfl rfl rfl rfl (by decide +kernel) ?_
  refine l_bz (p' := 1877) (z := (nI 0)) rfl rfl rfl rfl rfl (by decide +kernel) ?_
  refine l_if (p' := 1882) true rfl rfl (by decide +kernel) rfl ?_
  refine l_goto (p' := 2541) rfl rfl rfl ?_
  refine l_incz (p' := 2544) (w := (nI (i + 4))) (ls' := [_, _, _, _, _, _, _, _, _, _]) rfl rfl rfl rfl (mI_add _ _) rfl rfl ?_
  refine l_goto (p' := 28) rfl rfl rfl ?_
  exact hn _ _ _ _ _ ⟨(rd_sn rfl (rd_sn (beq_eq_false_iff_ne.mpr (by omega)) (rd_sn rfl (rd_app (rd_sn rfl (rd_sn rfl (rd_sn rfl (rd_ss rfl (rd_sn rfl H393))))))))), (rd_sn rfl (rd_sn (beq_eq_false_iff_ne.mpr (by omega)) (rd_sn rfl (rd_app (rd_sn rfl (rd_sn rfl (rd_sn rfl (rd_sn rfl (rd_ss rfl H394))))))))), (rd_sn rfl (rd_sn (beq_eq_false_iff_ne.mpr (by omega)) (rd_sn rfl (rd_app (rd_sn rfl (rd_ss rfl (rd_sn rfl (rd_sn rfl (rd_sn rfl H400))))))))), (rd_ss rfl (rd_sn (beq_eq_false_iff_ne.mpr (by omega)) (rd_ss rfl (rd_app (rd_ss rfl (rd_sn rfl (rd_sn rfl (rd_sn rfl (rd_sn rfl H410))))))))), (rd_sn rfl (rd_sn (beq_eq_false_iff_ne.mpr (by omega)) (rd_sn rfl (rd_app (rd_sn rfl (rd_sn rfl (rd_ss rfl (rd_sn rfl (rd_sn rfl H412))))))))), (rd_sn (beq_eq_false_iff_ne.mpr (by omega)) (rd_ss (Nat.blt_eq.mpr (by omega)) (rd_sn (beq_eq_false_iff_ne.mpr (by omega)) (rd_nw (Nat.blt_eq.mpr (by omega)) (len_s (len_s (len_s (len_s (len_s HL))))))))), (mz_fr.s (by decide) (mz_fr.n HL (by omega) (by omega) (mz_fr.s (by decide) (mz_fr.a (mz_fr.s (by decide) (mz_fr.s (by decide) (mz_fr.s (by decide) (mz_fr.s (by decide) (mz_fr.s (by decide) (mz_fr.rf _ h)))))))))), (Nat.le_trans (Nat.le_of_eq (len_s (len_s (len_s (len_a (len_s (len_s (len_s (len_s (len_s HL))))) rfl))))) (by omega)), (Nat.le_trans (sz_s rfl (rd_sn (beq_eq_false_iff_ne.mpr (by omega)) (rd_ss rfl (rd_app (rd_ss rfl (rd_sn rfl (rd_sn rfl (rd_sn rfl (rd_sn rfl H410)))))))) rfl (sz_sA (Nat.blt_eq.mpr (by omega)) (rd_sn (beq_eq_false_iff_ne.mpr (by omega)) (rd_nw (Nat.blt_eq.mpr (by omega)) (len_s (len_s (len_s (len_s (len_s HL))))))) (sz_s rfl (rd_app (rd_ss rfl (rd_sn rfl (rd_sn rfl (rd_sn rfl (rd_sn rfl H410)))))) rfl (sz_aa (k := 10) (m := mj_sz h + 10) rfl (by omega) (sz_s rfl (rd_sn rfl (rd_sn rfl (rd_sn rfl (rd_sn rfl H410)))) rfl (sz_s rfl (rd_sn rfl (rd_sn rfl (rd_sn rfl H400))) rfl (sz_sA rfl (rd_sn rfl (rd_sn rfl H412)) (sz_s rfl (rd_sn rfl H393) rfl (sz_sA rfl H394 (Nat.le_refl (mj_sz h))))))))))) (by omega))⟩
theorem w_29_g10 {L i N : Nat} {xs : Nat → Int32} {h : mj_H} {l6 l7 l8 l9 : Option Value} {P : mj_H → Prop} (hL : L ≤ 2048) (hi : i + 4 ≤ L) (hN : N + 2000 < mj_CB) (hN0 : 414 ≤ N) (HL : h.length = N) (hk : xs i &&& nI 63 = nI 29) {gs pl ty wa nw nx dp ca mf : Value} {th : Int32} {sd be : Int64} {ou : Nat → Int64} {vf wf sf uf im jm : Nat → Int32} {k g : Nat} (hk20 : k ≤ 20) (hvw : ∀ j, j < 8 → wf j = vf j) (hsu : ∀ j, j < k → uf j = sf j) (him : ∀ j, j < 8 → jm j = im j) {pe pm ge gm : Value} {q : Nat} (hq6 : q ≤ 6) (hg24 : g ≤ 24) {rf : Nat → Int32} {E : Nat} {mc : Int32} {ef : Nat → Option Nat} {G : Nat → Nat} (hE0 : 414 ≤ E ∧ E < N) (hG2 : ∀ j, j < 10 → ef j = some (1000138 + G j) ∧ G j < 24) {l c : Nat} (hl : l < 3) (hc : c < 8) (hcl : nI c &&& (nI 1 <<< (nI l &&& 31)) = nI 0) (hcr : (nI c >>> (nI l &&& 31)) &&& nI 1 = nI 0)  (hx1 : xs (i + 1) = nI l) (hx2 : xs (i + 2) = nI c) (H0 : mj_rd h 0 = some (.inr (0, [.ref 1, .ref 38, .ref 299, .ref 336, .ref 373, .ref 375, .ref 378, .ref 381, .ref 387, .ref 393, gs, pl, .ref 397, .ref 398, .ref 399, .long sd, .long be]))) (H393 : mj_rd h 393 = some (.inr (9, [.ref 394, .ref 395, .ref 396, .int (nI 10), mf]))) (H394 : mj_rd h 394 = some (.inl (0, (24, .inl (rf))))) (H400 : mj_rd h 400 = some (.inr (17, [.int th, .ref 401, .ref 402, ty, .long sd, .long be, .ref 410, wa, nw, nx, .ref 411]))) (H410 : mj_rd h 410 = some (.inr (18, [.ref E, .int (nI 10), .int mc]))) (H412 : mj_rd h 412 = some (.inl (4, (1, .inr (.inl (ou)))))) (HE : mj_rd h E = some (.inl (6, (10, .inr (.inr (.inr (.inr (ef)))))))) (hn : ∀ (l6 l7 l8 l9 : Option Value) (h' : mj_H), mj_rd h' 393 = some (.inr (9, [.ref 394, .ref 395, .ref 396, .int (nI 11), mf])) ∧ mj_rd h' 394 = some (.inl (0, (24, .inl ((upd rf 10 (nI ((8 * l) + c))))))) ∧ mj_rd h' 400 = some (.inr (17, [.int (nI 0), .ref 401, .ref 402, ty, .long sd, .long be, .ref 410, wa, nw, nx, .ref 411])) ∧ mj_rd h' 410 = some (.inr (18, [.ref N, .int (nI 11), .int (mc + (nI 1))])) ∧ mj_rd h' 412 = some (.inl (4, (1, .inr (.inl ((vp_updL ou 0 (lN 11))))))) ∧ mj_rd h' N = some (.inl (6, (15, .inr (.inr (.inr (.inr ((va_up (va_cpy ef (fun _ => none) 0 0 10) 10 (some (1000138 + ((8 * l) + c))))))))))) ∧ mz_fr [393, 394, 400, 410, 412] h h' ∧ h'.length ≤ N + 1 ∧ mj_sz h' ≤ mj_sz h + 15 → mj_lrun L xs (28, [some (.retAddr 1), some (.ref 0), some (.ref 400), some (.ref 412), some (.ref 413), some (.int (nI (i + 4))), l6, l7, l8, l9], [], h') P) : mj_lrun L xs (28, [some (.retAddr 1), some (.ref 0), some (.ref 400), some (.ref 412), some (.ref 413), some (.int (nI i)), l6, l7, l8, l9], [], h) P := by
  refine l_ild (p' := 30) rfl rfl rfl rfl ?_
  refine l_alds (p' := 31) rfl rfl rfl rfl ?_
  refine l_lens (p' := 32) rfl rfl rfl ?_
  refine l_con (p' := 33) rfl rfl rfl ?_
  refine l_bz (p' := 34) (z := (nI (L - 4))) rfl rfl rfl rfl rfl (mI_sub (by omega)) ?_
  refine l_icmp (p' := 37) false rfl rfl ((ci_gt (by omega) (by omega)).trans (decide_eq_false (by omega))) rfl ?_
  refine l_alds (p' := 38) rfl rfl rfl rfl ?_
  refine l_ild (p' := 40) rfl rfl rfl rfl ?_
  refine l_ialz (p' := 41) (m := i) (z := (xs i)) rfl rfl (inb_nI (by omega) (by omega)) (mI_cl (by omega)) rfl rfl ?_
  refine l_bip (p' := 43) rfl rfl rfl ?_
  refine l_bz (p' := 44) (z := (nI 29)) rfl rfl rfl rfl rfl hk ?_
  refine l_sp (p' := 1817) (ls' := _) rfl rfl rfl rfl rfl ?_
  refine l_aldn (p' := 1818) rfl rfl rfl rfl ?_
  refine l_alds (p' := 1819) rfl rfl rfl rfl ?_
  refine l_ild (p' := 1821) rfl rfl rfl rfl ?_
  refine l_con (p' := 1822) rfl rfl rfl ?_
  refine l_bz (p' := 1823) (z := (nI (i + 1))) rfl rfl rfl rfl rfl (mI_add _ _) ?_
  refine l_ialz (p' := 1824) (m := (i + 1)) (z := (nI l)) rfl rfl (inb_nI (by omega) (by omega)) (mI_cl (by omega)) hx1 rfl ?_
  refine l_alds (p' := 1825) rfl rfl rfl rfl ?_
  refine l_ild (p' := 1827) rfl rfl rfl rfl ?_
  refine l_con (p' := 1828) rfl rfl rfl ?_
  refine l_bz (p' := 1829) (z := (nI (i + 2))) rfl rfl rfl rfl rfl (mI_add _ _) ?_
  refine l_ialz (p' := 1830) (m := (i + 2)) (z := (nI c)) rfl rfl (inb_nI (by omega) (by omega)) (mI_cl (by omega)) hx2 rfl ?_
  refine l_aldn (p' := 1831) rfl rfl rfl rfl ?_
  refine l_call (p' := 1834) (kc := 99) (ls0 := [_, _, _, _, _]) rfl rfl rfl rfl rfl rfl rfl rfl rfl rfl ?_
  refine s_aldn (p' := 1) rfl rfl rfl ?_
  refine s_con (p' := 2) rfl rfl ?_
  refine s_aldn (p' := 3) rfl rfl rfl ?_
  refine s_ildn (p' := 4) rfl rfl rfl ?_
  refine s_ildn (p' := 5) rfl rfl rfl ?_
  refine c_call (p' := 8) (kc := 98) (ls0 := [_, _, _]) rfl rfl rfl rfl rfl (mj_rcv_is H0) rfl rfl rfl ?_
  refine s_ildn (p' := 1) rfl rfl rfl ?_
  refine s_if (p' := 4) false rfl ((cg_lt (w := 0) (by decide +kernel)).trans (decide_eq_false (by rw [mI_ti (by omega)]; omega))) rfl ?_
  refine s_ildn (p' := 5) rfl rfl rfl ?_
  refine s_con (p' := 6) rfl rfl ?_
  refine s_icmp (p' := 9) false rfl ((cg_ge (w := 3) (by decide +kernel)).trans (decide_eq_false (by rw [mI_ti (by omega)]; omega))) rfl ?_
  refine s_ildn (p' := 10) rfl rfl rfl ?_
  refine s_if (p' := 13) false rfl ((cg_lt (w := 0) (by decide +kernel)).trans (decide_eq_false (by rw [mI_ti (by omega)]; omega))) rfl ?_
  refine s_ildn (p' := 14) rfl rfl rfl ?_
  refine s_bip (p' := 16) rfl rfl ?_
  refine s_icmp (p' := 30) true rfl ((cg_lt (w := 8) (by decide +kernel)).trans (decide_eq_true (by rw [mI_ti (by omega)]; omega))) rfl ?_
  refine s_ildn (p' := 31) rfl rfl rfl ?_
  refine s_con (p' := 32) rfl rfl ?_
  refine s_ildn (p' := 33) rfl rfl rfl ?_
  refine s_bz (p' := 34) (z := (nI 1 <<< (nI l &&& 31))) rfl rfl rfl rfl ?_
  refine s_bz (p' := 35) (z := (nI 0)) rfl rfl rfl hcl ?_
  refine s_if (p' := 49) true rfl (by decide +kernel) rfl ?_
  refine s_aldn (p' := 50) rfl rfl rfl ?_
  refine s_gf (p' := 53) rfl H0 rfl rfl ?_
  refine c_call (p' := 56) (kc := 97) (ls0 := [_]) rfl rfl rfl rfl rfl (mj_rcv_is H393) rfl rfl rfl ?_
  refine s_aldn (p' := 1) rfl rfl rfl ?_
  refine s_gf (p' := 4) rfl H393 rfl rfl ?_
  refine s_bip (p' := 6) rfl rfl ?_
  refine s_icmp (p' := 13) true rfl (by decide +kernel) rfl ?_
  refine s_con (p' := 14) rfl rfl ?_
  refine c_iret rfl (by decide +kernel) ?_
  refine s_if (p' := 70) true rfl (by decide +kernel) rfl ?_
  refine s_aldn (p' := 71) rfl rfl rfl ?_
  refine s_gf (p' := 74) rfl H0 rfl rfl ?_
  refine s_bip (p' := 76) rfl rfl ?_
  refine s_ildn (p' := 77) rfl rfl rfl ?_
  refine s_bz (p' := 78) (z := (nI (8 * l))) rfl rfl rfl (mI_mul _ _) ?_
  refine s_ildn (p' := 79) rfl rfl rfl ?_
  refine s_bz (p' := 80) (z := (nI ((8 * l) + c))) rfl rfl rfl (mI_add _ _) ?_
  refine c_call (p' := 83) (kc := 97) (ls0 := [_, _]) rfl rfl rfl rfl rfl (mj_rcv_is H393) rfl rfl rfl ?_
  refine s_aldn (p' := 1) rfl rfl rfl ?_
  refine s_gf (p' := 4) rfl H393 rfl rfl ?_
  refine s_if (p' := 7) false rfl (by decide +kernel) rfl ?_
  refine s_aldn (p' := 8) rfl rfl rfl ?_
  refine s_gf (p' := 11) rfl H393 rfl rfl ?_
  refine s_aldn (p' := 12) rfl rfl rfl ?_
  refine s_gf (p' := 15) rfl H393 rfl rfl ?_
  refine s_lenz (p' := 16) rfl (mj_rdA_is H394 (by decide)) rfl rfl ?_
  refine s_icmp (p' := 19) false rfl (by decide +kernel) rfl ?_
  refine s_aldn (p' := 20) rfl rfl rfl ?_
  refine s_gf (p' := 23) rfl H393 rfl rfl ?_
  refine s_aldn (p' := 24) rfl rfl rfl ?_
  refine s_gf (p' := 27) rfl H393 rfl rfl ?_
  refine s_ildn (p' := 28) rfl rfl rfl ?_
  refine s_iasz (p' := 29) (m := 10) rfl rfl H394 (by decide +kernel) rfl rfl rfl ?_
  refine s_aldn (p' := 30) rfl rfl rfl ?_
  refine s_dupr (p' := 31) rfl rfl ?_
  refine s_gf (p' := 34) rfl (rd_sn rfl H393) rfl rfl ?_
  refine s_con (p' := 35) rfl rfl ?_
  refine s_bz (p' := 36) (z := (nI 11)) rfl rfl rfl (by decide +kernel) ?_
  refine s_pfz (p' := 39) (fs' := [_, _, _, _, _]) rfl rfl (rd_sn rfl H393) rfl rfl rfl rfl ?_
  refine c_ret rfl ?_
  refine s_aldn (p' := 84) rfl rfl rfl ?_
  refine s_gf (p' := 87) rfl (rd_sn rfl (rd_sn rfl H0)) rfl rfl ?_
  refine c_call (p' := 90) (kc := 97) (ls0 := [_]) rfl rfl rfl rfl rfl (mj_rcv_is (rd_ss rfl (rd_sn rfl H393))) rfl rfl rfl ?_
  refine s_aldn (p' := 1) rfl rfl rfl ?_
  refine s_gf (p' := 4) rfl (rd_ss rfl (rd_sn rfl H393)) rfl rfl ?_
  refine c_iret rfl rfl ?_
  refine c_iret rfl rfl ?_
  refine s_bzL (p' := 9) (z := (lN 11)) rfl rfl rfl (by decide +kernel) ?_
  refine s_lasz (p' := 10) (m := 0) rfl rfl (rd_sn rfl (rd_sn rfl H412)) (by decide +kernel) rfl rfl rfl ?_
  refine s_goto (p' := 21) rfl rfl ?_
  refine s_con (p' := 22) rfl rfl ?_
  refine k_iret rfl rfl ?_
  refine l_ist (p' := 1836) (ls' := [_, _, _, _, _, _, _, _, _, _]) rfl rfl rfl rfl rfl ?_
  refine l_aldn (p' := 1837) rfl rfl rfl rfl ?_
  refine l_alds (p' := 1838) rfl rfl rfl rfl ?_
  refine l_ild (p' := 1840) rfl rfl rfl rfl ?_
  refine l_con (p' := 1841) rfl rfl rfl ?_
  refine l_bz (p' := 1842) (z := (nI (i + 1))) rfl rfl rfl rfl rfl (mI_add _ _) ?_
  refine l_ialz (p' := 1843) (m := (i + 1)) (z := (nI l)) rfl rfl (inb_nI (by omega) (by omega)) (mI_cl (by omega)) hx1 rfl ?_
  refine l_alds (p' := 1844) rfl rfl rfl rfl ?_
  refine l_ild (p' := 1846) rfl rfl rfl rfl ?_
  refine l_con (p' := 1847) rfl rfl rfl ?_
  refine l_bz (p' := 1848) (z := (nI (i + 2))) rfl rfl rfl rfl rfl (mI_add _ _) ?_
  refine l_ialz (p' := 1849) (m := (i + 2)) (z := (nI c)) rfl rfl (inb_nI (by omega) (by omega)) (mI_cl (by omega)) hx2 rfl ?_
  refine l_call (p' := 1852) (kc := 99) (ls0 := [_, _, _, _]) rfl rfl rfl rfl rfl rfl (mj_rcv_is (rd_sn rfl (rd_sn rfl (rd_sn rfl H400)))) rfl rfl rfl ?_
  refine s_ildn (p' := 1) rfl rfl rfl ?_
  refine s_con (p' := 2) rfl rfl ?_
  refine s_con (p' := 3) rfl rfl ?_
  refine c_call (p' := 6) (kc := 98) (ls0 := [_, _, _]) rfl rfl rfl rfl rfl rfl rfl rfl rfl ?_
  refine s_ildn (p' := 1) rfl rfl rfl ?_
  refine s_ildn (p' := 2) rfl rfl rfl ?_
  refine s_icmp (p' := 5) false rfl ((ch_gt (w := 0) (by decide +kernel)).trans (decide_eq_false (by rw [mI_ti (by omega)]; omega))) rfl ?_
  refine s_ildn (p' := 6) rfl rfl rfl ?_
  refine s_ildn (p' := 7) rfl rfl rfl ?_
  refine s_icmp (p' := 10) false rfl ((cg_gt (w := 2) (by decide +kernel)).trans (decide_eq_false (by rw [mI_ti (by omega)]; omega))) rfl ?_
  refine s_con (p' := 11) rfl rfl ?_
  refine s_goto (p' := 15) rfl rfl ?_
  refine c_iret rfl (by decide +kernel) ?_
  refine s_if (p' := 9) false rfl (by decide +kernel) rfl ?_
  refine s_ildn (p' := 10) rfl rfl rfl ?_
  refine s_con (p' := 11) rfl rfl ?_
  refine s_bip (p' := 13) rfl rfl ?_
  refine c_call (p' := 16) (kc := 98) (ls0 := [_, _, _]) rfl rfl rfl rfl rfl rfl rfl rfl rfl ?_
  refine s_ildn (p' := 1) rfl rfl rfl ?_
  refine s_ildn (p' := 2) rfl rfl rfl ?_
  refine s_icmp (p' := 5) false rfl ((ch_gt (w := 0) (by decide +kernel)).trans (decide_eq_false (by rw [mI_ti (by omega)]; omega))) rfl ?_
  refine s_ildn (p' := 6) rfl rfl rfl ?_
  refine s_ildn (p' := 7) rfl rfl rfl ?_
  refine s_icmp (p' := 10) false rfl ((cg_gt (w := 7) (by decide +kernel)).trans (decide_eq_false (by rw [mI_ti (by omega)]; omega))) rfl ?_
  refine s_con (p' := 11) rfl rfl ?_
  refine s_goto (p' := 15) rfl rfl ?_
  refine c_iret rfl (by decide +kernel) ?_
  refine s_if (p' := 19) false rfl (by decide +kernel) rfl ?_
  refine s_ildn (p' := 20) rfl rfl rfl ?_
  refine s_ildn (p' := 21) rfl rfl rfl ?_
  refine s_bz (p' := 22) (z := (nI c >>> (nI l &&& 31))) rfl rfl rfl rfl ?_
  refine s_con (p' := 23) rfl rfl ?_
  refine s_bz (p' := 24) (z := (nI 0)) rfl rfl rfl hcr ?_
  refine s_if (p' := 27) false rfl (by decide +kernel) rfl ?_
  refine s_con (p' := 28) rfl rfl ?_
  refine s_goto (p' := 32) rfl rfl ?_
  refine s_istn (p' := 33) (ls' := [_, _, _, _]) rfl rfl rfl rfl ?_
  refine s_aldn (p' := 34) rfl rfl rfl ?_
  refine s_ildn (p' := 35) rfl rfl rfl ?_
  refine s_if (p' := 42) true rfl (by decide +kernel) rfl ?_
  refine s_aldn (p' := 43) rfl rfl rfl ?_
  refine s_gf (p' := 46) rfl (rd_sn rfl (rd_sn rfl (rd_sn rfl H400))) rfl rfl ?_
  refine c_call (p' := 51) (kc := 98) (ls0 := [_]) rfl rfl rfl rfl rfl (mj_rcv_is (rd_sn rfl (rd_sn rfl (rd_sn rfl H410)))) rfl rfl rfl ?_
  refine s_aldn (p' := 1) rfl rfl rfl ?_
  refine s_gf (p' := 4) rfl (rd_sn rfl (rd_sn rfl (rd_sn rfl H410))) rfl rfl ?_
  refine c_iret rfl rfl ?_
  refine s_bip (p' := 53) rfl rfl ?_
  refine s_icmp (p' := 60) true rfl (by decide +kernel) rfl ?_
  refine s_con (p' := 61) rfl rfl ?_
  refine c_call (p' := 64) (kc := 98) (ls0 := [_, _]) rfl rfl rfl rfl rfl (mj_rcv_is (rd_sn rfl (rd_sn rfl (rd_sn rfl H400)))) rfl rfl rfl ?_
  refine s_aldn (p' := 1) rfl rfl rfl ?_
  refine s_ildn (p' := 2) rfl rfl rfl ?_
  refine s_pfz (p' := 5) (fs' := [_, _, _, _, _, _, _, _, _, _, _]) rfl rfl (rd_sn rfl (rd_sn rfl (rd_sn rfl H400))) rfl rfl rfl rfl ?_
  refine s_ildn (p' := 6) rfl rfl rfl ?_
  refine s_if (p' := 13) true rfl (by decide +kernel) rfl ?_
  refine s_con (p' := 14) rfl rfl ?_
  refine c_iret rfl (by decide +kernel) ?_
  refine s_if (p' := 69) true rfl (by decide +kernel) rfl ?_
  refine s_aldn (p' := 70) rfl rfl rfl ?_
  refine s_gf (p' := 73) rfl (rd_ss rfl (rd_sn rfl (rd_sn rfl (rd_sn rfl H400)))) rfl rfl ?_
  refine s_bip (p' := 75) rfl rfl ?_
  refine s_ildn (p' := 76) rfl rfl rfl ?_
  refine s_bz (p' := 77) (z := (nI (8 * l))) rfl rfl rfl (mI_mul _ _) ?_
  refine s_ildn (p' := 78) rfl rfl rfl ?_
  refine s_bz (p' := 79) (z := (nI ((8 * l) + c))) rfl rfl rfl (mI_add _ _) ?_
  refine s_callV (p' := 82) (kc := 0) (ls0 := [_]) rfl rfl rfl rfl rfl rfl rfl (y_vo (by omega)) (by decide) rfl ?_
  refine c_call (p' := 87) (kc := 98) (ls0 := [_, _]) rfl rfl rfl rfl rfl (mj_rcv_is (rd_sn rfl (rd_sn rfl (rd_sn rfl (rd_sn rfl H410))))) rfl rfl rfl ?_
  refine s_aldn (p' := 1) rfl rfl rfl ?_
  refine s_dupr (p' := 2) rfl rfl ?_
  refine s_gf (p' := 5) rfl (rd_sn rfl (rd_sn rfl (rd_sn rfl (rd_sn rfl H410)))) rfl rfl ?_
  refine s_con (p' := 6) rfl rfl ?_
  refine s_bz (p' := 7) (z := (mc + (nI 1))) rfl rfl rfl rfl ?_
  refine s_pfz (p' := 10) (fs' := [_, _, _]) rfl rfl (rd_sn rfl (rd_sn rfl (rd_sn rfl (rd_sn rfl H410)))) rfl rfl rfl rfl ?_
  refine s_aldn (p' := 11) rfl rfl rfl ?_
  refine s_aldn (p' := 12) rfl rfl rfl ?_
  refine s_aldn (p' := 13) rfl rfl rfl ?_
  refine s_gf (p' := 16) rfl (rd_ss rfl (rd_sn rfl (rd_sn rfl (rd_sn rfl (rd_sn rfl H410))))) rfl rfl ?_
  refine s_aldn (p' := 17) rfl rfl rfl ?_
  refine s_gf (p' := 20) rfl (rd_ss rfl (rd_sn rfl (rd_sn rfl (rd_sn rfl (rd_sn rfl H410))))) rfl rfl ?_
  refine c_call (p' := 23) (kc := 97) (ls0 := [_, _, _, _]) rfl rfl rfl rfl rfl (mj_rcv_is (rd_ss rfl (rd_sn rfl (rd_sn rfl (rd_sn rfl (rd_sn rfl H410)))))) rfl rfl rfl ?_
  refine s_ildn (p' := 1) rfl rfl rfl ?_
  refine s_aldn (p' := 2) rfl rfl rfl ?_
  refine s_lenz (p' := 3) rfl (mj_rdA_is (rd_sn (beq_eq_false_iff_ne.mpr (by omega)) (rd_sn (beq_eq_false_iff_ne.mpr (by omega)) (rd_sn (beq_eq_false_iff_ne.mpr (by omega)) (rd_sn (beq_eq_false_iff_ne.mpr (by omega)) (rd_sn (beq_eq_false_iff_ne.mpr (by omega)) HE))))) (by decide)) rfl rfl ?_
  refine s_icmp (p' := 6) false rfl (by decide +kernel) rfl ?_
  refine s_aldn (p' := 7) rfl rfl rfl ?_
  refine c_call (p' := 10) (kc := 96) (ls0 := [_]) rfl rfl rfl rfl rfl (mj_rcv_is (rd_ss rfl (rd_sn rfl (rd_sn rfl (rd_sn rfl (rd_sn rfl H410)))))) rfl rfl rfl ?_
  refine s_aldn (p' := 1) rfl rfl rfl ?_
  refine s_aldn (p' := 2) rfl rfl rfl ?_
  refine s_gf (p' := 5) rfl (rd_ss rfl (rd_sn rfl (rd_sn rfl (rd_sn rfl (rd_sn rfl H410))))) rfl rfl ?_
  refine s_con (p' := 6) rfl rfl ?_
  refine s_bz (p' := 7) (z := (nI 11)) rfl rfl rfl (by decide +kernel) ?_
  refine c_call (p' := 10) (kc := 95) (ls0 := [_, _, _, _]) rfl rfl rfl rfl rfl (mj_rcv_is (rd_ss rfl (rd_sn rfl (rd_sn rfl (rd_sn rfl (rd_sn rfl H410)))))) rfl rfl rfl ?_
  refine s_aldn (p' := 1) rfl rfl rfl ?_
  refine s_gf (p' := 4) rfl (rd_ss rfl (rd_sn rfl (rd_sn rfl (rd_sn rfl (rd_sn rfl H410))))) rfl rfl ?_
  refine s_lenz (p' := 5) rfl (mj_rdA_is (rd_sn (beq_eq_false_iff_ne.mpr (by omega)) (rd_sn (beq_eq_false_iff_ne.mpr (by omega)) (rd_sn (beq_eq_false_iff_ne.mpr (by omega)) (rd_sn (beq_eq_false_iff_ne.mpr (by omega)) (rd_sn (beq_eq_false_iff_ne.mpr (by omega)) HE))))) (by decide)) rfl rfl ?_
  refine s_istn (p' := 6) (ls' := [_, _, _, _]) rfl rfl rfl rfl ?_
  refine s_ildn (p' := 7) rfl rfl rfl ?_
  refine s_if (p' := 20) true rfl (by decide +kernel) rfl ?_
  refine s_ildn (p' := 21) rfl rfl rfl ?_
  refine s_ildn (p' := 22) rfl rfl rfl ?_
  refine s_ildn (p' := 23) rfl rfl rfl ?_
  refine s_bz (p' := 24) (z := (nI 1)) rfl rfl rfl (by decide +kernel) ?_
  refine s_ildn (p' := 25) rfl rfl rfl ?_
  refine s_con (p' := 26) rfl rfl ?_
  refine s_bz (p' := 27) (z := (nI 5)) rfl rfl rfl (by decide +kernel) ?_
  refine c_call (p' := 30) (kc := 94) (ls0 := [_, _, _, _]) rfl rfl rfl rfl rfl rfl rfl rfl rfl ?_
  refine s_ildn (p' := 1) rfl rfl rfl ?_
  refine s_ildn (p' := 2) rfl rfl rfl ?_
  refine s_ildn (p' := 3) rfl rfl rfl ?_
  refine s_primV (p' := 6) (q := 4) rfl rfl rfl rfl rfl rfl (p_max (x := (nI 1)) (y := (nI 5)) (z := (nI 5)) (by decide +kernel)) rfl ?_
  refine s_bz (p' := 7) (z := (nI 15)) rfl rfl rfl (by decide +kernel) ?_
  refine s_istn (p' := 8) (ls' := [_, _, _, _]) rfl rfl rfl rfl ?_
  refine s_con (p' := 9) rfl rfl ?_
  refine s_ildn (p' := 10) rfl rfl rfl ?_
  refine s_icmp (p' := 13) false rfl (by decide +kernel) rfl ?_
  refine s_ildn (p' := 14) rfl rfl rfl ?_
  refine s_sh (p' := 16) (ls' := _) (st' := .int (nI 2147483639) :: _) (h' := _) rfl rfl rfl rfl ?_
  refine s_icmp (p' := 19) false rfl (by decide +kernel) rfl ?_
  refine s_ildn (p' := 20) rfl rfl rfl ?_
  refine c_iret rfl rfl ?_
  refine s_istn (p' := 31) (ls' := [_, _, _, _]) rfl rfl rfl rfl ?_
  refine s_aldn (p' := 32) rfl rfl rfl ?_
  refine s_aldn (p' := 33) rfl rfl rfl ?_
  refine s_gf (p' := 36) rfl (rd_ss rfl (rd_sn rfl (rd_sn rfl (rd_sn rfl (rd_sn rfl H410))))) rfl rfl ?_
  refine s_ildn (p' := 37) rfl rfl rfl ?_
  refine c_call (p' := 40) (kc := 94) (ls0 := [_, _]) rfl rfl rfl rfl rfl rfl rfl rfl rfl ?_
  refine s_aldn (p' := 1) rfl rfl rfl ?_
  refine s_ildn (p' := 2) rfl rfl rfl ?_
  refine s_aldn (p' := 3) rfl rfl rfl ?_
  refine s_primV (p' := 6) (q := 1) rfl rfl rfl rfl rfl rfl (p_cls (mj_rdA_is (rd_sn (beq_eq_false_iff_ne.mpr (by omega)) (rd_sn (beq_eq_false_iff_ne.mpr (by omega)) (rd_sn (beq_eq_false_iff_ne.mpr (by omega)) (rd_sn (beq_eq_false_iff_ne.mpr (by omega)) (rd_sn (beq_eq_false_iff_ne.mpr (by omega)) HE))))) (by decide))) rfl ?_
  refine c_call (p' := 9) (kc := 93) (ls0 := [_, _, _, _]) rfl rfl rfl rfl rfl rfl rfl rfl rfl ?_
  refine s_aldn (p' := 1) rfl rfl rfl ?_
  refine s_sh (p' := 3) (ls' := _) (st' := .ref 1000004 :: _) (h' := _) rfl rfl rfl rfl ?_
  refine s_sp (p' := 6) (ls' := _) rfl rfl rfl ?_
  refine s_ildn (p' := 7) rfl rfl rfl ?_
  refine s_anaz (p' := 10) (a := N) (n := 15) rfl (len_s (len_s (len_s (len_s (len_s HL))))) rfl rfl ?_
  refine s_goto (p' := 24) rfl rfl ?_
  refine s_astn (p' := 25) (ls' := [_, _, _, _]) rfl rfl rfl rfl ?_
  refine s_aldn (p' := 26) rfl rfl rfl ?_
  refine s_con (p' := 27) rfl rfl ?_
  refine s_aldn (p' := 28) rfl rfl rfl ?_
  refine s_con (p' := 29) rfl rfl ?_
  refine s_aldn (p' := 30) rfl rfl rfl ?_
  refine s_lenz (p' := 31) rfl (mj_rdA_is (rd_app (rd_sn (beq_eq_false_iff_ne.mpr (by omega)) (rd_sn (beq_eq_false_iff_ne.mpr (by omega)) (rd_sn (beq_eq_false_iff_ne.mpr (by omega)) (rd_sn (beq_eq_false_iff_ne.mpr (by omega)) (rd_sn (beq_eq_false_iff_ne.mpr (by omega)) HE)))))) (by decide)) rfl rfl ?_
  refine s_ildn (p' := 32) rfl rfl rfl ?_
  refine s_primV (p' := 35) (q := 5) rfl rfl rfl rfl rfl rfl (p_min (x := (nI 10)) (y := (nI 15)) (z := (nI 10)) (by decide +kernel)) rfl ?_
  refine s_primN (p' := 38) (q := 0) rfl rfl rfl rfl rfl rfl (p_cpyA (Nat.blt_eq.mpr (by omega)) (mj_rdA_is (rd_app (rd_sn (beq_eq_false_iff_ne.mpr (by omega)) (rd_sn (beq_eq_false_iff_ne.mpr (by omega)) (rd_sn (beq_eq_false_iff_ne.mpr (by omega)) (rd_sn (beq_eq_false_iff_ne.mpr (by omega)) (rd_sn (beq_eq_false_iff_ne.mpr (by omega)) HE)))))) (by decide)) (mj_rdA_is (rd_nw (Nat.blt_eq.mpr (by omega)) (len_s (len_s (len_s (len_s (len_s HL)))))) (by decide)) rfl (cpq_G hG2)) rfl ?_
  refine s_aldn (p' := 39) rfl rfl rfl ?_
  refine c_aret rfl ?_
  refine c_aret rfl ?_
  refine s_sp (p' := 41) (ls' := _) rfl rfl rfl ?_
  refine s_pfz (p' := 44) (fs' := [_, _, _]) rfl rfl (rd_sn (beq_eq_false_iff_ne.mpr (by omega)) (rd_app (rd_ss rfl (rd_sn rfl (rd_sn rfl (rd_sn rfl (rd_sn rfl H410))))))) rfl rfl rfl rfl ?_
  refine c_aret rfl ?_
  refine c_aret rfl ?_
  refine s_astn (p' := 11) (ls' := [_, _, _, _]) rfl rfl rfl rfl ?_
  refine s_aldn (p' := 12) rfl rfl rfl ?_
  refine s_ildn (p' := 13) rfl rfl rfl ?_
  refine s_aldn (p' := 14) rfl rfl rfl ?_
  refine s_aasz (p' := 15) (m := 10) rfl (Nat.blt_eq.mpr (by omega)) (rd_sn (beq_eq_false_iff_ne.mpr (by omega)) (rd_ss (Nat.blt_eq.mpr (by omega)) (rd_nw (Nat.blt_eq.mpr (by omega)) (len_s (len_s (len_s (len_s (len_s HL)))))))) rfl (by decide +kernel) rfl (k_int _ (by omega)) rfl rfl ?_
  refine s_aldn (p' := 16) rfl rfl rfl ?_
  refine s_ildn (p' := 17) rfl rfl rfl ?_
  refine s_con (p' := 18) rfl rfl ?_
  refine s_bz (p' := 19) (z := (nI 11)) rfl rfl rfl (by decide +kernel) ?_
  refine s_pfz (p' := 22) (fs' := [_, _, _]) rfl rfl (rd_sn (beq_eq_false_iff_ne.mpr (by omega)) (rd_ss rfl (rd_sn (beq_eq_false_iff_ne.mpr (by omega)) (rd_app (rd_ss rfl (rd_sn rfl (rd_sn rfl (rd_sn rfl (rd_sn rfl H410))))))))) rfl rfl rfl rfl ?_
  refine c_ret rfl ?_
  refine s_con (p' := 24) rfl rfl ?_
  refine c_iret rfl (by decide +kernel) ?_
  refine s_sp (p' := 88) (ls' := _) rfl rfl rfl ?_
  refine s_aldn (p' := 89) rfl rfl rfl ?_
  refine s_gf (p' := 92) rfl (rd_sn rfl (rd_sn (beq_eq_false_iff_ne.mpr (by omega)) (rd_sn rfl (rd_sn (beq_eq_false_iff_ne.mpr (by omega)) (rd_app (rd_sn rfl (rd_ss rfl (rd_sn rfl (rd_sn rfl (rd_sn rfl H400)))))))))) rfl rfl ?_
  refine c_call (p' := 97) (kc := 98) (ls0 := [_]) rfl rfl rfl rfl rfl (mj_rcv_is (rd_ss rfl (rd_sn (beq_eq_false_iff_ne.mpr (by omega)) (rd_ss rfl (rd_sn (beq_eq_false_iff_ne.mpr (by omega)) (rd_app (rd_ss rfl (rd_sn rfl (rd_sn rfl (rd_sn rfl (rd_sn rfl H410))))))))))) rfl rfl rfl ?_
  refine s_aldn (p' := 1) rfl rfl rfl ?_
  refine s_gf (p' := 4) rfl (rd_ss rfl (rd_sn (beq_eq_false_iff_ne.mpr (by omega)) (rd_ss rfl (rd_sn (beq_eq_false_iff_ne.mpr (by omega)) (rd_app (rd_ss rfl (rd_sn rfl (rd_sn rfl (rd_sn rfl (rd_sn rfl H410)))))))))) rfl rfl ?_
  refine c_iret rfl rfl ?_
  refine k_iret rfl rfl ?_
  refine l_ist (p' := 1854) (ls' := [_, _, _, _, _, _, _, _, _, _]) rfl rfl rfl rfl rfl ?_
  refine l_aldn (p' := 1855) rfl rfl rfl rfl ?_
  refine l_call (p' := 1858) (kc := 99) (ls0 := [_]) rfl rfl rfl rfl rfl rfl (mj_rcv_is (rd_sn rfl (rd_sn (beq_eq_false_iff_ne.mpr (by omega)) (rd_sn rfl (rd_sn (beq_eq_false_iff_ne.mpr (by omega)) (rd_app (rd_sn rfl (rd_ss rfl (rd_sn rfl (rd_sn rfl (rd_sn rfl H400))))))))))) rfl rfl rfl ?_
  refine s_aldn (p' := 1) rfl rfl rfl ?_
  refine s_gf (p' := 4) rfl (rd_sn rfl (rd_sn (beq_eq_false_iff_ne.mpr (by omega)) (rd_sn rfl (rd_sn (beq_eq_false_iff_ne.mpr (by omega)) (rd_app (rd_sn rfl (rd_ss rfl (rd_sn rfl (rd_sn rfl (rd_sn rfl H400)))))))))) rfl rfl ?_
  refine k_iret rfl rfl ?_
  refine l_ild (p' := 1860) rfl rfl rfl rfl ?_
  refine l_icmp (p' := 1865) true rfl rfl (by decide +kernel) rfl ?_
  refine l_ild (p' := 1867) rfl rfl rfl rfl ?_
  refine l_if (p' := 1870) false rfl rfl (by decide +kernel) rfl ?_
  refine l_aldn (p' := 1871) rfl rfl rfl rfl ?_
  refine l_con (p' := 1872) rfl rfl rfl ?_
  refine l_lalz (p' := 1873) (m := 0) (v := (lN 11)) rfl rfl (rd_sn rfl (rd_sn (beq_eq_false_iff_ne.mpr (by omega)) (rd_sn rfl (rd_sn (beq_eq_false_iff_ne.mpr (by omega)) (rd_app (rd_sn rfl (rd_sn rfl (rd_ss rfl (rd_sn rfl (rd_sn rfl H412)))))))))) (by decide +kernel) rfl rfl rfl ?_
  refine l_ild (p' := 1875) rfl rfl rfl rfl ?_
  refine l_bzL (p' := 1876) (z := (lN 11)) rfl rfl rfl rfl rfl (by decide +kernel) ?_
  refine l_bz (p' := 1877) (z := (nI 0)) rfl rfl rfl rfl rfl (by decide +kernel) ?_
  refine l_if (p' := 1882) true rfl rfl (by decide +kernel) rfl ?_
  refine l_goto (p' := 2541) rfl rfl rfl ?_
  refine l_incz (p' := 2544) (w := (nI (i + 4))) (ls' := [_, _, _, _, _, _, _, _, _, _]) rfl rfl rfl rfl (mI_add _ _) rfl rfl ?_
  refine l_goto (p' := 28) rfl rfl rfl ?_
  exact hn _ _ _ _ _ ⟨(rd_sn rfl (rd_sn (beq_eq_false_iff_ne.mpr (by omega)) (rd_sn rfl (rd_sn (beq_eq_false_iff_ne.mpr (by omega)) (rd_app (rd_sn rfl (rd_sn rfl (rd_sn rfl (rd_ss rfl (rd_sn rfl H393)))))))))), (rd_sn rfl (rd_sn (beq_eq_false_iff_ne.mpr (by omega)) (rd_sn rfl (rd_sn (beq_eq_false_iff_ne.mpr (by omega)) (rd_app (rd_sn rfl (rd_sn rfl (rd_sn rfl (rd_sn rfl (rd_ss rfl H394)))))))))), (rd_sn rfl (rd_sn (beq_eq_false_iff_ne.mpr (by omega)) (rd_sn rfl (rd_sn (beq_eq_false_iff_ne.mpr (by omega)) (rd_app (rd_sn rfl (rd_ss rfl (rd_sn rfl (rd_sn rfl (rd_sn rfl H400)))))))))), (rd_ss rfl (rd_sn (beq_eq_false_iff_ne.mpr (by omega)) (rd_ss rfl (rd_sn (beq_eq_false_iff_ne.mpr (by omega)) (rd_app (rd_ss rfl (rd_sn rfl (rd_sn rfl (rd_sn rfl (rd_sn rfl H410)))))))))), (rd_sn rfl (rd_sn (beq_eq_false_iff_ne.mpr (by omega)) (rd_sn rfl (rd_sn (beq_eq_false_iff_ne.mpr (by omega)) (rd_app (rd_sn rfl (rd_sn rfl (rd_ss rfl (rd_sn rfl (rd_sn rfl H412)))))))))), (rd_sn (beq_eq_false_iff_ne.mpr (by omega)) (rd_ss (Nat.blt_eq.mpr (by omega)) (rd_sn (beq_eq_false_iff_ne.mpr (by omega)) (rd_ss (Nat.blt_eq.mpr (by omega)) (rd_nw (Nat.blt_eq.mpr (by omega)) (len_s (len_s (len_s (len_s (len_s HL)))))))))), (mz_fr.s (by decide) (mz_fr.n HL (by omega) (by omega) (mz_fr.s (by decide) (mz_fr.n HL (by omega) (by omega) (mz_fr.a (mz_fr.s (by decide) (mz_fr.s (by decide) (mz_fr.s (by decide) (mz_fr.s (by decide) (mz_fr.s (by decide) (mz_fr.rf _ h))))))))))), (Nat.le_trans (Nat.le_of_eq (len_s (len_s (len_s (len_s (len_a (len_s (len_s (len_s (len_s (len_s HL))))) rfl)))))) (by omega)), (Nat.le_trans (sz_s rfl (rd_sn (beq_eq_false_iff_ne.mpr (by omega)) (rd_ss rfl (rd_sn (beq_eq_false_iff_ne.mpr (by omega)) (rd_app (rd_ss rfl (rd_sn rfl (rd_sn rfl (rd_sn rfl (rd_sn rfl H410))))))))) rfl (sz_sA (Nat.blt_eq.mpr (by omega)) (rd_sn (beq_eq_false_iff_ne.mpr (by omega)) (rd_ss (Nat.blt_eq.mpr (by omega)) (rd_nw (Nat.blt_eq.mpr (by omega)) (len_s (len_s (len_s (len_s (len_s HL)))))))) (sz_s rfl (rd_sn (beq_eq_false_iff_ne.mpr (by omega)) (rd_app (rd_ss rfl (rd_sn rfl (rd_sn rfl (rd_sn rfl (rd_sn rfl H410))))))) rfl (sz_sA (Nat.blt_eq.mpr (by omega)) (rd_nw (Nat.blt_eq.mpr (by omega)) (len_s (len_s (len_s (len_s (len_s HL)))))) (sz_aa (k := 15) (m := mj_sz h + 15) rfl (by omega) (sz_s rfl (rd_sn rfl (rd_sn rfl (rd_sn rfl (rd_sn rfl H410)))) rfl (sz_s rfl (rd_sn rfl (rd_sn rfl (rd_sn rfl H400))) rfl (sz_sA rfl (rd_sn rfl (rd_sn rfl H412)) (sz_s rfl (rd_sn rfl H393) rfl (sz_sA rfl H394 (Nat.le_refl (mj_sz h)))))))))))) (by omega))⟩
theorem w_29_g15 {L i N : Nat} {xs : Nat → Int32} {h : mj_H} {l6 l7 l8 l9 : Option Value} {P : mj_H → Prop} (hL : L ≤ 2048) (hi : i + 4 ≤ L) (hN : N + 2000 < mj_CB) (hN0 : 414 ≤ N) (HL : h.length = N) (hk : xs i &&& nI 63 = nI 29) {gs pl ty wa nw nx dp ca mf : Value} {th : Int32} {sd be : Int64} {ou : Nat → Int64} {vf wf sf uf im jm : Nat → Int32} {k g : Nat} (hk20 : k ≤ 20) (hvw : ∀ j, j < 8 → wf j = vf j) (hsu : ∀ j, j < k → uf j = sf j) (him : ∀ j, j < 8 → jm j = im j) {pe pm ge gm : Value} {q : Nat} (hq6 : q ≤ 6) (hg24 : g ≤ 24) {rf : Nat → Int32} {E : Nat} {mc : Int32} {ef : Nat → Option Nat} {G : Nat → Nat} (hE0 : 414 ≤ E ∧ E < N) (hG2 : ∀ j, j < 15 → ef j = some (1000138 + G j) ∧ G j < 24) {l c : Nat} (hl : l < 3) (hc : c < 8) (hcl : nI c &&& (nI 1 <<< (nI l &&& 31)) = nI 0) (hcr : (nI c >>> (nI l &&& 31)) &&& nI 1 = nI 0)  (hx1 : xs (i + 1) = nI l) (hx2 : xs (i + 2) = nI c) (H0 : mj_rd h 0 = some (.inr (0, [.ref 1, .ref 38, .ref 299, .ref 336, .ref 373, .ref 375, .ref 378, .ref 381, .ref 387, .ref 393, gs, pl, .ref 397, .ref 398, .ref 399, .long sd, .long be]))) (H393 : mj_rd h 393 = some (.inr (9, [.ref 394, .ref 395, .ref 396, .int (nI 15), mf]))) (H394 : mj_rd h 394 = some (.inl (0, (24, .inl (rf))))) (H400 : mj_rd h 400 = some (.inr (17, [.int th, .ref 401, .ref 402, ty, .long sd, .long be, .ref 410, wa, nw, nx, .ref 411]))) (H410 : mj_rd h 410 = some (.inr (18, [.ref E, .int (nI 15), .int mc]))) (H412 : mj_rd h 412 = some (.inl (4, (1, .inr (.inl (ou)))))) (HE : mj_rd h E = some (.inl (6, (15, .inr (.inr (.inr (.inr (ef)))))))) (hn : ∀ (l6 l7 l8 l9 : Option Value) (h' : mj_H), mj_rd h' 393 = some (.inr (9, [.ref 394, .ref 395, .ref 396, .int (nI 16), mf])) ∧ mj_rd h' 394 = some (.inl (0, (24, .inl ((upd rf 15 (nI ((8 * l) + c))))))) ∧ mj_rd h' 400 = some (.inr (17, [.int (nI 0), .ref 401, .ref 402, ty, .long sd, .long be, .ref 410, wa, nw, nx, .ref 411])) ∧ mj_rd h' 410 = some (.inr (18, [.ref N, .int (nI 16), .int (mc + (nI 1))])) ∧ mj_rd h' 412 = some (.inl (4, (1, .inr (.inl ((vp_updL ou 0 (lN 16))))))) ∧ mj_rd h' N = some (.inl (6, (22, .inr (.inr (.inr (.inr ((va_up (va_cpy ef (fun _ => none) 0 0 15) 15 (some (1000138 + ((8 * l) + c))))))))))) ∧ mz_fr [393, 394, 400, 410, 412] h h' ∧ h'.length ≤ N + 1 ∧ mj_sz h' ≤ mj_sz h + 22 → mj_lrun L xs (28, [some (.retAddr 1), some (.ref 0), some (.ref 400), some (.ref 412), some (.ref 413), some (.int (nI (i + 4))), l6, l7, l8, l9], [], h') P) : mj_lrun L xs (28, [some (.retAddr 1), some (.ref 0), some (.ref 400), some (.ref 412), some (.ref 413), some (.int (nI i)), l6, l7, l8, l9], [], h) P := by
  refine l_ild (p' := 30) rfl rfl rfl rfl ?_
  refine l_alds (p' := 31) rfl rfl rfl rfl ?_
  refine l_lens (p' := 32) rfl rfl rfl ?_
  refine l_con (p' := 33) rfl rfl rfl ?_
  refine l_bz (p' := 34) (z := (nI (L - 4))) rfl rfl rfl rfl rfl (mI_sub (by omega)) ?_
  refine l_icmp (p' := 37) false rfl rfl ((ci_gt (by omega) (by omega)).trans (decide_eq_false (by omega))) rfl ?_
  refine l_alds (p' := 38) rfl rfl rfl rfl ?_
  refine l_ild (p' := 40) rfl rfl rfl rfl ?_
  refine l_ialz (p' := 41) (m := i) (z := (xs i)) rfl rfl (inb_nI (by omega) (by omega)) (mI_cl (by omega)) rfl rfl ?_
  refine l_bip (p' := 43) rfl rfl rfl ?_
  refine l_bz (p' := 44) (z := (nI 29)) rfl rfl rfl rfl rfl hk ?_
  refine l_sp (p' := 1817) (ls' := _) rfl rfl rfl rfl rfl ?_
  refine l_aldn (p' := 1818) rfl rfl rfl rfl ?_
  refine l_alds (p' := 1819) rfl rfl rfl rfl ?_
  refine l_ild (p' := 1821) rfl rfl rfl rfl ?_
  refine l_con (p' := 1822) rfl rfl rfl ?_
  refine l_bz (p' := 1823) (z := (nI (i + 1))) rfl rfl rfl rfl rfl (mI_add _ _) ?_
  refine l_ialz (p' := 1824) (m := (i + 1)) (z := (nI l)) rfl rfl (inb_nI (by omega) (by omega)) (mI_cl (by omega)) hx1 rfl ?_
  refine l_alds (p' := 1825) rfl rfl rfl rfl ?_
  refine l_ild (p' := 1827) rfl rfl rfl rfl ?_
  refine l_con (p' := 1828) rfl rfl rfl ?_
  refine l_bz (p' := 1829) (z := (nI (i + 2))) rfl rfl rfl rfl rfl (mI_add _ _) ?_
  refine l_ialz (p' := 1830) (m := (i + 2)) (z := (nI c)) rfl rfl (inb_nI (by omega) (by omega)) (mI_cl (by omega)) hx2 rfl ?_
  refine l_aldn (p' := 1831) rfl rfl rfl rfl ?_
  refine l_call (p' := 1834) (kc := 99) (ls0 := [_, _, _, _, _]) rfl rfl rfl rfl rfl rfl rfl rfl rfl rfl ?_
  refine s_aldn (p' := 1) rfl rfl rfl ?_
  refine s_con (p' := 2) rfl rfl ?_
  refine s_aldn (p' := 3) rfl rfl rfl ?_
  refine s_ildn (p' := 4) rfl rfl rfl ?_
  refine s_ildn (p' := 5) rfl rfl rfl ?_
  refine c_call (p' := 8) (kc := 98) (ls0 := [_, _, _]) rfl rfl rfl rfl rfl (mj_rcv_is H0) rfl rfl rfl ?_
  refine s_ildn (p' := 1) rfl rfl rfl ?_
  refine s_if (p' := 4) false rfl ((cg_lt (w := 0) (by decide +kernel)).trans (decide_eq_false (by rw [mI_ti (by omega)]; omega))) rfl ?_
  refine s_ildn (p' := 5) rfl rfl rfl ?_
  refine s_con (p' := 6) rfl rfl ?_
  refine s_icmp (p' := 9) false rfl ((cg_ge (w := 3) (by decide +kernel)).trans (decide_eq_false (by rw [mI_ti (by omega)]; omega))) rfl ?_
  refine s_ildn (p' := 10) rfl rfl rfl ?_
  refine s_if (p' := 13) false rfl ((cg_lt (w := 0) (by decide +kernel)).trans (decide_eq_false (by rw [mI_ti (by omega)]; omega))) rfl ?_
  refine s_ildn (p' := 14) rfl rfl rfl ?_
  refine s_bip (p' := 16) rfl rfl ?_
  refine s_icmp (p' := 30) true rfl ((cg_lt (w := 8) (by decide +kernel)).trans (decide_eq_true (by rw [mI_ti (by omega)]; omega))) rfl ?_
  refine s_ildn (p' := 31) rfl rfl rfl ?_
  refine s_con (p' := 32) rfl rfl ?_
  refine s_ildn (p' := 33) rfl rfl rfl ?_
  refine s_bz (p' := 34) (z := (nI 1 <<< (nI l &&& 31))) rfl rfl rfl rfl ?_
  refine s_bz (p' := 35) (z := (nI 0)) rfl rfl rfl hcl ?_
  refine s_if (p' := 49) true rfl (by decide +kernel) rfl ?_
  refine s_aldn (p' := 50) rfl rfl rfl ?_
  refine s_gf (p' := 53) rfl H0 rfl rfl ?_
  refine c_call (p' := 56) (kc := 97) (ls0 := [_]) rfl rfl rfl rfl rfl (mj_rcv_is H393) rfl rfl rfl ?_
  refine s_aldn (p' := 1) rfl rfl rfl ?_
  refine s_gf (p' := 4) rfl H393 rfl rfl ?_
  refine s_bip (p' := 6) rfl rfl ?_
  refine s_icmp (p' := 13) true rfl (by decide +kernel) rfl ?_
  refine s_con (p' := 14) rfl rfl ?_
  refine c_iret rfl (by decide +kernel) ?_
  refine s_if (p' := 70) true rfl (by decide +kernel) rfl ?_
  refine s_aldn (p' := 71) rfl rfl rfl ?_
  refine s_gf (p' := 74) rfl H0 rfl rfl ?_
  refine s_bip (p' := 76) rfl rfl ?_
  refine s_ildn (p' := 77) rfl rfl rfl ?_
  refine s_bz (p' := 78) (z := (nI (8 * l))) rfl rfl rfl (mI_mul _ _) ?_
  refine s_ildn (p' := 79) rfl rfl rfl ?_
  refine s_bz (p' := 80) (z := (nI ((8 * l) + c))) rfl rfl rfl (mI_add _ _) ?_
  refine c_call (p' := 83) (kc := 97) (ls0 := [_, _]) rfl rfl rfl rfl rfl (mj_rcv_is H393) rfl rfl rfl ?_
  refine s_aldn (p' := 1) rfl rfl rfl ?_
  refine s_gf (p' := 4) rfl H393 rfl rfl ?_
  refine s_if (p' := 7) false rfl (by decide +kernel) rfl ?_
  refine s_aldn (p' := 8) rfl rfl rfl ?_
  refine s_gf (p' := 11) rfl H393 rfl rfl ?_
  refine s_aldn (p' := 12) rfl rfl rfl ?_
  refine s_gf (p' := 15) rfl H393 rfl rfl ?_
  refine s_lenz (p' := 16) rfl (mj_rdA_is H394 (by decide)) rfl rfl ?_
  refine s_icmp (p' := 19) false rfl (by decide +kernel) rfl ?_
  refine s_aldn (p' := 20) rfl rfl rfl ?_
  refine s_gf (p' := 23) rfl H393 rfl rfl ?_
  refine s_aldn (p' := 24) rfl rfl rfl ?_
  refine s_gf (p' := 27) rfl H393 rfl rfl ?_
  refine s_ildn (p' := 28) rfl rfl rfl ?_
  refine s_iasz (p' := 29) (m := 15) rfl rfl H394 (by decide +kernel) rfl rfl rfl ?_
  refine s_aldn (p' := 30) rfl rfl rfl ?_
  refine s_dupr (p' := 31) rfl rfl ?_
  refine s_gf (p' := 34) rfl (rd_sn rfl H393) rfl rfl ?_
  refine s_con (p' := 35) rfl rfl ?_
  refine s_bz (p' := 36) (z := (nI 16)) rfl rfl rfl (by decide +kernel) ?_
  refine s_pfz (p' := 39) (fs' := [_, _, _, _, _]) rfl rfl (rd_sn rfl H393) rfl rfl rfl rfl ?_
  refine c_ret rfl ?_
  refine s_aldn (p' := 84) rfl rfl rfl ?_
  refine s_gf (p' := 87) rfl (rd_sn rfl (rd_sn rfl H0)) rfl rfl ?_
  refine c_call (p' := 90) (kc := 97) (ls0 := [_]) rfl rfl rfl rfl rfl (mj_rcv_is (rd_ss rfl (rd_sn rfl H393))) rfl rfl rfl ?_
  refine s_aldn (p' := 1) rfl rfl rfl ?_
  refine s_gf (p' := 4) rfl (rd_ss rfl (rd_sn rfl H393)) rfl rfl ?_
  refine c_iret rfl rfl ?_
  refine c_iret rfl rfl ?_
  refine s_bzL (p' := 9) (z := (lN 16)) rfl rfl rfl (by decide +kernel) ?_
  refine s_lasz (p' := 10) (m := 0) rfl rfl (rd_sn rfl (rd_sn rfl H412)) (by decide +kernel) rfl rfl rfl ?_
  refine s_goto (p' := 21) rfl rfl ?_
  refine s_con (p' := 22) rfl rfl ?_
  refine k_iret rfl rfl ?_
  refine l_ist (p' := 1836) (ls' := [_, _, _, _, _, _, _, _, _, _]) rfl rfl rfl rfl rfl ?_
  refine l_aldn (p' := 1837) rfl rfl rfl rfl ?_
  refine l_alds (p' := 1838) rfl rfl rfl rfl ?_
  refine l_ild (p' := 1840) rfl rfl rfl rfl ?_
  refine l_con (p' := 1841) rfl rfl rfl ?_
  refine l_bz (p' := 1842) (z := (nI (i + 1))) rfl rfl rfl rfl rfl (mI_add _ _) ?_
  refine l_ialz (p' := 1843) (m := (i + 1)) (z := (nI l)) rfl rfl (inb_nI (by omega) (by omega)) (mI_cl (by omega)) hx1 rfl ?_
  refine l_alds (p' := 1844) rfl rfl rfl rfl ?_
  refine l_ild (p' := 1846) rfl rfl rfl rfl ?_
  refine l_con (p' := 1847) rfl rfl rfl ?_
  refine l_bz (p' := 1848) (z := (nI (i + 2))) rfl rfl rfl rfl rfl (mI_add _ _) ?_
  refine l_ialz (p' := 1849) (m := (i + 2)) (z := (nI c)) rfl rfl (inb_nI (by omega) (by omega)) (mI_cl (by omega)) hx2 rfl ?_
  refine l_call (p' := 1852) (kc := 99) (ls0 := [_, _, _, _]) rfl rfl rfl rfl rfl rfl (mj_rcv_is (rd_sn rfl (rd_sn rfl (rd_sn rfl H400)))) rfl rfl rfl ?_
  refine s_ildn (p' := 1) rfl rfl rfl ?_
  refine s_con (p' := 2) rfl rfl ?_
  refine s_con (p' := 3) rfl rfl ?_
  refine c_call (p' := 6) (kc := 98) (ls0 := [_, _, _]) rfl rfl rfl rfl rfl rfl rfl rfl rfl ?_
  refine s_ildn (p' := 1) rfl rfl rfl ?_
  refine s_ildn (p' := 2) rfl rfl rfl ?_
  refine s_icmp (p' := 5) false rfl ((ch_gt (w := 0) (by decide +kernel)).trans (decide_eq_false (by rw [mI_ti (by omega)]; omega))) rfl ?_
  refine s_ildn (p' := 6) rfl rfl rfl ?_
  refine s_ildn (p' := 7) rfl rfl rfl ?_
  refine s_icmp (p' := 10) false rfl ((cg_gt (w := 2) (by decide +kernel)).trans (decide_eq_false (by rw [mI_ti (by omega)]; omega))) rfl ?_
  refine s_con (p' := 11) rfl rfl ?_
  refine s_goto (p' := 15) rfl rfl ?_
  refine c_iret rfl (by decide +kernel) ?_
  refine s_if (p' := 9) false rfl (by decide +kernel) rfl ?_
  refine s_ildn (p' := 10) rfl rfl rfl ?_
  refine s_con (p' := 11) rfl rfl ?_
  refine s_bip (p' := 13) rfl rfl ?_
  refine c_call (p' := 16) (kc := 98) (ls0 := [_, _, _]) rfl rfl rfl rfl rfl rfl rfl rfl rfl ?_
  refine s_ildn (p' := 1) rfl rfl rfl ?_
  refine s_ildn (p' := 2) rfl rfl rfl ?_
  refine s_icmp (p' := 5) false rfl ((ch_gt (w := 0) (by decide +kernel)).trans (decide_eq_false (by rw [mI_ti (by omega)]; omega))) rfl ?_
  refine s_ildn (p' := 6) rfl rfl rfl ?_
  refine s_ildn (p' := 7) rfl rfl rfl ?_
  refine s_icmp (p' := 10) false rfl ((cg_gt (w := 7) (by decide +kernel)).trans (decide_eq_false (by rw [mI_ti (by omega)]; omega))) rfl ?_
  refine s_con (p' := 11) rfl rfl ?_
  refine s_goto (p' := 15) rfl rfl ?_
  refine c_iret rfl (by decide +kernel) ?_
  refine s_if (p' := 19) false rfl (by decide +kernel) rfl ?_
  refine s_ildn (p' := 20) rfl rfl rfl ?_
  refine s_ildn (p' := 21) rfl rfl rfl ?_
  refine s_bz (p' := 22) (z := (nI c >>> (nI l &&& 31))) rfl rfl rfl rfl ?_
  refine s_con (p' := 23) rfl rfl ?_
  refine s_bz (p' := 24) (z := (nI 0)) rfl rfl rfl hcr ?_
  refine s_if (p' := 27) false rfl (by decide +kernel) rfl ?_
  refine s_con (p' := 28) rfl rfl ?_
  refine s_goto (p' := 32) rfl rfl ?_
  refine s_istn (p' := 33) (ls' := [_, _, _, _]) rfl rfl rfl rfl ?_
  refine s_aldn (p' := 34) rfl rfl rfl ?_
  refine s_ildn (p' := 35) rfl rfl rfl ?_
  refine s_if (p' := 42) true rfl (by decide +kernel) rfl ?_
  refine s_aldn (p' := 43) rfl rfl rfl ?_
  refine s_gf (p' := 46) rfl (rd_sn rfl (rd_sn rfl (rd_sn rfl H400))) rfl rfl ?_
  refine c_call (p' := 51) (kc := 98) (ls0 := [_]) rfl rfl rfl rfl rfl (mj_rcv_is (rd_sn rfl (rd_sn rfl (rd_sn rfl H410)))) rfl rfl rfl ?_
  refine s_aldn (p' := 1) rfl rfl rfl ?_
  refine s_gf (p' := 4) rfl (rd_sn rfl (rd_sn rfl (rd_sn rfl H410))) rfl rfl ?_
  refine c_iret rfl rfl ?_
  refine s_bip (p' := 53) rfl rfl ?_
  refine s_icmp (p' := 60) true rfl (by decide +kernel) rfl ?_
  refine s_con (p' := 61) rfl rfl ?_
  refine c_call (p' := 64) (kc := 98) (ls0 := [_, _]) rfl rfl rfl rfl rfl (mj_rcv_is (rd_sn rfl (rd_sn rfl (rd_sn rfl H400)))) rfl rfl rfl ?_
  refine s_aldn (p' := 1) rfl rfl rfl ?_
  refine s_ildn (p' := 2) rfl rfl rfl ?_
  refine s_pfz (p' := 5) (fs' := [_, _, _, _, _, _, _, _, _, _, _]) rfl rfl (rd_sn rfl (rd_sn rfl (rd_sn rfl H400))) rfl rfl rfl rfl ?_
  refine s_ildn (p' := 6) rfl rfl rfl ?_
  refine s_if (p' := 13) true rfl (by decide +kernel) rfl ?_
  refine s_con (p' := 14) rfl rfl ?_
  refine c_iret rfl (by decide +kernel) ?_
  refine s_if (p' := 69) true rfl (by decide +kernel) rfl ?_
  refine s_aldn (p' := 70) rfl rfl rfl ?_
  refine s_gf (p' := 73) rfl (rd_ss rfl (rd_sn rfl (rd_sn rfl (rd_sn rfl H400)))) rfl rfl ?_
  refine s_bip (p' := 75) rfl rfl ?_
  refine s_ildn (p' := 76) rfl rfl rfl ?_
  refine s_bz (p' := 77) (z := (nI (8 * l))) rfl rfl rfl (mI_mul _ _) ?_
  refine s_ildn (p' := 78) rfl rfl rfl ?_
  refine s_bz (p' := 79) (z := (nI ((8 * l) + c))) rfl rfl rfl (mI_add _ _) ?_
  refine s_callV (p' := 82) (kc := 0) (ls0 := [_]) rfl rfl rfl rfl rfl rfl rfl (y_vo (by omega)) (by decide) rfl ?_
  refine c_call (p' := 87) (kc := 98) (ls0 := [_, _]) rfl rfl rfl rfl rfl (mj_rcv_is (rd_sn rfl (rd_sn rfl (rd_sn rfl (rd_sn rfl H410))))) rfl rfl rfl ?_
  refine s_aldn (p' := 1) rfl rfl rfl ?_
  refine s_dupr (p' := 2) rfl rfl ?_
  refine s_gf (p' := 5) rfl (rd_sn rfl (rd_sn rfl (rd_sn rfl (rd_sn rfl H410)))) rfl rfl ?_
  refine s_con (p' := 6) rfl rfl ?_
  refine s_bz (p' := 7) (z := (mc + (nI 1))) rfl rfl rfl rfl ?_
  refine s_pfz (p' := 10) (fs' := [_, _, _]) rfl rfl (rd_sn rfl (rd_sn rfl (rd_sn rfl (rd_sn rfl H410)))) rfl rfl rfl rfl ?_
  refine s_aldn (p' := 11) rfl rfl rfl ?_
  refine s_aldn (p' := 12) rfl rfl rfl ?_
  refine s_aldn (p' := 13) rfl rfl rfl ?_
  refine s_gf (p' := 16) rfl (rd_ss rfl (rd_sn rfl (rd_sn rfl (rd_sn rfl (rd_sn rfl H410))))) rfl rfl ?_
  refine s_aldn (p' := 17) rfl rfl rfl ?_
  refine s_gf (p' := 20) rfl (rd_ss rfl (rd_sn rfl (rd_sn rfl (rd_sn rfl (rd_sn rfl H410))))) rfl rfl ?_
  refine c_call (p' := 23) (kc := 97) (ls0 := [_, _, _, _]) rfl rfl rfl rfl rfl (mj_rcv_is (rd_ss rfl (rd_sn rfl (rd_sn rfl (rd_sn rfl (rd_sn rfl H410)))))) rfl rfl rfl ?_
  refine s_ildn (p' := 1) rfl rfl rfl ?_
  refine s_aldn (p' := 2) rfl rfl rfl ?_
  refine s_lenz (p' := 3) rfl (mj_rdA_is (rd_sn (beq_eq_false_iff_ne.mpr (by omega)) (rd_sn (beq_eq_false_iff_ne.mpr (by omega)) (rd_sn (beq_eq_false_iff_ne.mpr (by omega)) (rd_sn (beq_eq_false_iff_ne.mpr (by omega)) (rd_sn (beq_eq_false_iff_ne.mpr (by omega)) HE))))) (by decide)) rfl rfl ?_
  refine s_icmp (p' := 6) false rfl (by decide +kernel) rfl ?_
  refine s_aldn (p' := 7) rfl rfl rfl ?_
  refine c_call (p' := 10) (kc := 96) (ls0 := [_]) rfl rfl rfl rfl rfl (mj_rcv_is (rd_ss rfl (rd_sn rfl (rd_sn rfl (rd_sn rfl (rd_sn rfl H410)))))) rfl rfl rfl ?_
  refine s_aldn (p' := 1) rfl rfl rfl ?_
  refine s_aldn (p' := 2) rfl rfl rfl ?_
  refine s_gf (p' := 5) rfl (rd_ss rfl (rd_sn rfl (rd_sn rfl (rd_sn rfl (rd_sn rfl H410))))) rfl rfl ?_
  refine s_con (p' := 6) rfl rfl ?_
  refine s_bz (p' := 7) (z := (nI 16)) rfl rfl rfl (by decide +kernel) ?_
  refine c_call (p' := 10) (kc := 95) (ls0 := [_, _, _, _]) rfl rfl rfl rfl rfl (mj_rcv_is (rd_ss rfl (rd_sn rfl (rd_sn rfl (rd_sn rfl (rd_sn rfl H410)))))) rfl rfl rfl ?_
  refine s_aldn (p' := 1) rfl rfl rfl ?_
  refine s_gf (p' := 4) rfl (rd_ss rfl (rd_sn rfl (rd_sn rfl (rd_sn rfl (rd_sn rfl H410))))) rfl rfl ?_
  refine s_lenz (p' := 5) rfl (mj_rdA_is (rd_sn (beq_eq_false_iff_ne.mpr (by omega)) (rd_sn (beq_eq_false_iff_ne.mpr (by omega)) (rd_sn (beq_eq_false_iff_ne.mpr (by omega)) (rd_sn (beq_eq_false_iff_ne.mpr (by omega)) (rd_sn (beq_eq_false_iff_ne.mpr (by omega)) HE))))) (by decide)) rfl rfl ?_
  refine s_istn (p' := 6) (ls' := [_, _, _, _]) rfl rfl rfl rfl ?_
  refine s_ildn (p' := 7) rfl rfl rfl ?_
  refine s_if (p' := 20) true rfl (by decide +kernel) rfl ?_
  refine s_ildn (p' := 21) rfl rfl rfl ?_
  refine s_ildn (p' := 22) rfl rfl rfl ?_
  refine s_ildn (p' := 23) rfl rfl rfl ?_
  refine s_bz (p' := 24) (z := (nI 1)) rfl rfl rfl (by decide +kernel) ?_
  refine s_ildn (p' := 25) rfl rfl rfl ?_
  refine s_con (p' := 26) rfl rfl ?_
  refine s_bz (p' := 27) (z := (nI 7)) rfl rfl rfl (by decide +kernel) ?_
  refine c_call (p' := 30) (kc := 94) (ls0 := [_, _, _, _]) rfl rfl rfl rfl rfl rfl rfl rfl rfl ?_
  refine s_ildn (p' := 1) rfl rfl rfl ?_
  refine s_ildn (p' := 2) rfl rfl rfl ?_
  refine s_ildn (p' := 3) rfl rfl rfl ?_
  refine s_primV (p' := 6) (q := 4) rfl rfl rfl rfl rfl rfl (p_max (x := (nI 1)) (y := (nI 7)) (z := (nI 7)) (by decide +kernel)) rfl ?_
  refine s_bz (p' := 7) (z := (nI 22)) rfl rfl rfl (by decide +kernel) ?_
  refine s_istn (p' := 8) (ls' := [_, _, _, _]) rfl rfl rfl rfl ?_
  refine s_con (p' := 9) rfl rfl ?_
  refine s_ildn (p' := 10) rfl rfl rfl ?_
  refine s_icmp (p' := 13) false rfl (by decide +kernel) rfl ?_
  refine s_ildn (p' := 14) rfl rfl rfl ?_
  refine s_sh (p' := 16) (ls' := _) (st' := .int (nI 2147483639) :: _) (h' := _) rfl rfl rfl rfl ?_
  refine s_icmp (p' := 19) false rfl (by decide +kernel) rfl ?_
  refine s_ildn (p' := 20) rfl rfl rfl ?_
  refine c_iret rfl rfl ?_
  refine s_istn (p' := 31) (ls' := [_, _, _, _]) rfl rfl rfl rfl ?_
  refine s_aldn (p' := 32) rfl rfl rfl ?_
  refine s_aldn (p' := 33) rfl rfl rfl ?_
  refine s_gf (p' := 36) rfl (rd_ss rfl (rd_sn rfl (rd_sn rfl (rd_sn rfl (rd_sn rfl H410))))) rfl rfl ?_
  refine s_ildn (p' := 37) rfl rfl rfl ?_
  refine c_call (p' := 40) (kc := 94) (ls0 := [_, _]) rfl rfl rfl rfl rfl rfl rfl rfl rfl ?_
  refine s_aldn (p' := 1) rfl rfl rfl ?_
  refine s_ildn (p' := 2) rfl rfl rfl ?_
  refine s_aldn (p' := 3) rfl rfl rfl ?_
  refine s_primV (p' := 6) (q := 1) rfl rfl rfl rfl rfl rfl (p_cls (mj_rdA_is (rd_sn (beq_eq_false_iff_ne.mpr (by omega)) (rd_sn (beq_eq_false_iff_ne.mpr (by omega)) (rd_sn (beq_eq_false_iff_ne.mpr (by omega)) (rd_sn (beq_eq_false_iff_ne.mpr (by omega)) (rd_sn (beq_eq_false_iff_ne.mpr (by omega)) HE))))) (by decide))) rfl ?_
  refine c_call (p' := 9) (kc := 93) (ls0 := [_, _, _, _]) rfl rfl rfl rfl rfl rfl rfl rfl rfl ?_
  refine s_aldn (p' := 1) rfl rfl rfl ?_
  refine s_sh (p' := 3) (ls' := _) (st' := .ref 1000004 :: _) (h' := _) rfl rfl rfl rfl ?_
  refine s_sp (p' := 6) (ls' := _) rfl rfl rfl ?_
  refine s_ildn (p' := 7) rfl rfl rfl ?_
  refine s_anaz (p' := 10) (a := N) (n := 22) rfl (len_s (len_s (len_s (len_s (len_s HL))))) rfl rfl ?_
  refine s_goto (p' := 24) rfl rfl ?_
  refine s_astn (p' := 25) (ls' := [_, _, _, _]) rfl rfl rfl rfl ?_
  refine s_aldn (p' := 26) rfl rfl rfl ?_
  refine s_con (p' := 27) rfl rfl ?_
  refine s_aldn (p' := 28) rfl rfl rfl ?_
  refine s_con (p' := 29) rfl rfl ?_
  refine s_aldn (p' := 30) rfl rfl rfl ?_
  refine s_lenz (p' := 31) rfl (mj_rdA_is (rd_app (rd_sn (beq_eq_false_iff_ne.mpr (by omega)) (rd_sn (beq_eq_false_iff_ne.mpr (by omega)) (rd_sn (beq_eq_false_iff_ne.mpr (by omega)) (rd_sn (beq_eq_false_iff_ne.mpr (by omega)) (rd_sn (beq_eq_false_iff_ne.mpr (by omega)) HE)))))) (by decide)) rfl rfl ?_
  refine s_ildn (p' := 32) rfl rfl rfl ?_
  refine s_primV (p' := 35) (q := 5) rfl rfl rfl rfl rfl rfl (p_min (x := (nI 15)) (y := (nI 22)) (z := (nI 15)) (by decide +kernel)) rfl ?_
  refine s_primN (p' := 38) (q := 0) rfl rfl rfl rfl rfl rfl (p_cpyA (Nat.blt_eq.mpr (by omega)) (mj_rdA_is (rd_app (rd_sn (beq_eq_false_iff_ne.mpr (by omega)) (rd_sn (beq_eq_false_iff_ne.mpr (by omega)) (rd_sn (beq_eq_false_iff_ne.mpr (by omega)) (rd_sn (beq_eq_false_iff_ne.mpr (by omega)) (rd_sn (beq_eq_false_iff_ne.mpr (by omega)) HE)))))) (by decide)) (mj_rdA_is (rd_nw (Nat.blt_eq.mpr (by omega)) (len_s (len_s (len_s (len_s (len_s HL)))))) (by decide)) rfl (cpq_G hG2)) rfl ?_
  refine s_aldn (p' := 39) rfl rfl rfl ?_
  refine c_aret rfl ?_
  refine c_aret rfl ?_
  refine s_sp (p' := 41) (ls' := _) rfl rfl rfl ?_
  refine s_pfz (p' := 44) (fs' := [_, _, _]) rfl rfl (rd_sn (beq_eq_false_iff_ne.mpr (by omega)) (rd_app (rd_ss rfl (rd_sn rfl (rd_sn rfl (rd_sn rfl (rd_sn rfl H410))))))) rfl rfl rfl rfl ?_
  refine c_aret rfl ?_
  refine c_aret rfl ?_
  refine s_astn (p' := 11) (ls' := [_, _, _, _]) rfl rfl rfl rfl ?_
  refine s_aldn (p' := 12) rfl rfl rfl ?_
  refine s_ildn (p' := 13) rfl rfl rfl ?_
  refine s_aldn (p' := 14) rfl rfl rfl ?_
  refine s_aasz (p' := 15) (m := 15) rfl (Nat.blt_eq.mpr (by omega)) (rd_sn (beq_eq_false_iff_ne.mpr (by omega)) (rd_ss (Nat.blt_eq.mpr (by omega)) (rd_nw (Nat.blt_eq.mpr (by omega)) (len_s (len_s (len_s (len_s (len_s HL)))))))) rfl (by decide +kernel) rfl (k_int _ (by omega)) rfl rfl ?_
  refine s_aldn (p' := 16) rfl rfl rfl ?_
  refine s_ildn (p' := 17) rfl rfl rfl ?_
  refine s_con (p' := 18) rfl rfl ?_
  refine s_bz (p' := 19) (z := (nI 16)) rfl rfl rfl (by decide +kernel) ?_
  refine s_pfz (p' := 22) (fs' := [_, _, _]) rfl rfl (rd_sn (beq_eq_false_iff_ne.mpr (by omega)) (rd_ss rfl (rd_sn (beq_eq_false_iff_ne.mpr (by omega)) (rd_app (rd_ss rfl (rd_sn rfl (rd_sn rfl (rd_sn rfl (rd_sn rfl H410))))))))) rfl rfl rfl rfl ?_
  refine c_ret rfl ?_
  refine s_con (p' := 24) rfl rfl ?_
  refine c_iret rfl (by decide +kernel) ?_
  refine s_sp (p' := 88) (ls' := _) rfl rfl rfl ?_
  refine s_aldn (p' := 89) rfl rfl rfl ?_
  refine s_gf (p' := 92) rfl (rd_sn rfl (rd_sn (beq_eq_false_iff_ne.mpr (by omega)) (rd_sn rfl (rd_sn (beq_eq_false_iff_ne.mpr (by omega)) (rd_app (rd_sn rfl (rd_ss rfl (rd_sn rfl (rd_sn rfl (rd_sn rfl H400)))))))))) rfl rfl ?_
  refine c_call (p' := 97) (kc := 98) (ls0 := [_]) rfl rfl rfl rfl rfl (mj_rcv_is (rd_ss rfl (rd_sn (beq_eq_false_iff_ne.mpr (by omega)) (rd_ss rfl (rd_sn (beq_eq_false_iff_ne.mpr (by omega)) (rd_app (rd_ss rfl (rd_sn rfl (rd_sn rfl (rd_sn rfl (rd_sn rfl H410))))))))))) rfl rfl rfl ?_
  refine s_aldn (p' := 1) rfl rfl rfl ?_
  refine s_gf (p' := 4) rfl (rd_ss rfl (rd_sn (beq_eq_false_iff_ne.mpr (by omega)) (rd_ss rfl (rd_sn (beq_eq_false_iff_ne.mpr (by omega)) (rd_app (rd_ss rfl (rd_sn rfl (rd_sn rfl (rd_sn rfl (rd_sn rfl H410)))))))))) rfl rfl ?_
  refine c_iret rfl rfl ?_
  refine k_iret rfl rfl ?_
  refine l_ist (p' := 1854) (ls' := [_, _, _, _, _, _, _, _, _, _]) rfl rfl rfl rfl rfl ?_
  refine l_aldn (p' := 1855) rfl rfl rfl rfl ?_
  refine l_call (p' := 1858) (kc := 99) (ls0 := [_]) rfl rfl rfl rfl rfl rfl (mj_rcv_is (rd_sn rfl (rd_sn (beq_eq_false_iff_ne.mpr (by omega)) (rd_sn rfl (rd_sn (beq_eq_false_iff_ne.mpr (by omega)) (rd_app (rd_sn rfl (rd_ss rfl (rd_sn rfl (rd_sn rfl (rd_sn rfl H400))))))))))) rfl rfl rfl ?_
  refine s_aldn (p' := 1) rfl rfl rfl ?_
  refine s_gf (p' := 4) rfl (rd_sn rfl (rd_sn (beq_eq_false_iff_ne.mpr (by omega)) (rd_sn rfl (rd_sn (beq_eq_false_iff_ne.mpr (by omega)) (rd_app (rd_sn rfl (rd_ss rfl (rd_sn rfl (rd_sn rfl (rd_sn rfl H400)))))))))) rfl rfl ?_
  refine k_iret rfl rfl ?_
  refine l_ild (p' := 1860) rfl rfl rfl rfl ?_
  refine l_icmp (p' := 1865) true rfl rfl (by decide +kernel) rfl ?_
  refine l_ild (p' := 1867) rfl rfl rfl rfl ?_
  refine l_if (p' := 1870) false rfl rfl (by decide +kernel) rfl ?_
  refine l_aldn (p' := 1871) rfl rfl rfl rfl ?_
  refine l_con (p' := 1872) rfl rfl rfl ?_
  refine l_lalz (p' := 1873) (m := 0) (v := (lN 16)) rfl rfl (rd_sn rfl (rd_sn (beq_eq_false_iff_ne.mpr (by omega)) (rd_sn rfl (rd_sn (beq_eq_false_iff_ne.mpr (by omega)) (rd_app (rd_sn rfl (rd_sn rfl (rd_ss rfl (rd_sn rfl (rd_sn rfl H412)))))))))) (by decide +kernel) rfl rfl rfl ?_
  refine l_ild (p' := 1875) rfl rfl rfl rfl ?_
  refine l_bzL (p' := 1876) (z := (lN 16)) rfl rfl rfl rfl rfl (by decide +kernel) ?_
  refine l_bz (p' := 1877) (z := (nI 0)) rfl rfl rfl rfl rfl (by decide +kernel) ?_
  refine l_if (p' := 1882) true rfl rfl (by decide +kernel) rfl ?_
  refine l_goto (p' := 2541) rfl rfl rfl ?_
  refine l_incz (p' := 2544) (w := (nI (i + 4))) (ls' := [_, _, _, _, _, _, _, _, _, _]) rfl rfl rfl rfl (mI_add _ _) rfl rfl ?_
  refine l_goto (p' := 28) rfl rfl rfl ?_
  exact hn _ _ _ _ _ ⟨(rd_sn rfl (rd_sn (beq_eq_false_iff_ne.mpr (by omega)) (rd_sn rfl (rd_sn (beq_eq_false_iff_ne.mpr (by omega)) (rd_app (rd_sn rfl (rd_sn rfl (rd_sn rfl (rd_ss rfl (rd_sn rfl H393)))))))))), (rd_sn rfl (rd_sn (beq_eq_false_iff_ne.mpr (by omega)) (rd_sn rfl (rd_sn (beq_eq_false_iff_ne.mpr (by omega)) (rd_app (rd_sn rfl (rd_sn rfl (rd_sn rfl (rd_sn rfl (rd_ss rfl H394)))))))))), (rd_sn rfl (rd_sn (beq_eq_false_iff_ne.mpr (by omega)) (rd_sn rfl (rd_sn (beq_eq_false_iff_ne.mpr (by omega)) (rd_app (rd_sn rfl (rd_ss rfl (rd_sn rfl (rd_sn rfl (rd_sn rfl H400)))))))))), (rd_ss rfl (rd_sn (beq_eq_false_iff_ne.mpr (by omega)) (rd_ss rfl (rd_sn (beq_eq_false_iff_ne.mpr (by omega)) (rd_app (rd_ss rfl (rd_sn rfl (rd_sn rfl (rd_sn rfl (rd_sn rfl H410)))))))))), (rd_sn rfl (rd_sn (beq_eq_false_iff_ne.mpr (by omega)) (rd_sn rfl (rd_sn (beq_eq_false_iff_ne.mpr (by omega)) (rd_app (rd_sn rfl (rd_sn rfl (rd_ss rfl (rd_sn rfl (rd_sn rfl H412)))))))))), (rd_sn (beq_eq_false_iff_ne.mpr (by omega)) (rd_ss (Nat.blt_eq.mpr (by omega)) (rd_sn (beq_eq_false_iff_ne.mpr (by omega)) (rd_ss (Nat.blt_eq.mpr (by omega)) (rd_nw (Nat.blt_eq.mpr (by omega)) (len_s (len_s (len_s (len_s (len_s HL)))))))))), (mz_fr.s (by decide) (mz_fr.n HL (by omega) (by omega) (mz_fr.s (by decide) (mz_fr.n HL (by omega) (by omega) (mz_fr.a (mz_fr.s (by decide) (mz_fr.s (by decide) (mz_fr.s (by decide) (mz_fr.s (by decide) (mz_fr.s (by decide) (mz_fr.rf _ h))))))))))), (Nat.le_trans (Nat.le_of_eq (len_s (len_s (len_s (len_s (len_a (len_s (len_s (len_s (len_s (len_s HL))))) rfl)))))) (by omega)), (Nat.le_trans (sz_s rfl (rd_sn (beq_eq_false_iff_ne.mpr (by omega)) (rd_ss rfl (rd_sn (beq_eq_false_iff_ne.mpr (by omega)) (rd_app (rd_ss rfl (rd_sn rfl (rd_sn rfl (rd_sn rfl (rd_sn rfl H410))))))))) rfl (sz_sA (Nat.blt_eq.mpr (by omega)) (rd_sn (beq_eq_false_iff_ne.mpr (by omega)) (rd_ss (Nat.blt_eq.mpr (by omega)) (rd_nw (Nat.blt_eq.mpr (by omega)) (len_s (len_s (len_s (len_s (len_s HL)))))))) (sz_s rfl (rd_sn (beq_eq_false_iff_ne.mpr (by omega)) (rd_app (rd_ss rfl (rd_sn rfl (rd_sn rfl (rd_sn rfl (rd_sn rfl H410))))))) rfl (sz_sA (Nat.blt_eq.mpr (by omega)) (rd_nw (Nat.blt_eq.mpr (by omega)) (len_s (len_s (len_s (len_s (len_s HL)))))) (sz_aa (k := 22) (m := mj_sz h + 22) rfl (by omega) (sz_s rfl (rd_sn rfl (rd_sn rfl (rd_sn rfl (rd_sn rfl H410)))) rfl (sz_s rfl (rd_sn rfl (rd_sn rfl (rd_sn rfl H400))) rfl (sz_sA rfl (rd_sn rfl (rd_sn rfl H412)) (sz_s rfl (rd_sn rfl H393) rfl (sz_sA rfl H394 (Nat.le_refl (mj_sz h)))))))))))) (by omega))⟩
theorem w_29_g22 {L i N : Nat} {xs : Nat → Int32} {h : mj_H} {l6 l7 l8 l9 : Option Value} {P : mj_H → Prop} (hL : L ≤ 2048) (hi : i + 4 ≤ L) (hN : N + 2000 < mj_CB) (hN0 : 414 ≤ N) (HL : h.length = N) (hk : xs i &&& nI 63 = nI 29) {gs pl ty wa nw nx dp ca mf : Value} {th : Int32} {sd be : Int64} {ou : Nat → Int64} {vf wf sf uf im jm : Nat → Int32} {k g : Nat} (hk20 : k ≤ 20) (hvw : ∀ j, j < 8 → wf j = vf j) (hsu : ∀ j, j < k → uf j = sf j) (him : ∀ j, j < 8 → jm j = im j) {pe pm ge gm : Value} {q : Nat} (hq6 : q ≤ 6) (hg24 : g ≤ 24) {rf : Nat → Int32} {E : Nat} {mc : Int32} {ef : Nat → Option Nat} {G : Nat → Nat} (hE0 : 414 ≤ E ∧ E < N) (hG2 : ∀ j, j < 22 → ef j = some (1000138 + G j) ∧ G j < 24) {l c : Nat} (hl : l < 3) (hc : c < 8) (hcl : nI c &&& (nI 1 <<< (nI l &&& 31)) = nI 0) (hcr : (nI c >>> (nI l &&& 31)) &&& nI 1 = nI 0)  (hx1 : xs (i + 1) = nI l) (hx2 : xs (i + 2) = nI c) (H0 : mj_rd h 0 = some (.inr (0, [.ref 1, .ref 38, .ref 299, .ref 336, .ref 373, .ref 375, .ref 378, .ref 381, .ref 387, .ref 393, gs, pl, .ref 397, .ref 398, .ref 399, .long sd, .long be]))) (H393 : mj_rd h 393 = some (.inr (9, [.ref 394, .ref 395, .ref 396, .int (nI 22), mf]))) (H394 : mj_rd h 394 = some (.inl (0, (24, .inl (rf))))) (H400 : mj_rd h 400 = some (.inr (17, [.int th, .ref 401, .ref 402, ty, .long sd, .long be, .ref 410, wa, nw, nx, .ref 411]))) (H410 : mj_rd h 410 = some (.inr (18, [.ref E, .int (nI 22), .int mc]))) (H412 : mj_rd h 412 = some (.inl (4, (1, .inr (.inl (ou)))))) (HE : mj_rd h E = some (.inl (6, (22, .inr (.inr (.inr (.inr (ef)))))))) (hn : ∀ (l6 l7 l8 l9 : Option Value) (h' : mj_H), mj_rd h' 393 = some (.inr (9, [.ref 394, .ref 395, .ref 396, .int (nI 23), mf])) ∧ mj_rd h' 394 = some (.inl (0, (24, .inl ((upd rf 22 (nI ((8 * l) + c))))))) ∧ mj_rd h' 400 = some (.inr (17, [.int (nI 0), .ref 401, .ref 402, ty, .long sd, .long be, .ref 410, wa, nw, nx, .ref 411])) ∧ mj_rd h' 410 = some (.inr (18, [.ref N, .int (nI 23), .int (mc + (nI 1))])) ∧ mj_rd h' 412 = some (.inl (4, (1, .inr (.inl ((vp_updL ou 0 (lN 23))))))) ∧ mj_rd h' N = some (.inl (6, (33, .inr (.inr (.inr (.inr ((va_up (va_cpy ef (fun _ => none) 0 0 22) 22 (some (1000138 + ((8 * l) + c))))))))))) ∧ mz_fr [393, 394, 400, 410, 412] h h' ∧ h'.length ≤ N + 1 ∧ mj_sz h' ≤ mj_sz h + 33 → mj_lrun L xs (28, [some (.retAddr 1), some (.ref 0), some (.ref 400), some (.ref 412), some (.ref 413), some (.int (nI (i + 4))), l6, l7, l8, l9], [], h') P) : mj_lrun L xs (28, [some (.retAddr 1), some (.ref 0), some (.ref 400), some (.ref 412), some (.ref 413), some (.int (nI i)), l6, l7, l8, l9], [], h) P := by
  refine l_ild (p' := 30) rfl rfl rfl rfl ?_
  refine l_alds (p' := 31) rfl rfl rfl rfl ?_
  refine l_lens (p' := 32) rfl rfl rfl ?_
  refine l_con (p' := 33) rfl rfl rfl ?_
  refine l_bz (p' := 34) (z := (nI (L - 4))) rfl rfl rfl rfl rfl (mI_sub (by omega)) ?_
  refine l_icmp (p' := 37) false rfl rfl ((ci_gt (by omega) (by omega)).trans (decide_eq_false (by omega))) rfl ?_
  refine l_alds (p' := 38) rfl rfl rfl rfl ?_
  refine l_ild (p' := 40) rfl rfl rfl rfl ?_
  refine l_ialz (p' := 41) (m := i) (z := (xs i)) rfl rfl (inb_nI (by omega) (by omega)) (mI_cl (by omega)) rfl rfl ?_
  refine l_bip (p' := 43) rfl rfl rfl ?_
  refine l_bz (p' := 44) (z := (nI 29)) rfl rfl rfl rfl rfl hk ?_
  refine l_sp (p' := 1817) (ls' := _) rfl rfl rfl rfl rfl ?_
  refine l_aldn (p' := 1818) rfl rfl rfl rfl ?_
  refine l_alds (p' := 1819) rfl rfl rfl rfl ?_
  refine l_ild (p' := 1821) rfl rfl rfl rfl ?_
  refine l_con (p' := 1822) rfl rfl rfl ?_
  refine l_bz (p' := 1823) (z := (nI (i + 1))) rfl rfl rfl rfl rfl (mI_add _ _) ?_
  refine l_ialz (p' := 1824) (m := (i + 1)) (z := (nI l)) rfl rfl (inb_nI (by omega) (by omega)) (mI_cl (by omega)) hx1 rfl ?_
  refine l_alds (p' := 1825) rfl rfl rfl rfl ?_
  refine l_ild (p' := 1827) rfl rfl rfl rfl ?_
  refine l_con (p' := 1828) rfl rfl rfl ?_
  refine l_bz (p' := 1829) (z := (nI (i + 2))) rfl rfl rfl rfl rfl (mI_add _ _) ?_
  refine l_ialz (p' := 1830) (m := (i + 2)) (z := (nI c)) rfl rfl (inb_nI (by omega) (by omega)) (mI_cl (by omega)) hx2 rfl ?_
  refine l_aldn (p' := 1831) rfl rfl rfl rfl ?_
  refine l_call (p' := 1834) (kc := 99) (ls0 := [_, _, _, _, _]) rfl rfl rfl rfl rfl rfl rfl rfl rfl rfl ?_
  refine s_aldn (p' := 1) rfl rfl rfl ?_
  refine s_con (p' := 2) rfl rfl ?_
  refine s_aldn (p' := 3) rfl rfl rfl ?_
  refine s_ildn (p' := 4) rfl rfl rfl ?_
  refine s_ildn (p' := 5) rfl rfl rfl ?_
  refine c_call (p' := 8) (kc := 98) (ls0 := [_, _, _]) rfl rfl rfl rfl rfl (mj_rcv_is H0) rfl rfl rfl ?_
  refine s_ildn (p' := 1) rfl rfl rfl ?_
  refine s_if (p' := 4) false rfl ((cg_lt (w := 0) (by decide +kernel)).trans (decide_eq_false (by rw [mI_ti (by omega)]; omega))) rfl ?_
  refine s_ildn (p' := 5) rfl rfl rfl ?_
  refine s_con (p' := 6) rfl rfl ?_
  refine s_icmp (p' := 9) false rfl ((cg_ge (w := 3) (by decide +kernel)).trans (decide_eq_false (by rw [mI_ti (by omega)]; omega))) rfl ?_
  refine s_ildn (p' := 10) rfl rfl rfl ?_
  refine s_if (p' := 13) false rfl ((cg_lt (w := 0) (by decide +kernel)).trans (decide_eq_false (by rw [mI_ti (by omega)]; omega))) rfl ?_
  refine s_ildn (p' := 14) rfl rfl rfl ?_
  refine s_bip (p' := 16) rfl rfl ?_
  refine s_icmp (p' := 30) true rfl ((cg_lt (w := 8) (by decide +kernel)).trans (decide_eq_true (by rw [mI_ti (by omega)]; omega))) rfl ?_
  refine s_ildn (p' := 31) rfl rfl rfl ?_
  refine s_con (p' := 32) rfl rfl ?_
  refine s_ildn (p' := 33) rfl rfl rfl ?_
  refine s_bz (p' := 34) (z := (nI 1 <<< (nI l &&& 31))) rfl rfl rfl rfl ?_
  refine s_bz (p' := 35) (z := (nI 0)) rfl rfl rfl hcl ?_
  refine s_if (p' := 49) true rfl (by decide +kernel) rfl ?_
  refine s_aldn (p' := 50) rfl rfl rfl ?_
  refine s_gf (p' := 53) rfl H0 rfl rfl ?_
  refine c_call (p' := 56) (kc := 97) (ls0 := [_]) rfl rfl rfl rfl rfl (mj_rcv_is H393) rfl rfl rfl ?_
  refine s_aldn (p' := 1) rfl rfl rfl ?_
  refine s_gf (p' := 4) rfl H393 rfl rfl ?_
  refine s_bip (p' := 6) rfl rfl ?_
  refine s_icmp (p' := 13) true rfl (by decide +kernel) rfl ?_
  refine s_con (p' := 14) rfl rfl ?_
  refine c_iret rfl (by decide +kernel) ?_
  refine s_if (p' := 70) true rfl (by decide +kernel) rfl ?_
  refine s_aldn (p' := 71) rfl rfl rfl ?_
  refine s_gf (p' := 74) rfl H0 rfl rfl ?_
  refine s_bip (p' := 76) rfl rfl ?_
  refine s_ildn (p' := 77) rfl rfl rfl ?_
  refine s_bz (p' := 78) (z := (nI (8 * l))) rfl rfl rfl (mI_mul _ _) ?_
  refine s_ildn (p' := 79) rfl rfl rfl ?_
  refine s_bz (p' := 80) (z := (nI ((8 * l) + c))) rfl rfl rfl (mI_add _ _) ?_
  refine c_call (p' := 83) (kc := 97) (ls0 := [_, _]) rfl rfl rfl rfl rfl (mj_rcv_is H393) rfl rfl rfl ?_
  refine s_aldn (p' := 1) rfl rfl rfl ?_
  refine s_gf (p' := 4) rfl H393 rfl rfl ?_
  refine s_if (p' := 7) false rfl (by decide +kernel) rfl ?_
  refine s_aldn (p' := 8) rfl rfl rfl ?_
  refine s_gf (p' := 11) rfl H393 rfl rfl ?_
  refine s_aldn (p' := 12) rfl rfl rfl ?_
  refine s_gf (p' := 15) rfl H393 rfl rfl ?_
  refine s_lenz (p' := 16) rfl (mj_rdA_is H394 (by decide)) rfl rfl ?_
  refine s_icmp (p' := 19) false rfl (by decide +kernel) rfl ?_
  refine s_aldn (p' := 20) rfl rfl rfl ?_
  refine s_gf (p' := 23) rfl H393 rfl rfl ?_
  refine s_aldn (p' := 24) rfl rfl rfl ?_
  refine s_gf (p' := 27) rfl H393 rfl rfl ?_
  refine s_ildn (p' := 28) rfl rfl rfl ?_
  refine s_iasz (p' := 29) (m := 22) rfl rfl H394 (by decide +kernel) rfl rfl rfl ?_
  refine s_aldn (p' := 30) rfl rfl rfl ?_
  refine s_dupr (p' := 31) rfl rfl ?_
  refine s_gf (p' := 34) rfl (rd_sn rfl H393) rfl rfl ?_
  refine s_con (p' := 35) rfl rfl ?_
  refine s_bz (p' := 36) (z := (nI 23)) rfl rfl rfl (by decide +kernel) ?_
  refine s_pfz (p' := 39) (fs' := [_, _, _, _, _]) rfl rfl (rd_sn rfl H393) rfl rfl rfl rfl ?_
  refine c_ret rfl ?_
  refine s_aldn (p' := 84) rfl rfl rfl ?_
  refine s_gf (p' := 87) rfl (rd_sn rfl (rd_sn rfl H0)) rfl rfl ?_
  refine c_call (p' := 90) (kc := 97) (ls0 := [_]) rfl rfl rfl rfl rfl (mj_rcv_is (rd_ss rfl (rd_sn rfl H393))) rfl rfl rfl ?_
  refine s_aldn (p' := 1) rfl rfl rfl ?_
  refine s_gf (p' := 4) rfl (rd_ss rfl (rd_sn rfl H393)) rfl rfl ?_
  refine c_iret rfl rfl ?_
  refine c_iret rfl rfl ?_
  refine s_bzL (p' := 9) (z := (lN 23)) rfl rfl rfl (by decide +kernel) ?_
  refine s_lasz (p' := 10) (m := 0) rfl rfl (rd_sn rfl (rd_sn rfl H412)) (by decide +kernel) rfl rfl rfl ?_
  refine s_goto (p' := 21) rfl rfl ?_
  refine s_con (p' := 22) rfl rfl ?_
  refine k_iret rfl rfl ?_
  refine l_ist (p' := 1836) (ls' := [_, _, _, _, _, _, _, _, _, _]) rfl rfl rfl rfl rfl ?_
  refine l_aldn (p' := 1837) rfl rfl rfl rfl ?_
  refine l_alds (p' := 1838) rfl rfl rfl rfl ?_
  refine l_ild (p' := 1840) rfl rfl rfl rfl ?_
  refine l_con (p' := 1841) rfl rfl rfl ?_
  refine l_bz (p' := 1842) (z := (nI (i + 1))) rfl rfl rfl rfl rfl (mI_add _ _) ?_
  refine l_ialz (p' := 1843) (m := (i + 1)) (z := (nI l)) rfl rfl (inb_nI (by omega) (by omega)) (mI_cl (by omega)) hx1 rfl ?_
  refine l_alds (p' := 1844) rfl rfl rfl rfl ?_
  refine l_ild (p' := 1846) rfl rfl rfl rfl ?_
  refine l_con (p' := 1847) rfl rfl rfl ?_
  refine l_bz (p' := 1848) (z := (nI (i + 2))) rfl rfl rfl rfl rfl (mI_add _ _) ?_
  refine l_ialz (p' := 1849) (m := (i + 2)) (z := (nI c)) rfl rfl (inb_nI (by omega) (by omega)) (mI_cl (by omega)) hx2 rfl ?_
  refine l_call (p' := 1852) (kc := 99) (ls0 := [_, _, _, _]) rfl rfl rfl rfl rfl rfl (mj_rcv_is (rd_sn rfl (rd_sn rfl (rd_sn rfl H400)))) rfl rfl rfl ?_
  refine s_ildn (p' := 1) rfl rfl rfl ?_
  refine s_con (p' := 2) rfl rfl ?_
  refine s_con (p' := 3) rfl rfl ?_
  refine c_call (p' := 6) (kc := 98) (ls0 := [_, _, _]) rfl rfl rfl rfl rfl rfl rfl rfl rfl ?_
  refine s_ildn (p' := 1) rfl rfl rfl ?_
  refine s_ildn (p' := 2) rfl rfl rfl ?_
  refine s_icmp (p' := 5) false rfl ((ch_gt (w := 0) (by decide +kernel)).trans (decide_eq_false (by rw [mI_ti (by omega)]; omega))) rfl ?_
  refine s_ildn (p' := 6) rfl rfl rfl ?_
  refine s_ildn (p' := 7) rfl rfl rfl ?_
  refine s_icmp (p' := 10) false rfl ((cg_gt (w := 2) (by decide +kernel)).trans (decide_eq_false (by rw [mI_ti (by omega)]; omega))) rfl ?_
  refine s_con (p' := 11) rfl rfl ?_
  refine s_goto (p' := 15) rfl rfl ?_
  refine c_iret rfl (by decide +kernel) ?_
  refine s_if (p' := 9) false rfl (by decide +kernel) rfl ?_
  refine s_ildn (p' := 10) rfl rfl rfl ?_
  refine s_con (p' := 11) rfl rfl ?_
  refine s_bip (p' := 13) rfl rfl ?_
  refine c_call (p' := 16) (kc := 98) (ls0 := [_, _, _]) rfl rfl rfl rfl rfl rfl rfl rfl rfl ?_
  refine s_ildn (p' := 1) rfl rfl rfl ?_
  refine s_ildn (p' := 2) rfl rfl rfl ?_
  refine s_icmp (p' := 5) false rfl ((ch_gt (w := 0) (by decide +kernel)).trans (decide_eq_false (by rw [mI_ti (by omega)]; omega))) rfl ?_
  refine s_ildn (p' := 6) rfl rfl rfl ?_
  refine s_ildn (p' := 7) rfl rfl rfl ?_
  refine s_icmp (p' := 10) false rfl ((cg_gt (w := 7) (by decide +kernel)).trans (decide_eq_false (by rw [mI_ti (by omega)]; omega))) rfl ?_
  refine s_con (p' := 11) rfl rfl ?_
  refine s_goto (p' := 15) rfl rfl ?_
  refine c_iret rfl (by decide +kernel) ?_
  refine s_if (p' := 19) false rfl (by decide +kernel) rfl ?_
  refine s_ildn (p' := 20) rfl rfl rfl ?_
  refine s_ildn (p' := 21) rfl rfl rfl ?_
  refine s_bz (p' := 22) (z := (nI c >>> (nI l &&& 31))) rfl rfl rfl rfl ?_
  refine s_con (p' := 23) rfl rfl ?_
  refine s_bz (p' := 24) (z := (nI 0)) rfl rfl rfl hcr ?_
  refine s_if (p' := 27) false rfl (by decide +kernel) rfl ?_
  refine s_con (p' := 28) rfl rfl ?_
  refine s_goto (p' := 32) rfl rfl ?_
  refine s_istn (p' := 33) (ls' := [_, _, _, _]) rfl rfl rfl rfl ?_
  refine s_aldn (p' := 34) rfl rfl rfl ?_
  refine s_ildn (p' := 35) rfl rfl rfl ?_
  refine s_if (p' := 42) true rfl (by decide +kernel) rfl ?_
  refine s_aldn (p' := 43) rfl rfl rfl ?_
  refine s_gf (p' := 46) rfl (rd_sn rfl (rd_sn rfl (rd_sn rfl H400))) rfl rfl ?_
  refine c_call (p' := 51) (kc := 98) (ls0 := [_]) rfl rfl rfl rfl rfl (mj_rcv_is (rd_sn rfl (rd_sn rfl (rd_sn rfl H410)))) rfl rfl rfl ?_
  refine s_aldn (p' := 1) rfl rfl rfl ?_
  refine s_gf (p' := 4) rfl (rd_sn rfl (rd_sn rfl (rd_sn rfl H410))) rfl rfl ?_
  refine c_iret rfl rfl ?_
  refine s_bip (p' := 53) rfl rfl ?_
  refine s_icmp (p' := 60) true rfl (by decide +kernel) rfl ?_
  refine s_con (p' := 61) rfl rfl ?_
  refine c_call (p' := 64) (kc := 98) (ls0 := [_, _]) rfl rfl rfl rfl rfl (mj_rcv_is (rd_sn rfl (rd_sn rfl (rd_sn rfl H400)))) rfl rfl rfl ?_
  refine s_aldn (p' := 1) rfl rfl rfl ?_
  refine s_ildn (p' := 2) rfl rfl rfl ?_
  refine s_pfz (p' := 5) (fs' := [_, _, _, _, _, _, _, _, _, _, _]) rfl rfl (rd_sn rfl (rd_sn rfl (rd_sn rfl H400))) rfl rfl rfl rfl ?_
  refine s_ildn (p' := 6) rfl rfl rfl ?_
  refine s_if (p' := 13) true rfl (by decide +kernel) rfl ?_
  refine s_con (p' := 14) rfl rfl ?_
  refine c_iret rfl (by decide +kernel) ?_
  refine s_if (p' := 69) true rfl (by decide +kernel) rfl ?_
  refine s_aldn (p' := 70) rfl rfl rfl ?_
  refine s_gf (p' := 73) rfl (rd_ss rfl (rd_sn rfl (rd_sn rfl (rd_sn rfl H400)))) rfl rfl ?_
  refine s_bip (p' := 75) rfl rfl ?_
  refine s_ildn (p' := 76) rfl rfl rfl ?_
  refine s_bz (p' := 77) (z := (nI (8 * l))) rfl rfl rfl (mI_mul _ _) ?_
  refine s_ildn (p' := 78) rfl rfl rfl ?_
  refine s_bz (p' := 79) (z := (nI ((8 * l) + c))) rfl rfl rfl (mI_add _ _) ?_
  refine s_callV (p' := 82) (kc := 0) (ls0 := [_]) rfl rfl rfl rfl rfl rfl rfl (y_vo (by omega)) (by decide) rfl ?_
  refine c_call (p' := 87) (kc := 98) (ls0 := [_, _]) rfl rfl rfl rfl rfl (mj_rcv_is (rd_sn rfl (rd_sn rfl (rd_sn rfl (rd_sn rfl H410))))) rfl rfl rfl ?_
  refine s_aldn (p' := 1) rfl rfl rfl ?_
  refine s_dupr (p' := 2) rfl rfl ?_
  refine s_gf (p' := 5) rfl (rd_sn rfl (rd_sn rfl (rd_sn rfl (rd_sn rfl H410)))) rfl rfl ?_
  refine s_con (p' := 6) rfl rfl ?_
  refine s_bz (p' := 7) (z := (mc + (nI 1))) rfl rfl rfl rfl ?_
  refine s_pfz (p' := 10) (fs' := [_, _, _]) rfl rfl (rd_sn rfl (rd_sn rfl (rd_sn rfl (rd_sn rfl H410)))) rfl rfl rfl rfl ?_
  refine s_aldn (p' := 11) rfl rfl rfl ?_
  refine s_aldn (p' := 12) rfl rfl rfl ?_
  refine s_aldn (p' := 13) rfl rfl rfl ?_
  refine s_gf (p' := 16) rfl (rd_ss rfl (rd_sn rfl (rd_sn rfl (rd_sn rfl (rd_sn rfl H410))))) rfl rfl ?_
  refine s_aldn (p' := 17) rfl rfl rfl ?_
  refine s_gf (p' := 20) rfl (rd_ss rfl (rd_sn rfl (rd_sn rfl (rd_sn rfl (rd_sn rfl H410))))) rfl rfl ?_
  refine c_call (p' := 23) (kc := 97) (ls0 := [_, _, _, _]) rfl rfl rfl rfl rfl (mj_rcv_is (rd_ss rfl (rd_sn rfl (rd_sn rfl (rd_sn rfl (rd_sn rfl H410)))))) rfl rfl rfl ?_
  refine s_ildn (p' := 1) rfl rfl rfl ?_
  refine s_aldn (p' := 2) rfl rfl rfl ?_
  refine s_lenz (p' := 3) rfl (mj_rdA_is (rd_sn (beq_eq_false_iff_ne.mpr (by omega)) (rd_sn (beq_eq_false_iff_ne.mpr (by omega)) (rd_sn (beq_eq_false_iff_ne.mpr (by omega)) (rd_sn (beq_eq_false_iff_ne.mpr (by omega)) (rd_sn (beq_eq_false_iff_ne.mpr (by omega)) HE))))) (by decide)) rfl rfl ?_
  refine s_icmp (p' := 6) false rfl (by decide +kernel) rfl ?_
  refine s_aldn (p' := 7) rfl rfl rfl ?_
  refine c_call (p' := 10) (kc := 96) (ls0 := [_]) rfl rfl rfl rfl rfl (mj_rcv_is (rd_ss rfl (rd_sn rfl (rd_sn rfl (rd_sn rfl (rd_sn rfl H410)))))) rfl rfl rfl ?_
  refine s_aldn (p' := 1) rfl rfl rfl ?_
  refine s_aldn (p' := 2) rfl rfl rfl ?_
  refine s_gf (p' := 5) rfl (rd_ss rfl (rd_sn rfl (rd_sn rfl (rd_sn rfl (rd_sn rfl H410))))) rfl rfl ?_
  refine s_con (p' := 6) rfl rfl ?_
  refine s_bz (p' := 7) (z := (nI 23)) rfl rfl rfl (by decide +kernel) ?_
  refine c_call (p' := 10) (kc := 95) (ls0 := [_, _, _, _]) rfl rfl rfl rfl rfl (mj_rcv_is (rd_ss rfl (rd_sn rfl (rd_sn rfl (rd_sn rfl (rd_sn rfl H410)))))) rfl rfl rfl ?_
  refine s_aldn (p' := 1) rfl rfl rfl ?_
  refine s_gf (p' := 4) rfl (rd_ss rfl (rd_sn rfl (rd_sn rfl (rd_sn rfl (rd_sn rfl H410))))) rfl rfl ?_
  refine s_lenz (p' := 5) rfl (mj_rdA_is (rd_sn (beq_eq_false_iff_ne.mpr (by omega)) (rd_sn (beq_eq_false_iff_ne.mpr (by omega)) (rd_sn (beq_eq_false_iff_ne.mpr (by omega)) (rd_sn (beq_eq_false_iff_ne.mpr (by omega)) (rd_sn (beq_eq_false_iff_ne.mpr (by omega)) HE))))) (by decide)) rfl rfl ?_
  refine s_istn (p' := 6) (ls' := [_, _, _, _]) rfl rfl rfl rfl ?_
  refine s_ildn (p' := 7) rfl rfl rfl ?_
  refine s_if (p' := 20) true rfl (by decide +kernel) rfl ?_
  refine s_ildn (p' := 21) rfl rfl rfl ?_
  refine s_ildn (p' := 22) rfl rfl rfl ?_
  refine s_ildn (p' := 23) rfl rfl rfl ?_
  refine s_bz (p' := 24) (z := (nI 1)) rfl rfl rfl (by decide +kernel) ?_
  refine s_ildn (p' := 25) rfl rfl rfl ?_
  refine s_con (p' := 26) rfl rfl ?_
  refine s_bz (p' := 27) (z := (nI 11)) rfl rfl rfl (by decide +kernel) ?_
  refine c_call (p' := 30) (kc := 94) (ls0 := [_, _, _, _]) rfl rfl rfl rfl rfl rfl rfl rfl rfl ?_
  refine s_ildn (p' := 1) rfl rfl rfl ?_
  refine s_ildn (p' := 2) rfl rfl rfl ?_
  refine s_ildn (p' := 3) rfl rfl rfl ?_
  refine s_primV (p' := 6) (q := 4) rfl rfl rfl rfl rfl rfl (p_max (x := (nI 1)) (y := (nI 11)) (z := (nI 11)) (by decide +kernel)) rfl ?_
  refine s_bz (p' := 7) (z := (nI 33)) rfl rfl rfl (by decide +kernel) ?_
  refine s_istn (p' := 8) (ls' := [_, _, _, _]) rfl rfl rfl rfl ?_
  refine s_con (p' := 9) rfl rfl ?_
  refine s_ildn (p' := 10) rfl rfl rfl ?_
  refine s_icmp (p' := 13) false rfl (by decide +kernel) rfl ?_
  refine s_ildn (p' := 14) rfl rfl rfl ?_
  refine s_sh (p' := 16) (ls' := _) (st' := .int (nI 2147483639) :: _) (h' := _) rfl rfl rfl rfl ?_
  refine s_icmp (p' := 19) false rfl (by decide +kernel) rfl ?_
  refine s_ildn (p' := 20) rfl rfl rfl ?_
  refine c_iret rfl rfl ?_
  refine s_istn (p' := 31) (ls' := [_, _, _, _]) rfl rfl rfl rfl ?_
  refine s_aldn (p' := 32) rfl rfl rfl ?_
  refine s_aldn (p' := 33) rfl rfl rfl ?_
  refine s_gf (p' := 36) rfl (rd_ss rfl (rd_sn rfl (rd_sn rfl (rd_sn rfl (rd_sn rfl H410))))) rfl rfl ?_
  refine s_ildn (p' := 37) rfl rfl rfl ?_
  refine c_call (p' := 40) (kc := 94) (ls0 := [_, _]) rfl rfl rfl rfl rfl rfl rfl rfl rfl ?_
  refine s_aldn (p' := 1) rfl rfl rfl ?_
  refine s_ildn (p' := 2) rfl rfl rfl ?_
  refine s_aldn (p' := 3) rfl rfl rfl ?_
  refine s_primV (p' := 6) (q := 1) rfl rfl rfl rfl rfl rfl (p_cls (mj_rdA_is (rd_sn (beq_eq_false_iff_ne.mpr (by omega)) (rd_sn (beq_eq_false_iff_ne.mpr (by omega)) (rd_sn (beq_eq_false_iff_ne.mpr (by omega)) (rd_sn (beq_eq_false_iff_ne.mpr (by omega)) (rd_sn (beq_eq_false_iff_ne.mpr (by omega)) HE))))) (by decide))) rfl ?_
  refine c_call (p' := 9) (kc := 93) (ls0 := [_, _, _, _]) rfl rfl rfl rfl rfl rfl rfl rfl rfl ?_
  refine s_aldn (p' := 1) rfl rfl rfl ?_
  refine s_sh (p' := 3) (ls' := _) (st' := .ref 1000004 :: _) (h' := _) rfl rfl rfl rfl ?_
  refine s_sp (p' := 6) (ls' := _) rfl rfl rfl ?_
  refine s_ildn (p' := 7) rfl rfl rfl ?_
  refine s_anaz (p' := 10) (a := N) (n := 33) rfl (len_s (len_s (len_s (len_s (len_s HL))))) rfl rfl ?_
  refine s_goto (p' := 24) rfl rfl ?_
  refine s_astn (p' := 25) (ls' := [_, _, _, _]) rfl rfl rfl rfl ?_
  refine s_aldn (p' := 26) rfl rfl rfl ?_
  refine s_con (p' := 27) rfl rfl ?_
  refine s_aldn (p' := 28) rfl rfl rfl ?_
  refine s_con (p' := 29) rfl rfl ?_
  refine s_aldn (p' := 30) rfl rfl rfl ?_
  refine s_lenz (p' := 31) rfl (mj_rdA_is (rd_app (rd_sn (beq_eq_false_iff_ne.mpr (by omega)) (rd_sn (beq_eq_false_iff_ne.mpr (by omega)) (rd_sn (beq_eq_false_iff_ne.mpr (by omega)) (rd_sn (beq_eq_false_iff_ne.mpr (by omega)) (rd_sn (beq_eq_false_iff_ne.mpr (by omega)) HE)))))) (by decide)) rfl rfl ?_
  refine s_ildn (p' := 32) rfl rfl rfl ?_
  refine s_primV (p' := 35) (q := 5) rfl rfl rfl rfl rfl rfl (p_min (x := (nI 22)) (y := (nI 33)) (z := (nI 22)) (by decide +kernel)) rfl ?_
  refine s_primN (p' := 38) (q := 0) rfl rfl rfl rfl rfl rfl (p_cpyA (Nat.blt_eq.mpr (by omega)) (mj_rdA_is (rd_app (rd_sn (beq_eq_false_iff_ne.mpr (by omega)) (rd_sn (beq_eq_false_iff_ne.mpr (by omega)) (rd_sn (beq_eq_false_iff_ne.mpr (by omega)) (rd_sn (beq_eq_false_iff_ne.mpr (by omega)) (rd_sn (beq_eq_false_iff_ne.mpr (by omega)) HE)))))) (by decide)) (mj_rdA_is (rd_nw (Nat.blt_eq.mpr (by omega)) (len_s (len_s (len_s (len_s (len_s HL)))))) (by decide)) rfl (cpq_G hG2)) rfl ?_
  refine s_aldn (p' := 39) rfl rfl rfl ?_
  refine c_aret rfl ?_
  refine c_aret rfl ?_
  refine s_sp (p' := 41) (ls' := _) rfl rfl rfl ?_
  refine s_pfz (p' := 44) (fs' := [_, _, _]) rfl rfl (rd_sn (beq_eq_false_iff_ne.mpr (by omega)) (rd_app (rd_ss rfl (rd_sn rfl (rd_sn rfl (rd_sn rfl (rd_sn rfl H410))))))) rfl rfl rfl rfl ?_
  refine c_aret rfl ?_
  refine c_aret rfl ?_
  refine s_astn (p' := 11) (ls' := [_, _, _, _]) rfl rfl rfl rfl ?_
  refine s_aldn (p' := 12) rfl rfl rfl ?_
  refine s_ildn (p' := 13) rfl rfl rfl ?_
  refine s_aldn (p' := 14) rfl rfl rfl ?_
  refine s_aasz (p' := 15) (m := 22) rfl (Nat.blt_eq.mpr (by omega)) (rd_sn (beq_eq_false_iff_ne.mpr (by omega)) (rd_ss (Nat.blt_eq.mpr (by omega)) (rd_nw (Nat.blt_eq.mpr (by omega)) (len_s (len_s (len_s (len_s (len_s HL)))))))) rfl (by decide +kernel) rfl (k_int _ (by omega)) rfl rfl ?_
  refine s_aldn (p' := 16) rfl rfl rfl ?_
  refine s_ildn (p' := 17) rfl rfl rfl ?_
  refine s_con (p' := 18) rfl rfl ?_
  refine s_bz (p' := 19) (z := (nI 23)) rfl rfl rfl (by decide +kernel) ?_
  refine s_pfz (p' := 22) (fs' := [_, _, _]) rfl rfl (rd_sn (beq_eq_false_iff_ne.mpr (by omega)) (rd_ss rfl (rd_sn (beq_eq_false_iff_ne.mpr (by omega)) (rd_app (rd_ss rfl (rd_sn rfl (rd_sn rfl (rd_sn rfl (rd_sn rfl H410))))))))) rfl rfl rfl rfl ?_
  refine c_ret rfl ?_
  refine s_con (p' := 24) rfl rfl ?_
  refine c_iret rfl (by decide +kernel) ?_
  refine s_sp (p' := 88) (ls' := _) rfl rfl rfl ?_
  refine s_aldn (p' := 89) rfl rfl rfl ?_
  refine s_gf (p' := 92) rfl (rd_sn rfl (rd_sn (beq_eq_false_iff_ne.mpr (by omega)) (rd_sn rfl (rd_sn (beq_eq_false_iff_ne.mpr (by omega)) (rd_app (rd_sn rfl (rd_ss rfl (rd_sn rfl (rd_sn rfl (rd_sn rfl H400)))))))))) rfl rfl ?_
  refine c_call (p' := 97) (kc := 98) (ls0 := [_]) rfl rfl rfl rfl rfl (mj_rcv_is (rd_ss rfl (rd_sn (beq_eq_false_iff_ne.mpr (by omega)) (rd_ss rfl (rd_sn (beq_eq_false_iff_ne.mpr (by omega)) (rd_app (rd_ss rfl (rd_sn rfl (rd_sn rfl (rd_sn rfl (rd_sn rfl H410))))))))))) rfl rfl rfl ?_
  refine s_aldn (p' := 1) rfl rfl rfl ?_
  refine s_gf (p' := 4) rfl (rd_ss rfl (rd_sn (beq_eq_false_iff_ne.mpr (by omega)) (rd_ss rfl (rd_sn (beq_eq_false_iff_ne.mpr (by omega)) (rd_app (rd_ss rfl (rd_sn rfl (rd_sn rfl (rd_sn rfl (rd_sn rfl H410)))))))))) rfl rfl ?_
  refine c_iret rfl rfl ?_
  refine k_iret rfl rfl ?_
  refine l_ist (p' := 1854) (ls' := [_, _, _, _, _, _, _, _, _, _]) rfl rfl rfl rfl rfl ?_
  refine l_aldn (p' := 1855) rfl rfl rfl rfl ?_
  refine l_call (p' := 1858) (kc := 99) (ls0 := [_]) rfl rfl rfl rfl rfl rfl (mj_rcv_is (rd_sn rfl (rd_sn (beq_eq_false_iff_ne.mpr (by omega)) (rd_sn rfl (rd_sn (beq_eq_false_iff_ne.mpr (by omega)) (rd_app (rd_sn rfl (rd_ss rfl (rd_sn rfl (rd_sn rfl (rd_sn rfl H400))))))))))) rfl rfl rfl ?_
  refine s_aldn (p' := 1) rfl rfl rfl ?_
  refine s_gf (p' := 4) rfl (rd_sn rfl (rd_sn (beq_eq_false_iff_ne.mpr (by omega)) (rd_sn rfl (rd_sn (beq_eq_false_iff_ne.mpr (by omega)) (rd_app (rd_sn rfl (rd_ss rfl (rd_sn rfl (rd_sn rfl (rd_sn rfl H400)))))))))) rfl rfl ?_
  refine k_iret rfl rfl ?_
  refine l_ild (p' := 1860) rfl rfl rfl rfl ?_
  refine l_icmp (p' := 1865) true rfl rfl (by decide +kernel) rfl ?_
  refine l_ild (p' := 1867) rfl rfl rfl rfl ?_
  refine l_if (p' := 1870) false rfl rfl (by decide +kernel) rfl ?_
  refine l_aldn (p' := 1871) rfl rfl rfl rfl ?_
  refine l_con (p' := 1872) rfl rfl rfl ?_
  refine l_lalz (p' := 1873) (m := 0) (v := (lN 23)) rfl rfl (rd_sn rfl (rd_sn (beq_eq_false_iff_ne.mpr (by omega)) (rd_sn rfl (rd_sn (beq_eq_false_iff_ne.mpr (by omega)) (rd_app (rd_sn rfl (rd_sn rfl (rd_ss rfl (rd_sn rfl (rd_sn rfl H412)))))))))) (by decide +kernel) rfl rfl rfl ?_
  refine l_ild (p' := 1875) rfl rfl rfl rfl ?_
  refine l_bzL (p' := 1876) (z := (lN 23)) rfl rfl rfl rfl rfl (by decide +kernel) ?_
  refine l_bz (p' := 1877) (z := (nI 0)) rfl rfl rfl rfl rfl (by decide +kernel) ?_
  refine l_if (p' := 1882) true rfl rfl (by decide +kernel) rfl ?_
  refine l_goto (p' := 2541) rfl rfl rfl ?_
  refine l_incz (p' := 2544) (w := (nI (i + 4))) (ls' := [_, _, _, _, _, _, _, _, _, _]) rfl rfl rfl rfl (mI_add _ _) rfl rfl ?_
  refine l_goto (p' := 28) rfl rfl rfl ?_
  exact hn _ _ _ _ _ ⟨(rd_sn rfl (rd_sn (beq_eq_false_iff_ne.mpr (by omega)) (rd_sn rfl (rd_sn (beq_eq_false_iff_ne.mpr (by omega)) (rd_app (rd_sn rfl (rd_sn rfl (rd_sn rfl (rd_ss rfl (rd_sn rfl H393)))))))))), (rd_sn rfl (rd_sn (beq_eq_false_iff_ne.mpr (by omega)) (rd_sn rfl (rd_sn (beq_eq_false_iff_ne.mpr (by omega)) (rd_app (rd_sn rfl (rd_sn rfl (rd_sn rfl (rd_sn rfl (rd_ss rfl H394)))))))))), (rd_sn rfl (rd_sn (beq_eq_false_iff_ne.mpr (by omega)) (rd_sn rfl (rd_sn (beq_eq_false_iff_ne.mpr (by omega)) (rd_app (rd_sn rfl (rd_ss rfl (rd_sn rfl (rd_sn rfl (rd_sn rfl H400)))))))))), (rd_ss rfl (rd_sn (beq_eq_false_iff_ne.mpr (by omega)) (rd_ss rfl (rd_sn (beq_eq_false_iff_ne.mpr (by omega)) (rd_app (rd_ss rfl (rd_sn rfl (rd_sn rfl (rd_sn rfl (rd_sn rfl H410)))))))))), (rd_sn rfl (rd_sn (beq_eq_false_iff_ne.mpr (by omega)) (rd_sn rfl (rd_sn (beq_eq_false_iff_ne.mpr (by omega)) (rd_app (rd_sn rfl (rd_sn rfl (rd_ss rfl (rd_sn rfl (rd_sn rfl H412)))))))))), (rd_sn (beq_eq_false_iff_ne.mpr (by omega)) (rd_ss (Nat.blt_eq.mpr (by omega)) (rd_sn (beq_eq_false_iff_ne.mpr (by omega)) (rd_ss (Nat.blt_eq.mpr (by omega)) (rd_nw (Nat.blt_eq.mpr (by omega)) (len_s (len_s (len_s (len_s (len_s HL)))))))))), (mz_fr.s (by decide) (mz_fr.n HL (by omega) (by omega) (mz_fr.s (by decide) (mz_fr.n HL (by omega) (by omega) (mz_fr.a (mz_fr.s (by decide) (mz_fr.s (by decide) (mz_fr.s (by decide) (mz_fr.s (by decide) (mz_fr.s (by decide) (mz_fr.rf _ h))))))))))), (Nat.le_trans (Nat.le_of_eq (len_s (len_s (len_s (len_s (len_a (len_s (len_s (len_s (len_s (len_s HL))))) rfl)))))) (by omega)), (Nat.le_trans (sz_s rfl (rd_sn (beq_eq_false_iff_ne.mpr (by omega)) (rd_ss rfl (rd_sn (beq_eq_false_iff_ne.mpr (by omega)) (rd_app (rd_ss rfl (rd_sn rfl (rd_sn rfl (rd_sn rfl (rd_sn rfl H410))))))))) rfl (sz_sA (Nat.blt_eq.mpr (by omega)) (rd_sn (beq_eq_false_iff_ne.mpr (by omega)) (rd_ss (Nat.blt_eq.mpr (by omega)) (rd_nw (Nat.blt_eq.mpr (by omega)) (len_s (len_s (len_s (len_s (len_s HL)))))))) (sz_s rfl (rd_sn (beq_eq_false_iff_ne.mpr (by omega)) (rd_app (rd_ss rfl (rd_sn rfl (rd_sn rfl (rd_sn rfl (rd_sn rfl H410))))))) rfl (sz_sA (Nat.blt_eq.mpr (by omega)) (rd_nw (Nat.blt_eq.mpr (by omega)) (len_s (len_s (len_s (len_s (len_s HL)))))) (sz_aa (k := 33) (m := mj_sz h + 33) rfl (by omega) (sz_s rfl (rd_sn rfl (rd_sn rfl (rd_sn rfl (rd_sn rfl H410)))) rfl (sz_s rfl (rd_sn rfl (rd_sn rfl (rd_sn rfl H400))) rfl (sz_sA rfl (rd_sn rfl (rd_sn rfl H412)) (sz_s rfl (rd_sn rfl H393) rfl (sz_sA rfl H394 (Nat.le_refl (mj_sz h)))))))))))) (by omega))⟩
