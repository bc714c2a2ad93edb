/-! Rounds on any state: gates added and dropped. -/
theorem y_vo {h : mj_H} {g : Nat} (hg : g < 24) : mj_run 0 417 (0, [some (.int (nI g))], [], h) (.inl (some (.ref (1000138 + g))), h) := by
  refine s_ildn (p' := 1) rfl rfl rfl ?_
  refine s_bip (p' := 3) rfl rfl ?_
  refine s_icmp (p' := 6) false rfl ((cg_lt (w := -128) (by decide +kernel)).trans (decide_eq_false (by rw [mI_ti (by omega)]; omega))) rfl ?_
  refine s_ildn (p' := 7) rfl rfl rfl ?_
  refine s_sh (p' := 10) (ls' := _) (st' := .int (nI 127) :: _) (h' := _) rfl rfl rfl rfl ?_
  refine s_icmp (p' := 13) false rfl ((ci_gt (by omega) (by omega)).trans (decide_eq_false (by omega))) rfl ?_
  refine s_sh (p' := 16) (ls' := _) (st' := .ref 1000001 :: _) (h' := _) rfl rfl rfl rfl ?_
  refine s_ildn (p' := 17) rfl rfl rfl ?_
  refine s_sip (p' := 20) rfl rfl ?_
  refine s_sp (p' := 21) (ls' := _) rfl rfl rfl ?_
  rw [mI_add]
  refine s_aal (p' := 22) rfl (mj_rdA_cst (k_1 _) (by decide)) (by decide) (inb_nI (by omega) (by omega)) rfl ?_
  rw [mI_cl (by omega), show va_rf (some (mj_CB + 10 + (g + 128))) = .ref (1000138 + g) from by rw [show mj_CB + 10 + (g + 128) = 1000138 + g from by have : mj_CB = 1000000 := rfl; omega]; rfl]
  exact s_aret rfl rfl
theorem w_30_z {L i N : Nat} {xs : Nat → Int32} {h : mj_H} {l6 l7 l8 l9 : Option Value} {P : mj_H → Prop} (hL : L ≤ 2048) (hi : i + 4 ≤ L) (hN : N + 2000 < mj_CB) (hN0 : 414 ≤ N) (HL : h.length = N) (hk : xs i &&& nI 63 = nI 30) {gs pl ty wa nw nx dp ca mf : Value} {th : Int32} {sd be : Int64} {ou : Nat → Int64} {vf wf sf uf im jm : Nat → Int32} {k g : Nat} (hk20 : k ≤ 20) (hvw : ∀ j, j < 8 → wf j = vf j) (hsu : ∀ j, j < k → uf j = sf j) (him : ∀ j, j < 8 → jm j = im j) {pe pm ge gm : Value} {q : Nat} (hq6 : q ≤ 6) (hg24 : g ≤ 24) {rf : Nat → Int32} {E cap : Nat} {mc : Int32} {ef : Nat → Option Nat} {G : Nat → Nat} (hG1 : ∀ j, j < g → rf j = nI (G j) ∧ G j < 24) (hE0 : 414 ≤ E) (hEA : mj_rdA h E = some (6, (cap, .inr (.inr (.inr (.inr ef)))))) (hG2 : ∀ j, j < g → ef j = some (1000138 + G j) ∧ G j < 24) (hgc : g ≤ cap) (hc31 : cap < 1000)   (H0 : mj_rd h 0 = some (.inr (0, [.ref 1, .ref 38, .ref 299, .ref 336, .ref 373, .ref 375, .ref 378, .ref 381, .ref 387, .ref 393, gs, pl, .ref 397, .ref 398, .ref 399, .long sd, .long be]))) (H393 : mj_rd h 393 = some (.inr (9, [.ref 394, .ref 395, .ref 396, .int (nI 0), mf]))) (H400 : mj_rd h 400 = some (.inr (17, [.int th, .ref 401, .ref 402, ty, .long sd, .long be, .ref 410, wa, nw, nx, .ref 411]))) (H410 : mj_rd h 410 = some (.inr (18, [.ref E, .int (nI 0), .int mc]))) (hn : ∀ (l6 l7 l8 l9 : Option Value) (h' : mj_H), mj_rd h' 400 = some (.inr (17, [.int (nI 1), .ref 401, .ref 402, ty, .long sd, .long be, .ref 410, wa, nw, nx, .ref 411])) ∧ mz_fr [400] h h' ∧ h'.length ≤ N + 1 ∧ mj_sz h' ≤ mj_sz h + 6 → mj_lrun L xs (28, [some (.retAddr 1), some (.ref 0), some (.ref 400), some (.ref 412), some (.ref 413), some (.int (nI (i + 4))), l6, l7, l8, l9], [], h') P) : mj_lrun L xs (28, [some (.retAddr 1), some (.ref 0), some (.ref 400), some (.ref 412), some (.ref 413), some (.int (nI i)), l6, l7, l8, l9], [], h) P := by
  refine l_ild (p' := 30) rfl rfl rfl rfl ?_
  refine l_alds (p' := 31) rfl rfl rfl rfl ?_
  refine l_lens (p' := 32) rfl rfl rfl ?_
  refine l_con (p' := 33) rfl rfl rfl ?_
  refine l_bz (p' := 34) (z := (nI (L - 4))) rfl rfl rfl rfl rfl (mI_sub (by omega)) ?_
  refine l_icmp (p' := 37) false rfl rfl ((ci_gt (by omega) (by omega)).trans (decide_eq_false (by omega))) rfl ?_
  refine l_alds (p' := 38) rfl rfl rfl rfl ?_
  refine l_ild (p' := 40) rfl rfl rfl rfl ?_
  refine l_ialz (p' := 41) (m := i) (z := (xs i)) rfl rfl (inb_nI (by omega) (by omega)) (mI_cl (by omega)) rfl rfl ?_
  refine l_bip (p' := 43) rfl rfl rfl ?_
  refine l_bz (p' := 44) (z := (nI 30)) rfl rfl rfl rfl rfl hk ?_
  refine l_sp (p' := 1885) (ls' := _) rfl rfl rfl rfl rfl ?_
  refine l_aldn (p' := 1886) rfl rfl rfl rfl ?_
  refine l_aldn (p' := 1887) rfl rfl rfl rfl ?_
  refine l_call (p' := 1890) (kc := 99) (ls0 := [_, _, _]) rfl rfl rfl rfl rfl rfl rfl rfl rfl rfl ?_
  refine s_aldn (p' := 1) rfl rfl rfl ?_
  refine s_con (p' := 2) rfl rfl ?_
  refine s_aldn (p' := 3) rfl rfl rfl ?_
  refine c_call (p' := 6) (kc := 98) (ls0 := [_]) rfl rfl rfl rfl rfl (mj_rcv_is H0) rfl rfl rfl ?_
  refine s_aldn (p' := 1) rfl rfl rfl ?_
  refine s_gf (p' := 4) rfl H0 rfl rfl ?_
  refine c_call (p' := 7) (kc := 97) (ls0 := [_]) rfl rfl rfl rfl rfl (mj_rcv_is H393) rfl rfl rfl ?_
  refine s_aldn (p' := 1) rfl rfl rfl ?_
  refine s_gf (p' := 4) rfl H393 rfl rfl ?_
  refine c_iret rfl rfl ?_
  refine s_if (p' := 10) false rfl (by decide +kernel) rfl ?_
  refine s_thrz (q := N) rfl HL rfl ?_
  refine K_c (hp := 11) (Nat.blt_eq.mpr (by omega)) (mj_ocl_is (rd_nw (Nat.blt_eq.mpr (by omega)) HL)) rfl ?_
  refine s_astn (p' := 12) (ls' := [_, _, _]) rfl rfl rfl rfl ?_
  refine s_con (p' := 13) rfl rfl ?_
  refine k_iret rfl rfl ?_
  refine l_ist (p' := 1892) (ls' := [_, _, _, _, _, _, _, _, _, _]) rfl rfl rfl rfl rfl ?_
  refine l_aldn (p' := 1893) rfl rfl rfl rfl ?_
  refine l_call (p' := 1896) (kc := 99) (ls0 := [_]) rfl rfl rfl rfl rfl rfl (mj_rcv_is (rd_app H400)) rfl rfl rfl ?_
  refine s_aldn (p' := 1) rfl rfl rfl ?_
  refine s_aldn (p' := 2) rfl rfl rfl ?_
  refine s_gf (p' := 5) rfl (rd_app H400) rfl rfl ?_
  refine c_call (p' := 10) (kc := 98) (ls0 := [_]) rfl rfl rfl rfl rfl (mj_rcv_is (rd_app H410)) rfl rfl rfl ?_
  refine s_aldn (p' := 1) rfl rfl rfl ?_
  refine s_gf (p' := 4) rfl (rd_app H410) rfl rfl ?_
  refine s_if (p' := 7) false rfl (by decide +kernel) rfl ?_
  refine s_con (p' := 8) rfl rfl ?_
  refine s_goto (p' := 12) rfl rfl ?_
  refine c_iret rfl (by decide +kernel) ?_
  refine s_if (p' := 13) false rfl (by decide +kernel) rfl ?_
  refine s_con (p' := 14) rfl rfl ?_
  refine s_goto (p' := 18) rfl rfl ?_
  refine c_call (p' := 21) (kc := 98) (ls0 := [_, _]) rfl rfl rfl rfl rfl (mj_rcv_is (rd_app H400)) rfl rfl rfl ?_
  refine s_aldn (p' := 1) rfl rfl rfl ?_
  refine s_ildn (p' := 2) rfl rfl rfl ?_
  refine s_pfz (p' := 5) (fs' := [_, _, _, _, _, _, _, _, _, _, _]) rfl rfl (rd_app H400) rfl rfl rfl rfl ?_
  refine s_ildn (p' := 6) rfl rfl rfl ?_
  refine s_if (p' := 9) false rfl (by decide +kernel) rfl ?_
  refine s_con (p' := 10) rfl rfl ?_
  refine s_goto (p' := 14) rfl rfl ?_
  refine c_iret rfl (by decide +kernel) ?_
  refine s_if (p' := 24) false rfl (by decide +kernel) rfl ?_
  refine s_con (p' := 25) rfl rfl ?_
  refine s_goto (p' := 54) rfl rfl ?_
  refine k_iret rfl rfl ?_
  refine l_ist (p' := 1898) (ls' := [_, _, _, _, _, _, _, _, _, _]) rfl rfl rfl rfl rfl ?_
  refine l_aldn (p' := 1899) rfl rfl rfl rfl ?_
  refine l_call (p' := 1902) (kc := 99) (ls0 := [_]) rfl rfl rfl rfl rfl rfl (mj_rcv_is (rd_ss rfl (rd_app H400))) rfl rfl rfl ?_
  refine s_aldn (p' := 1) rfl rfl rfl ?_
  refine s_gf (p' := 4) rfl (rd_ss rfl (rd_app H400)) rfl rfl ?_
  refine k_iret rfl rfl ?_
  refine l_ild (p' := 1904) rfl rfl rfl rfl ?_
  refine l_icmp (p' := 1909) true rfl rfl (by decide +kernel) rfl ?_
  refine l_ild (p' := 1911) rfl rfl rfl rfl ?_
  refine l_if (p' := 1926) true rfl rfl (by decide +kernel) rfl ?_
  refine l_goto (p' := 2541) rfl rfl rfl ?_
  refine l_incz (p' := 2544) (w := (nI (i + 4))) (ls' := [_, _, _, _, _, _, _, _, _, _]) rfl rfl rfl rfl (mI_add _ _) rfl rfl ?_
  refine l_goto (p' := 28) rfl rfl rfl ?_
  exact hn _ _ _ _ _ ⟨(rd_ss rfl (rd_app H400)), (mz_fr.s (by decide) (mz_fr.a (mz_fr.rf _ h))), (Nat.le_trans (Nat.le_of_eq (len_s (len_a HL rfl))) (by omega)), (Nat.le_trans (sz_s rfl (rd_app H400) rfl (sz_aa (k := 6) (m := mj_sz h + 6) rfl (by omega) (Nat.le_refl (mj_sz h)))) (by omega))⟩
theorem w_30 {L i N : Nat} {xs : Nat → Int32} {h : mj_H} {l6 l7 l8 l9 : Option Value} {P : mj_H → Prop} (hL : L ≤ 2048) (hi : i + 4 ≤ L) (hN : N + 2000 < mj_CB) (hN0 : 414 ≤ N) (HL : h.length = N) (hk : xs i &&& nI 63 = nI 30) {gs pl ty wa nw nx dp ca mf : Value} {th : Int32} {sd be : Int64} {ou : Nat → Int64} {vf wf sf uf im jm : Nat → Int32} {k g : Nat} (hk20 : k ≤ 20) (hvw : ∀ j, j < 8 → wf j = vf j) (hsu : ∀ j, j < k → uf j = sf j) (him : ∀ j, j < 8 → jm j = im j) {pe pm ge gm : Value} {q : Nat} (hq6 : q ≤ 6) (hg24 : g ≤ 24) {rf : Nat → Int32} {E cap : Nat} {mc : Int32} {ef : Nat → Option Nat} {G : Nat → Nat} (hG1 : ∀ j, j < g → rf j = nI (G j) ∧ G j < 24) (hE0 : 414 ≤ E ∧ E < N) (hG2 : ∀ j, j < g → ef j = some (1000138 + G j) ∧ G j < 24) (hgc : g ≤ cap) (hc31 : cap < 1000) (hg1 : 1 ≤ g)  (H0 : mj_rd h 0 = some (.inr (0, [.ref 1, .ref 38, .ref 299, .ref 336, .ref 373, .ref 375, .ref 378, .ref 381, .ref 387, .ref 393, gs, pl, .ref 397, .ref 398, .ref 399, .long sd, .long be]))) (H393 : mj_rd h 393 = some (.inr (9, [.ref 394, .ref 395, .ref 396, .int (nI g), mf]))) (H394 : mj_rd h 394 = some (.inl (0, (24, .inl (rf))))) (H400 : mj_rd h 400 = some (.inr (17, [.int th, .ref 401, .ref 402, ty, .long sd, .long be, .ref 410, wa, nw, nx, .ref 411]))) (H410 : mj_rd h 410 = some (.inr (18, [.ref E, .int (nI g), .int mc]))) (H412 : mj_rd h 412 = some (.inl (4, (1, .inr (.inl (ou)))))) (HE : mj_rd h E = some (.inl (6, (cap, .inr (.inr (.inr (.inr (ef)))))))) (hn : ∀ (l6 l7 l8 l9 : Option Value) (h' : mj_H), mj_rd h' 393 = some (.inr (9, [.ref 394, .ref 395, .ref 396, .int (nI (g - 1)), mf])) ∧ mj_rd h' 400 = some (.inr (17, [.int (nI 0), .ref 401, .ref 402, ty, .long sd, .long be, .ref 410, wa, nw, nx, .ref 411])) ∧ mj_rd h' 410 = some (.inr (18, [.ref E, .int (nI (g - 1)), .int (mc + (nI 1))])) ∧ mj_rd h' 412 = some (.inl (4, (1, .inr (.inl ((vp_updL ou 0 (Int32.toInt64 (nI (G (g - 1)))))))))) ∧ mj_rd h' E = some (.inl (6, (cap, .inr (.inr (.inr (.inr ((va_up ef (g - 1) none)))))))) ∧ mz_fr [393, 400, 410, 412, E] h h' ∧ h'.length ≤ N + 0 ∧ mj_sz h' ≤ mj_sz h + 0 → mj_lrun L xs (28, [some (.retAddr 1), some (.ref 0), some (.ref 400), some (.ref 412), some (.ref 413), some (.int (nI (i + 4))), l6, l7, l8, l9], [], h') P) : mj_lrun L xs (28, [some (.retAddr 1), some (.ref 0), some (.ref 400), some (.ref 412), some (.ref 413), some (.int (nI i)), l6, l7, l8, l9], [], h) P := by
  refine l_ild (p' := 30) rfl rfl rfl rfl ?_
  refine l_alds (p' := 31) rfl rfl rfl rfl ?_
  refine l_lens (p' := 32) rfl rfl rfl ?_
  refine l_con (p' := 33) rfl rfl rfl ?_
  refine l_bz (p' := 34) (z := (nI (L - 4))) rfl rfl rfl rfl rfl (mI_sub (by omega)) ?_
  refine l_icmp (p' := 37) false rfl rfl ((ci_gt (by omega) (by omega)).trans (decide_eq_false (by omega))) rfl ?_
  refine l_alds (p' := 38) rfl rfl rfl rfl ?_
  refine l_ild (p' := 40) rfl rfl rfl rfl ?_
  refine l_ialz (p' := 41) (m := i) (z := (xs i)) rfl rfl (inb_nI (by omega) (by omega)) (mI_cl (by omega)) rfl rfl ?_
  refine l_bip (p' := 43) rfl rfl rfl ?_
  refine l_bz (p' := 44) (z := (nI 30)) rfl rfl rfl rfl rfl hk ?_
  refine l_sp (p' := 1885) (ls' := _) rfl rfl rfl rfl rfl ?_
  refine l_aldn (p' := 1886) rfl rfl rfl rfl ?_
  refine l_aldn (p' := 1887) rfl rfl rfl rfl ?_
  refine l_call (p' := 1890) (kc := 99) (ls0 := [_, _, _]) rfl rfl rfl rfl rfl rfl rfl rfl rfl rfl ?_
  refine s_aldn (p' := 1) rfl rfl rfl ?_
  refine s_con (p' := 2) rfl rfl ?_
  refine s_aldn (p' := 3) rfl rfl rfl ?_
  refine c_call (p' := 6) (kc := 98) (ls0 := [_]) rfl rfl rfl rfl rfl (mj_rcv_is H0) rfl rfl rfl ?_
  refine s_aldn (p' := 1) rfl rfl rfl ?_
  refine s_gf (p' := 4) rfl H0 rfl rfl ?_
  refine c_call (p' := 7) (kc := 97) (ls0 := [_]) rfl rfl rfl rfl rfl (mj_rcv_is H393) rfl rfl rfl ?_
  refine s_aldn (p' := 1) rfl rfl rfl ?_
  refine s_gf (p' := 4) rfl H393 rfl rfl ?_
  refine c_iret rfl rfl ?_
  refine s_if (p' := 21) true rfl ((cg_ne (w := 0) (by decide +kernel)).trans (decide_eq_true (by rw [mI_ti (by omega)]; omega))) rfl ?_
  refine s_aldn (p' := 22) rfl rfl rfl ?_
  refine s_gf (p' := 25) rfl H0 rfl rfl ?_
  refine c_call (p' := 28) (kc := 97) (ls0 := [_]) rfl rfl rfl rfl rfl (mj_rcv_is H393) rfl rfl rfl ?_
  refine s_aldn (p' := 1) rfl rfl rfl ?_
  refine s_gf (p' := 4) rfl H393 rfl rfl ?_
  refine s_con (p' := 5) rfl rfl ?_
  refine s_icmp (p' := 8) false rfl ((cg_lt (w := 1) (by decide +kernel)).trans (decide_eq_false (by rw [mI_ti (by omega)]; omega))) rfl ?_
  refine s_aldn (p' := 9) rfl rfl rfl ?_
  refine s_gf (p' := 12) rfl H393 rfl rfl ?_
  refine s_aldn (p' := 13) rfl rfl rfl ?_
  refine s_gf (p' := 16) rfl H393 rfl rfl ?_
  refine s_lenz (p' := 17) rfl (mj_rdA_is H394 (by decide)) rfl rfl ?_
  refine s_icmp (p' := 22) true rfl ((cg_le (w := 24) (by decide +kernel)).trans (decide_eq_true (by rw [mI_ti (by omega)]; omega))) rfl ?_
  refine s_aldn (p' := 23) rfl rfl rfl ?_
  refine s_dupr (p' := 24) rfl rfl ?_
  refine s_gf (p' := 27) rfl H393 rfl rfl ?_
  refine s_con (p' := 28) rfl rfl ?_
  refine s_bz (p' := 29) (z := (nI (g - 1))) rfl rfl rfl (mI_sub (by omega)) ?_
  refine s_pfz (p' := 32) (fs' := [_, _, _, _, _]) rfl rfl H393 rfl rfl rfl rfl ?_
  refine s_aldn (p' := 33) rfl rfl rfl ?_
  refine s_gf (p' := 36) rfl (rd_ss rfl H393) rfl rfl ?_
  refine s_aldn (p' := 37) rfl rfl rfl ?_
  refine s_gf (p' := 40) rfl (rd_ss rfl H393) rfl rfl ?_
  refine s_ialz (p' := 41) (m := (g - 1)) (v := (nI (G (g - 1)))) rfl (rd_sn rfl H394) (inb_nI (by omega) (by omega)) (mI_cl (by omega)) (hG1 (g - 1) (by omega)).1 rfl ?_
  refine c_iret rfl rfl ?_
  refine c_iret rfl rfl ?_
  refine s_bzL (p' := 7) (z := (Int32.toInt64 (nI (G (g - 1))))) rfl rfl rfl rfl ?_
  refine s_lasz (p' := 8) (m := 0) rfl rfl (rd_sn rfl H412) (by decide +kernel) rfl rfl rfl ?_
  refine s_goto (p' := 14) rfl rfl ?_
  refine s_con (p' := 15) rfl rfl ?_
  refine k_iret rfl rfl ?_
  refine l_ist (p' := 1892) (ls' := [_, _, _, _, _, _, _, _, _, _]) rfl rfl rfl rfl rfl ?_
  refine l_aldn (p' := 1893) rfl rfl rfl rfl ?_
  refine l_call (p' := 1896) (kc := 99) (ls0 := [_]) rfl rfl rfl rfl rfl rfl (mj_rcv_is (rd_sn rfl (rd_sn rfl H400))) rfl rfl rfl ?_
  refine s_aldn (p' := 1) rfl rfl rfl ?_
  refine s_aldn (p' := 2) rfl rfl rfl ?_
  refine s_gf (p' := 5) rfl (rd_sn rfl (rd_sn rfl H400)) rfl rfl ?_
  refine c_call (p' := 10) (kc := 98) (ls0 := [_]) rfl rfl rfl rfl rfl (mj_rcv_is (rd_sn rfl (rd_sn rfl H410))) rfl rfl rfl ?_
  refine s_aldn (p' := 1) rfl rfl rfl ?_
  refine s_gf (p' := 4) rfl (rd_sn rfl (rd_sn rfl H410)) rfl rfl ?_
  refine s_if (p' := 11) true rfl ((cg_ne (w := 0) (by decide +kernel)).trans (decide_eq_true (by rw [mI_ti (by omega)]; omega))) rfl ?_
  refine s_con (p' := 12) rfl rfl ?_
  refine c_iret rfl (by decide +kernel) ?_
  refine s_if (p' := 17) true rfl (by decide +kernel) rfl ?_
  refine s_con (p' := 18) rfl rfl ?_
  refine c_call (p' := 21) (kc := 98) (ls0 := [_, _]) rfl rfl rfl rfl rfl (mj_rcv_is (rd_sn rfl (rd_sn rfl H400))) rfl rfl rfl ?_
  refine s_aldn (p' := 1) rfl rfl rfl ?_
  refine s_ildn (p' := 2) rfl rfl rfl ?_
  refine s_pfz (p' := 5) (fs' := [_, _, _, _, _, _, _, _, _, _, _]) rfl rfl (rd_sn rfl (rd_sn rfl H400)) rfl rfl rfl rfl ?_
  refine s_ildn (p' := 6) rfl rfl rfl ?_
  refine s_if (p' := 13) true rfl (by decide +kernel) rfl ?_
  refine s_con (p' := 14) rfl rfl ?_
  refine c_iret rfl (by decide +kernel) ?_
  refine s_if (p' := 28) true rfl (by decide +kernel) rfl ?_
  refine s_aldn (p' := 29) rfl rfl rfl ?_
  refine s_gf (p' := 32) rfl (rd_ss rfl (rd_sn rfl (rd_sn rfl H400))) rfl rfl ?_
  refine s_aldn (p' := 33) rfl rfl rfl ?_
  refine s_gf (p' := 36) rfl (rd_ss rfl (rd_sn rfl (rd_sn rfl H400))) rfl rfl ?_
  refine c_call (p' := 41) (kc := 98) (ls0 := [_]) rfl rfl rfl rfl rfl (mj_rcv_is (rd_sn rfl (rd_sn rfl (rd_sn rfl H410)))) rfl rfl rfl ?_
  refine s_aldn (p' := 1) rfl rfl rfl ?_
  refine s_gf (p' := 4) rfl (rd_sn rfl (rd_sn rfl (rd_sn rfl H410))) rfl rfl ?_
  refine c_iret rfl rfl ?_
  refine s_con (p' := 42) rfl rfl ?_
  refine s_bz (p' := 43) (z := (nI (g - 1))) rfl rfl rfl (mI_sub (by omega)) ?_
  refine c_call (p' := 48) (kc := 98) (ls0 := [_, _, _, _]) rfl rfl rfl rfl rfl (mj_rcv_is (rd_sn rfl (rd_sn rfl (rd_sn rfl H410)))) rfl rfl rfl ?_
  refine s_ildn (p' := 1) rfl rfl rfl ?_
  refine s_aldn (p' := 2) rfl rfl rfl ?_
  refine s_gf (p' := 5) rfl (rd_sn rfl (rd_sn rfl (rd_sn rfl H410))) rfl rfl ?_
  refine c_call (p' := 8) (kc := 97) (ls0 := [_, _]) rfl rfl rfl rfl rfl rfl rfl rfl rfl ?_
  refine s_ildn (p' := 1) rfl rfl rfl ?_
  refine s_ildn (p' := 2) rfl rfl rfl ?_
  refine s_sp (p' := 3) (ls' := _) rfl rfl rfl ?_
  refine c_call (p' := 6) (kc := 96) (ls0 := [_, _, _]) rfl rfl rfl rfl rfl rfl rfl rfl rfl ?_
  refine s_ildn (p' := 1) rfl rfl rfl ?_
  refine s_if (p' := 4) false rfl ((cg_lt (w := 0) (by decide +kernel)).trans (decide_eq_false (by rw [mI_ti (by omega)]; omega))) rfl ?_
  refine s_ildn (p' := 5) rfl rfl rfl ?_
  refine s_ildn (p' := 6) rfl rfl rfl ?_
  refine s_icmp (p' := 16) true rfl ((ci_lt (by omega) (by omega)).trans (decide_eq_true (by omega))) rfl ?_
  refine s_ildn (p' := 17) rfl rfl rfl ?_
  refine c_iret rfl rfl ?_
  refine c_iret rfl rfl ?_
  refine s_sp (p' := 9) (ls' := _) rfl rfl rfl ?_
  refine s_aldn (p' := 10) rfl rfl rfl ?_
  refine s_gf (p' := 13) rfl (rd_sn rfl (rd_sn rfl (rd_sn rfl H410))) rfl rfl ?_
  refine s_astn (p' := 14) (ls' := [_, _, _, _]) rfl rfl rfl rfl ?_
  refine s_aldn (p' := 15) rfl rfl rfl ?_
  refine s_ildn (p' := 16) rfl rfl rfl ?_
  refine s_aalz (p' := 17) (m := (g - 1)) (q := (some (1000138 + (G (g - 1))))) (v := .ref (1000138 + (G (g - 1)))) rfl (mj_rdA_is (rd_sn (beq_eq_false_iff_ne.mpr (by omega)) (rd_sn (beq_eq_false_iff_ne.mpr (by omega)) (rd_sn (beq_eq_false_iff_ne.mpr (by omega)) HE))) (by decide)) rfl (inb_nI (by omega) (by omega)) (mI_cl (by omega)) (hG2 (g - 1) (by omega)).1 rfl rfl ?_
  refine s_astn (p' := 18) (ls' := [_, _, _, _]) rfl rfl rfl rfl ?_
  refine s_aldn (p' := 19) rfl rfl rfl ?_
  refine s_aldn (p' := 20) rfl rfl rfl ?_
  refine s_ildn (p' := 21) rfl rfl rfl ?_
  refine c_call (p' := 24) (kc := 97) (ls0 := [_, _, _, _]) rfl rfl rfl rfl rfl (mj_rcv_is (rd_sn rfl (rd_sn rfl (rd_sn rfl H410)))) rfl rfl rfl ?_
  refine s_aldn (p' := 1) rfl rfl rfl ?_
  refine s_dupr (p' := 2) rfl rfl ?_
  refine s_gf (p' := 5) rfl (rd_sn rfl (rd_sn rfl (rd_sn rfl H410))) rfl rfl ?_
  refine s_con (p' := 6) rfl rfl ?_
  refine s_bz (p' := 7) (z := (mc + (nI 1))) rfl rfl rfl rfl ?_
  refine s_pfz (p' := 10) (fs' := [_, _, _]) rfl rfl (rd_sn rfl (rd_sn rfl (rd_sn rfl H410))) rfl rfl rfl rfl ?_
  refine s_aldn (p' := 11) rfl rfl rfl ?_
  refine s_gf (p' := 14) rfl (rd_ss rfl (rd_sn rfl (rd_sn rfl (rd_sn rfl H410)))) rfl rfl ?_
  refine s_con (p' := 15) rfl rfl ?_
  refine s_bz (p' := 16) (z := (nI (g - 1))) rfl rfl rfl (mI_sub (by omega)) ?_
  refine s_sp (p' := 17) (ls' := _) rfl rfl rfl ?_
  refine s_istn (p' := 18) (ls' := [_, _, _, _]) rfl rfl rfl rfl ?_
  refine s_ildn (p' := 19) rfl rfl rfl ?_
  refine s_icmp (p' := 34) true rfl ((ci_le (by omega) (by omega)).trans (decide_eq_true (by omega))) rfl ?_
  refine s_aldn (p' := 35) rfl rfl rfl ?_
  refine s_aldn (p' := 36) rfl rfl rfl ?_
  refine s_ildn (p' := 37) rfl rfl rfl ?_
  refine s_sp (p' := 38) (ls' := _) rfl rfl rfl ?_
  refine s_pfz (p' := 41) (fs' := [_, _, _]) rfl rfl (rd_ss rfl (rd_sn rfl (rd_sn rfl (rd_sn rfl H410)))) rfl rfl rfl rfl ?_
  refine s_sp (p' := 42) (ls' := _) rfl rfl rfl ?_
  refine s_aasNz (p' := 43) (m := (g - 1)) rfl (Nat.blt_eq.mpr (by omega)) (rd_sn (beq_eq_false_iff_ne.mpr (by omega)) (rd_sn (beq_eq_false_iff_ne.mpr (by omega)) (rd_sn (beq_eq_false_iff_ne.mpr (by omega)) (rd_sn (beq_eq_false_iff_ne.mpr (by omega)) (rd_sn (beq_eq_false_iff_ne.mpr (by omega)) HE))))) rfl (inb_nI (by omega) (by omega)) (mI_cl (by omega)) rfl rfl ?_
  refine c_ret rfl ?_
  refine s_aldn (p' := 25) rfl rfl rfl ?_
  refine c_aret rfl ?_
  refine s_cco (p' := 51) rfl (k_int _ (hG2 (g - 1) (by omega)).2) rfl ?_
  refine c_call (p' := 54) (kc := 98) (ls0 := [_]) rfl rfl rfl rfl rfl (mj_rcv_is (k_int _ (hG2 (g - 1) (by omega)).2)) rfl rfl rfl ?_
  refine s_aldn (p' := 1) rfl rfl rfl ?_
  refine s_gf (p' := 4) rfl (k_int _ (hG2 (g - 1) (by omega)).2) rfl rfl ?_
  refine c_iret rfl rfl ?_
  refine k_iret rfl rfl ?_
  refine l_ist (p' := 1898) (ls' := [_, _, _, _, _, _, _, _, _, _]) rfl rfl rfl rfl rfl ?_
  refine l_aldn (p' := 1899) rfl rfl rfl rfl ?_
  refine l_call (p' := 1902) (kc := 99) (ls0 := [_]) rfl rfl rfl rfl rfl rfl (mj_rcv_is (rd_sn (beq_eq_false_iff_ne.mpr (by omega)) (rd_sn rfl (rd_sn rfl (rd_ss rfl (rd_sn rfl (rd_sn rfl H400))))))) rfl rfl rfl ?_
  refine s_aldn (p' := 1) rfl rfl rfl ?_
  refine s_gf (p' := 4) rfl (rd_sn (beq_eq_false_iff_ne.mpr (by omega)) (rd_sn rfl (rd_sn rfl (rd_ss rfl (rd_sn rfl (rd_sn rfl H400)))))) rfl rfl ?_
  refine k_iret rfl rfl ?_
  refine l_ild (p' := 1904) rfl rfl rfl rfl ?_
  refine l_icmp (p' := 1909) true rfl rfl (by decide +kernel) rfl ?_
  refine l_ild (p' := 1911) rfl rfl rfl rfl ?_
  refine l_if (p' := 1914) false rfl rfl (by decide +kernel) rfl ?_
  refine l_aldn (p' := 1915) rfl rfl rfl rfl ?_
  refine l_con (p' := 1916) rfl rfl rfl ?_
  refine l_lalz (p' := 1917) (m := 0) (v := (Int32.toInt64 (nI (G (g - 1))))) rfl rfl (rd_sn (beq_eq_false_iff_ne.mpr (by omega)) (rd_sn rfl (rd_sn rfl (rd_sn rfl (rd_ss rfl (rd_sn rfl H412)))))) (by decide +kernel) rfl rfl rfl ?_
  refine l_ild (p' := 1919) rfl rfl rfl rfl ?_
  refine l_bzL (p' := 1920) (z := (Int32.toInt64 (nI (G (g - 1))))) rfl rfl rfl rfl rfl rfl ?_
  refine l_bz (p' := 1921) (z := nI 0) rfl rfl rfl rfl rfl (lcmp_self _) ?_
  refine l_if (p' := 1926) true rfl rfl (by decide +kernel) rfl ?_
  refine l_goto (p' := 2541) rfl rfl rfl ?_
  refine l_incz (p' := 2544) (w := (nI (i + 4))) (ls' := [_, _, _, _, _, _, _, _, _, _]) rfl rfl rfl rfl (mI_add _ _) rfl rfl ?_
  refine l_goto (p' := 28) rfl rfl rfl ?_
  exact hn _ _ _ _ _ ⟨(rd_sn (beq_eq_false_iff_ne.mpr (by omega)) (rd_sn rfl (rd_sn rfl (rd_sn rfl (rd_sn rfl (rd_ss rfl H393)))))), (rd_sn (beq_eq_false_iff_ne.mpr (by omega)) (rd_sn rfl (rd_sn rfl (rd_ss rfl (rd_sn rfl (rd_sn rfl H400)))))), (rd_sn (beq_eq_false_iff_ne.mpr (by omega)) (rd_ss rfl (rd_ss rfl (rd_sn rfl (rd_sn rfl (rd_sn rfl H410)))))), (rd_sn (beq_eq_false_iff_ne.mpr (by omega)) (rd_sn rfl (rd_sn rfl (rd_sn rfl (rd_ss rfl (rd_sn rfl H412)))))), (rd_ss (Nat.blt_eq.mpr (by omega)) (rd_sn (beq_eq_false_iff_ne.mpr (by omega)) (rd_sn (beq_eq_false_iff_ne.mpr (by omega)) (rd_sn (beq_eq_false_iff_ne.mpr (by omega)) (rd_sn (beq_eq_false_iff_ne.mpr (by omega)) (rd_sn (beq_eq_false_iff_ne.mpr (by omega)) HE)))))), (mz_fr.s (by simp) (mz_fr.s (by simp) (mz_fr.s (by simp) (mz_fr.s (by simp) (mz_fr.s (by simp) (mz_fr.s (by simp) (mz_fr.rf _ h))))))), (Nat.le_trans (Nat.le_of_eq (len_s (len_s (len_s (len_s (len_s (len_s HL))))))) (by omega)), (Nat.le_trans (sz_sA (Nat.blt_eq.mpr (by omega)) (rd_sn (beq_eq_false_iff_ne.mpr (by omega)) (rd_sn (beq_eq_false_iff_ne.mpr (by omega)) (rd_sn (beq_eq_false_iff_ne.mpr (by omega)) (rd_sn (beq_eq_false_iff_ne.mpr (by omega)) (rd_sn (beq_eq_false_iff_ne.mpr (by omega)) HE))))) (sz_s rfl (rd_ss rfl (rd_sn rfl (rd_sn rfl (rd_sn rfl H410)))) rfl (sz_s rfl (rd_sn rfl (rd_sn rfl (rd_sn rfl H410))) rfl (sz_s rfl (rd_sn rfl (rd_sn rfl H400)) rfl (sz_sA rfl (rd_sn rfl H412) (sz_s rfl H393 rfl (Nat.le_refl (mj_sz h)))))))) (by omega))⟩
theorem w_29A {L i N : Nat} {xs : Nat → Int32} {h : mj_H} {l6 l7 l8 l9 : Option Value} {P : mj_H → Prop} (hL : L ≤ 2048) (hi : i + 4 ≤ L) (hN : N + 2000 < mj_CB) (hN0 : 414 ≤ N) (HL : h.length = N) (hk : xs i &&& nI 63 = nI 29) {gs pl ty wa nw nx dp ca mf : Value} {th : Int32} {sd be : Int64} {ou : Nat → Int64} {vf wf sf uf im jm : Nat → Int32} {k g : Nat} (hk20 : k ≤ 20) (hvw : ∀ j, j < 8 → wf j = vf j) (hsu : ∀ j, j < k → uf j = sf j) (him : ∀ j, j < 8 → jm j = im j) {pe pm ge gm : Value} {q : Nat} (hq6 : q ≤ 6) (hg24 : g ≤ 24) {rf : Nat → Int32} {E cap : Nat} {mc : Int32} {ef : Nat → Option Nat} {G : Nat → Nat} (hG1 : ∀ j, j < g → rf j = nI (G j) ∧ G j < 24) (hE0 : 414 ≤ E ∧ E < N) (hG2 : ∀ j, j < g → ef j = some (1000138 + G j) ∧ G j < 24) (hgc : g ≤ cap) (hc31 : cap < 1000) {l c : Nat} (hl : l < 3) (hc : c < 8) (hcl : nI c &&& (nI 1 <<< (nI l &&& 31)) = nI 0) (hcr : (nI c >>> (nI l &&& 31)) &&& nI 1 = nI 0) (hg2 : g < 24) (hgl : g < cap) (hx1 : xs (i + 1) = nI l) (hx2 : xs (i + 2) = nI c) (H0 : mj_rd h 0 = some (.inr (0, [.ref 1, .ref 38, .ref 299, .ref 336, .ref 373, .ref 375, .ref 378, .ref 381, .ref 387, .ref 393, gs, pl, .ref 397, .ref 398, .ref 399, .long sd, .long be]))) (H393 : mj_rd h 393 = some (.inr (9, [.ref 394, .ref 395, .ref 396, .int (nI g), mf]))) (H394 : mj_rd h 394 = some (.inl (0, (24, .inl (rf))))) (H400 : mj_rd h 400 = some (.inr (17, [.int th, .ref 401, .ref 402, ty, .long sd, .long be, .ref 410, wa, nw, nx, .ref 411]))) (H410 : mj_rd h 410 = some (.inr (18, [.ref E, .int (nI g), .int mc]))) (H412 : mj_rd h 412 = some (.inl (4, (1, .inr (.inl (ou)))))) (HE : mj_rd h E = some (.inl (6, (cap, .inr (.inr (.inr (.inr (ef)))))))) (hn : ∀ (l6 l7 l8 l9 : Option Value) (h' : mj_H), mj_rd h' 393 = some (.inr (9, [.ref 394, .ref 395, .ref 396, .int (nI (g + 1)), mf])) ∧ mj_rd h' 394 = some (.inl (0, (24, .inl ((upd rf g (nI ((8 * l) + c))))))) ∧ mj_rd h' 400 = some (.inr (17, [.int (nI 0), .ref 401, .ref 402, ty, .long sd, .long be, .ref 410, wa, nw, nx, .ref 411])) ∧ mj_rd h' 410 = some (.inr (18, [.ref E, .int (nI (g + 1)), .int (mc + nI 1)])) ∧ mj_rd h' 412 = some (.inl (4, (1, .inr (.inl ((vp_updL ou 0 (Int32.toInt64 (nI (g + 1))))))))) ∧ mj_rd h' E = some (.inl (6, (cap, .inr (.inr (.inr (.inr ((va_up ef g (some (1000138 + ((8 * l) + c))))))))))) ∧ mz_fr [393, 394, 400, 410, 412, E] h h' ∧ h'.length ≤ N + 0 ∧ mj_sz h' ≤ mj_sz h + 0 → mj_lrun L xs (28, [some (.retAddr 1), some (.ref 0), some (.ref 400), some (.ref 412), some (.ref 413), some (.int (nI (i + 4))), l6, l7, l8, l9], [], h') P) : mj_lrun L xs (28, [some (.retAddr 1), some (.ref 0), some (.ref 400), some (.ref 412), some (.ref 413), some (.int (nI i)), l6, l7, l8, l9], [], h) P := by
  refine l_ild (p' := 30) rfl rfl rfl rfl ?_
  refine l_alds (p' := 31) rfl rfl rfl rfl ?_
  refine l_lens (p' := 32) rfl rfl rfl ?_
  refine l_con (p' := 33) rfl rfl rfl ?_
  refine l_bz (p' := 34) (z := (nI (L - 4))) rfl rfl rfl rfl rfl (mI_sub (by omega)) ?_
  refine l_icmp (p' := 37) false rfl rfl ((ci_gt (by omega) (by omega)).trans (decide_eq_false (by omega))) rfl ?_
  refine l_alds (p' := 38) rfl rfl rfl rfl ?_
  refine l_ild (p' := 40) rfl rfl rfl rfl ?_
  refine l_ialz (p' := 41) (m := i) (z := (xs i)) rfl rfl (inb_nI (by omega) (by omega)) (mI_cl (by omega)) rfl rfl ?_
  refine l_bip (p' := 43) rfl rfl rfl ?_
  refine l_bz (p' := 44) (z := (nI 29)) rfl rfl rfl rfl rfl hk ?_
  refine l_sp (p' := 1817) (ls' := _) rfl rfl rfl rfl rfl ?_
  refine l_aldn (p' := 1818) rfl rfl rfl rfl ?_
  refine l_alds (p' := 1819) rfl rfl rfl rfl ?_
  refine l_ild (p' := 1821) rfl rfl rfl rfl ?_
  refine l_con (p' := 1822) rfl rfl rfl ?_
  refine l_bz (p' := 1823) (z := (nI (i + 1))) rfl rfl rfl rfl rfl (mI_add _ _) ?_
  refine l_ialz (p' := 1824) (m := (i + 1)) (z := (nI l)) rfl rfl (inb_nI (by omega) (by omega)) (mI_cl (by omega)) hx1 rfl ?_
  refine l_alds (p' := 1825) rfl rfl rfl rfl ?_
  refine l_ild (p' := 1827) rfl rfl rfl rfl ?_
  refine l_con (p' := 1828) rfl rfl rfl ?_
  refine l_bz (p' := 1829) (z := (nI (i + 2))) rfl rfl rfl rfl rfl (mI_add _ _) ?_
  refine l_ialz (p' := 1830) (m := (i + 2)) (z := (nI c)) rfl rfl (inb_nI (by omega) (by omega)) (mI_cl (by omega)) hx2 rfl ?_
  refine l_aldn (p' := 1831) rfl rfl rfl rfl ?_
  refine l_call (p' := 1834) (kc := 99) (ls0 := [_, _, _, _, _]) rfl rfl rfl rfl rfl rfl rfl rfl rfl rfl ?_
  refine s_aldn (p' := 1) rfl rfl rfl ?_
  refine s_con (p' := 2) rfl rfl ?_
  refine s_aldn (p' := 3) rfl rfl rfl ?_
  refine s_ildn (p' := 4) rfl rfl rfl ?_
  refine s_ildn (p' := 5) rfl rfl rfl ?_
  refine c_call (p' := 8) (kc := 98) (ls0 := [_, _, _]) rfl rfl rfl rfl rfl (mj_rcv_is H0) rfl rfl rfl ?_
  refine s_ildn (p' := 1) rfl rfl rfl ?_
  refine s_if (p' := 4) false rfl ((cg_lt (w := 0) (by decide +kernel)).trans (decide_eq_false (by rw [mI_ti (by omega)]; omega))) rfl ?_
  refine s_ildn (p' := 5) rfl rfl rfl ?_
  refine s_con (p' := 6) rfl rfl ?_
  refine s_icmp (p' := 9) false rfl ((cg_ge (w := 3) (by decide +kernel)).trans (decide_eq_false (by rw [mI_ti (by omega)]; omega))) rfl ?_
  refine s_ildn (p' := 10) rfl rfl rfl ?_
  refine s_if (p' := 13) false rfl ((cg_lt (w := 0) (by decide +kernel)).trans (decide_eq_false (by rw [mI_ti (by omega)]; omega))) rfl ?_
  refine s_ildn (p' := 14) rfl rfl rfl ?_
  refine s_bip (p' := 16) rfl rfl ?_
  refine s_icmp (p' := 30) true rfl ((cg_lt (w := 8) (by decide +kernel)).trans (decide_eq_true (by rw [mI_ti (by omega)]; omega))) rfl ?_
  refine s_ildn (p' := 31) rfl rfl rfl ?_
  refine s_con (p' := 32) rfl rfl ?_
  refine s_ildn (p' := 33) rfl rfl rfl ?_
  refine s_bz (p' := 34) (z := (nI 1 <<< (nI l &&& 31))) rfl rfl rfl rfl ?_
  refine s_bz (p' := 35) (z := (nI 0)) rfl rfl rfl hcl ?_
  refine s_if (p' := 49) true rfl (by decide +kernel) rfl ?_
  refine s_aldn (p' := 50) rfl rfl rfl ?_
  refine s_gf (p' := 53) rfl H0 rfl rfl ?_
  refine c_call (p' := 56) (kc := 97) (ls0 := [_]) rfl rfl rfl rfl rfl (mj_rcv_is H393) rfl rfl rfl ?_
  refine s_aldn (p' := 1) rfl rfl rfl ?_
  refine s_gf (p' := 4) rfl H393 rfl rfl ?_
  refine s_bip (p' := 6) rfl rfl ?_
  refine s_icmp (p' := 13) true rfl ((cg_lt (w := 24) (by decide +kernel)).trans (decide_eq_true (by rw [mI_ti (by omega)]; omega))) rfl ?_
  refine s_con (p' := 14) rfl rfl ?_
  refine c_iret rfl (by decide +kernel) ?_
  refine s_if (p' := 70) true rfl (by decide +kernel) rfl ?_
  refine s_aldn (p' := 71) rfl rfl rfl ?_
  refine s_gf (p' := 74) rfl H0 rfl rfl ?_
  refine s_bip (p' := 76) rfl rfl ?_
  refine s_ildn (p' := 77) rfl rfl rfl ?_
  refine s_bz (p' := 78) (z := (nI (8 * l))) rfl rfl rfl (mI_mul _ _) ?_
  refine s_ildn (p' := 79) rfl rfl rfl ?_
  refine s_bz (p' := 80) (z := (nI ((8 * l) + c))) rfl rfl rfl (mI_add _ _) ?_
  refine c_call (p' := 83) (kc := 97) (ls0 := [_, _]) rfl rfl rfl rfl rfl (mj_rcv_is H393) rfl rfl rfl ?_
  refine s_aldn (p' := 1) rfl rfl rfl ?_
  refine s_gf (p' := 4) rfl H393 rfl rfl ?_
  refine s_if (p' := 7) false rfl ((cg_lt (w := 0) (by decide +kernel)).trans (decide_eq_false (by rw [mI_ti (by omega)]; omega))) rfl ?_
  refine s_aldn (p' := 8) rfl rfl rfl ?_
  refine s_gf (p' := 11) rfl H393 rfl rfl ?_
  refine s_aldn (p' := 12) rfl rfl rfl ?_
  refine s_gf (p' := 15) rfl H393 rfl rfl ?_
  refine s_lenz (p' := 16) rfl (mj_rdA_is H394 (by decide)) rfl rfl ?_
  refine s_icmp (p' := 19) false rfl ((cg_ge (w := 24) (by decide +kernel)).trans (decide_eq_false (by rw [mI_ti (by omega)]; omega))) rfl ?_
  refine s_aldn (p' := 20) rfl rfl rfl ?_
  refine s_gf (p' := 23) rfl H393 rfl rfl ?_
  refine s_aldn (p' := 24) rfl rfl rfl ?_
  refine s_gf (p' := 27) rfl H393 rfl rfl ?_
  refine s_ildn (p' := 28) rfl rfl rfl ?_
  refine s_iasz (p' := 29) (m := g) rfl rfl H394 (inb_nI (by omega) (by omega)) (mI_cl (by omega)) rfl rfl ?_
  refine s_aldn (p' := 30) rfl rfl rfl ?_
  refine s_dupr (p' := 31) rfl rfl ?_
  refine s_gf (p' := 34) rfl (rd_sn rfl H393) rfl rfl ?_
  refine s_con (p' := 35) rfl rfl ?_
  refine s_bz (p' := 36) (z := (nI (g + 1))) rfl rfl rfl (mI_add _ _) ?_
  refine s_pfz (p' := 39) (fs' := [_, _, _, _, _]) rfl rfl (rd_sn rfl H393) rfl rfl rfl rfl ?_
  refine c_ret rfl ?_
  refine s_aldn (p' := 84) rfl rfl rfl ?_
  refine s_gf (p' := 87) rfl (rd_sn rfl (rd_sn rfl H0)) rfl rfl ?_
  refine c_call (p' := 90) (kc := 97) (ls0 := [_]) rfl rfl rfl rfl rfl (mj_rcv_is (rd_ss rfl (rd_sn rfl H393))) rfl rfl rfl ?_
  refine s_aldn (p' := 1) rfl rfl rfl ?_
  refine s_gf (p' := 4) rfl (rd_ss rfl (rd_sn rfl H393)) rfl rfl ?_
  refine c_iret rfl rfl ?_
  refine c_iret rfl rfl ?_
  refine s_bzL (p' := 9) (z := (Int32.toInt64 (nI (g + 1)))) rfl rfl rfl rfl ?_
  refine s_lasz (p' := 10) (m := 0) rfl rfl (rd_sn rfl (rd_sn rfl H412)) (by decide +kernel) rfl rfl rfl ?_
  refine s_goto (p' := 21) rfl rfl ?_
  refine s_con (p' := 22) rfl rfl ?_
  refine k_iret rfl rfl ?_
  refine l_ist (p' := 1836) (ls' := [_, _, _, _, _, _, _, _, _, _]) rfl rfl rfl rfl rfl ?_
  refine l_aldn (p' := 1837) rfl rfl rfl rfl ?_
  refine l_alds (p' := 1838) rfl rfl rfl rfl ?_
  refine l_ild (p' := 1840) rfl rfl rfl rfl ?_
  refine l_con (p' := 1841) rfl rfl rfl ?_
  refine l_bz (p' := 1842) (z := (nI (i + 1))) rfl rfl rfl rfl rfl (mI_add _ _) ?_
  refine l_ialz (p' := 1843) (m := (i + 1)) (z := (nI l)) rfl rfl (inb_nI (by omega) (by omega)) (mI_cl (by omega)) hx1 rfl ?_
  refine l_alds (p' := 1844) rfl rfl rfl rfl ?_
  refine l_ild (p' := 1846) rfl rfl rfl rfl ?_
  refine l_con (p' := 1847) rfl rfl rfl ?_
  refine l_bz (p' := 1848) (z := (nI (i + 2))) rfl rfl rfl rfl rfl (mI_add _ _) ?_
  refine l_ialz (p' := 1849) (m := (i + 2)) (z := (nI c)) rfl rfl (inb_nI (by omega) (by omega)) (mI_cl (by omega)) hx2 rfl ?_
  refine l_call (p' := 1852) (kc := 99) (ls0 := [_, _, _, _]) rfl rfl rfl rfl rfl rfl (mj_rcv_is (rd_sn rfl (rd_sn rfl (rd_sn rfl H400)))) rfl rfl rfl ?_
  refine s_ildn (p' := 1) rfl rfl rfl ?_
  refine s_con (p' := 2) rfl rfl ?_
  refine s_con (p' := 3) rfl rfl ?_
  refine c_call (p' := 6) (kc := 98) (ls0 := [_, _, _]) rfl rfl rfl rfl rfl rfl rfl rfl rfl ?_
  refine s_ildn (p' := 1) rfl rfl rfl ?_
  refine s_ildn (p' := 2) rfl rfl rfl ?_
  refine s_icmp (p' := 5) false rfl ((ch_gt (w := 0) (by decide +kernel)).trans (decide_eq_false (by rw [mI_ti (by omega)]; omega))) rfl ?_
  refine s_ildn (p' := 6) rfl rfl rfl ?_
  refine s_ildn (p' := 7) rfl rfl rfl ?_
  refine s_icmp (p' := 10) false rfl ((cg_gt (w := 2) (by decide +kernel)).trans (decide_eq_false (by rw [mI_ti (by omega)]; omega))) rfl ?_
  refine s_con (p' := 11) rfl rfl ?_
  refine s_goto (p' := 15) rfl rfl ?_
  refine c_iret rfl (by decide +kernel) ?_
  refine s_if (p' := 9) false rfl (by decide +kernel) rfl ?_
  refine s_ildn (p' := 10) rfl rfl rfl ?_
  refine s_con (p' := 11) rfl rfl ?_
  refine s_bip (p' := 13) rfl rfl ?_
  refine c_call (p' := 16) (kc := 98) (ls0 := [_, _, _]) rfl rfl rfl rfl rfl rfl rfl rfl rfl ?_
  refine s_ildn (p' := 1) rfl rfl rfl ?_
  refine s_ildn (p' := 2) rfl rfl rfl ?_
  refine s_icmp (p' := 5) false rfl ((ch_gt (w := 0) (by decide +kernel)).trans (decide_eq_false (by rw [mI_ti (by omega)]; omega))) rfl ?_
  refine s_ildn (p' := 6) rfl rfl rfl ?_
  refine s_ildn (p' := 7) rfl rfl rfl ?_
  refine s_icmp (p' := 10) false rfl ((cg_gt (w := 7) (by decide +kernel)).trans (decide_eq_false (by rw [mI_ti (by omega)]; omega))) rfl ?_
  refine s_con (p' := 11) rfl rfl ?_
  refine s_goto (p' := 15) rfl rfl ?_
  refine c_iret rfl (by decide +kernel) ?_
  refine s_if (p' := 19) false rfl (by decide +kernel) rfl ?_
  refine s_ildn (p' := 20) rfl rfl rfl ?_
  refine s_ildn (p' := 21) rfl rfl rfl ?_
  refine s_bz (p' := 22) (z := (nI c >>> (nI l &&& 31))) rfl rfl rfl rfl ?_
  refine s_con (p' := 23) rfl rfl ?_
  refine s_bz (p' := 24) (z := (nI 0)) rfl rfl rfl hcr ?_
  refine s_if (p' := 27) false rfl (by decide +kernel) rfl ?_
  refine s_con (p' := 28) rfl rfl ?_
  refine s_goto (p' := 32) rfl rfl ?_
  refine s_istn (p' := 33) (ls' := [_, _, _, _]) rfl rfl rfl rfl ?_
  refine s_aldn (p' := 34) rfl rfl rfl ?_
  refine s_ildn (p' := 35) rfl rfl rfl ?_
  refine s_if (p' := 42) true rfl (by decide +kernel) rfl ?_
  refine s_aldn (p' := 43) rfl rfl rfl ?_
  refine s_gf (p' := 46) rfl (rd_sn rfl (rd_sn rfl (rd_sn rfl H400))) rfl rfl ?_
  refine c_call (p' := 51) (kc := 98) (ls0 := [_]) rfl rfl rfl rfl rfl (mj_rcv_is (rd_sn rfl (rd_sn rfl (rd_sn rfl H410)))) rfl rfl rfl ?_
  refine s_aldn (p' := 1) rfl rfl rfl ?_
  refine s_gf (p' := 4) rfl (rd_sn rfl (rd_sn rfl (rd_sn rfl H410))) rfl rfl ?_
  refine c_iret rfl rfl ?_
  refine s_bip (p' := 53) rfl rfl ?_
  refine s_icmp (p' := 60) true rfl ((cg_ne (w := 24) (by decide +kernel)).trans (decide_eq_true (by rw [mI_ti (by omega)]; omega))) rfl ?_
  refine s_con (p' := 61) rfl rfl ?_
  refine c_call (p' := 64) (kc := 98) (ls0 := [_, _]) rfl rfl rfl rfl rfl (mj_rcv_is (rd_sn rfl (rd_sn rfl (rd_sn rfl H400)))) rfl rfl rfl ?_
  refine s_aldn (p' := 1) rfl rfl rfl ?_
  refine s_ildn (p' := 2) rfl rfl rfl ?_
  refine s_pfz (p' := 5) (fs' := [_, _, _, _, _, _, _, _, _, _, _]) rfl rfl (rd_sn rfl (rd_sn rfl (rd_sn rfl H400))) rfl rfl rfl rfl ?_
  refine s_ildn (p' := 6) rfl rfl rfl ?_
  refine s_if (p' := 13) true rfl (by decide +kernel) rfl ?_
  refine s_con (p' := 14) rfl rfl ?_
  refine c_iret rfl (by decide +kernel) ?_
  refine s_if (p' := 69) true rfl (by decide +kernel) rfl ?_
  refine s_aldn (p' := 70) rfl rfl rfl ?_
  refine s_gf (p' := 73) rfl (rd_ss rfl (rd_sn rfl (rd_sn rfl (rd_sn rfl H400)))) rfl rfl ?_
  refine s_bip (p' := 75) rfl rfl ?_
  refine s_ildn (p' := 76) rfl rfl rfl ?_
  refine s_bz (p' := 77) (z := (nI (8 * l))) rfl rfl rfl (mI_mul _ _) ?_
  refine s_ildn (p' := 78) rfl rfl rfl ?_
  refine s_bz (p' := 79) (z := (nI ((8 * l) + c))) rfl rfl rfl (mI_add _ _) ?_
  refine s_callV (p' := 82) (kc := 0) (ls0 := [_]) rfl rfl rfl rfl rfl rfl rfl (y_vo (by omega)) (by decide) rfl ?_
  refine s_callV (p' := 87) (kc := 2) (ls0 := [_, _]) rfl rfl rfl rfl rfl (mj_rcv_is (rd_sn rfl (rd_sn rfl (rd_sn rfl (rd_sn rfl H410))))) rfl (y_addA (by decide) (by omega) (rd_sn rfl (rd_sn rfl (rd_sn rfl (rd_sn rfl H410)))) (rd_sn (beq_eq_false_iff_ne.mpr (by omega)) (rd_sn (beq_eq_false_iff_ne.mpr (by omega)) (rd_sn (beq_eq_false_iff_ne.mpr (by omega)) (rd_sn (beq_eq_false_iff_ne.mpr (by omega)) HE)))) (k_int _ (by omega)) rfl (by omega) (by omega) (by omega)) (by decide) rfl ?_
  refine s_sp (p' := 88) (ls' := _) rfl rfl rfl ?_
  refine s_aldn (p' := 89) rfl rfl rfl ?_
  refine s_gf (p' := 92) rfl (rd_sn rfl (rd_sn (beq_eq_false_iff_ne.mpr (by omega)) (rd_sn rfl (rd_ss rfl (rd_sn rfl (rd_sn rfl (rd_sn rfl H400))))))) rfl rfl ?_
  refine c_call (p' := 97) (kc := 98) (ls0 := [_]) rfl rfl rfl rfl rfl (mj_rcv_is (rd_ss rfl (rd_sn (beq_eq_false_iff_ne.mpr (by omega)) (rd_ss rfl (rd_sn rfl (rd_sn rfl (rd_sn rfl (rd_sn rfl H410)))))))) rfl rfl rfl ?_
  refine s_aldn (p' := 1) rfl rfl rfl ?_
  refine s_gf (p' := 4) rfl (rd_ss rfl (rd_sn (beq_eq_false_iff_ne.mpr (by omega)) (rd_ss rfl (rd_sn rfl (rd_sn rfl (rd_sn rfl (rd_sn rfl H410))))))) rfl rfl ?_
  refine c_iret rfl rfl ?_
  refine k_iret rfl rfl ?_
  refine l_ist (p' := 1854) (ls' := [_, _, _, _, _, _, _, _, _, _]) rfl rfl rfl rfl rfl ?_
  refine l_aldn (p' := 1855) rfl rfl rfl rfl ?_
  refine l_call (p' := 1858) (kc := 99) (ls0 := [_]) rfl rfl rfl rfl rfl rfl (mj_rcv_is (rd_sn rfl (rd_sn (beq_eq_false_iff_ne.mpr (by omega)) (rd_sn rfl (rd_ss rfl (rd_sn rfl (rd_sn rfl (rd_sn rfl H400)))))))) rfl rfl rfl ?_
  refine s_aldn (p' := 1) rfl rfl rfl ?_
  refine s_gf (p' := 4) rfl (rd_sn rfl (rd_sn (beq_eq_false_iff_ne.mpr (by omega)) (rd_sn rfl (rd_ss rfl (rd_sn rfl (rd_sn rfl (rd_sn rfl H400))))))) rfl rfl ?_
  refine k_iret rfl rfl ?_
  refine l_ild (p' := 1860) rfl rfl rfl rfl ?_
  refine l_icmp (p' := 1865) true rfl rfl (by decide +kernel) rfl ?_
  refine l_ild (p' := 1867) rfl rfl rfl rfl ?_
  refine l_if (p' := 1870) false rfl rfl (by decide +kernel) rfl ?_
  refine l_aldn (p' := 1871) rfl rfl rfl rfl ?_
  refine l_con (p' := 1872) rfl rfl rfl ?_
  refine l_lalz (p' := 1873) (m := 0) (v := (Int32.toInt64 (nI (g + 1)))) rfl rfl (rd_sn rfl (rd_sn (beq_eq_false_iff_ne.mpr (by omega)) (rd_sn rfl (rd_sn rfl (rd_ss rfl (rd_sn rfl (rd_sn rfl H412))))))) (by decide +kernel) rfl rfl rfl ?_
  refine l_ild (p' := 1875) rfl rfl rfl rfl ?_
  refine l_bzL (p' := 1876) (z := (Int32.toInt64 (nI (g + 1)))) rfl rfl rfl rfl rfl rfl ?_
  refine l_bz (p' := 1877) (z := nI 0) rfl rfl rfl rfl rfl (lcmp_self _) ?_
  refine l_if (p' := 1882) true rfl rfl (by decide +kernel) rfl ?_
  refine l_goto (p' := 2541) rfl rfl rfl ?_
  refine l_incz (p' := 2544) (w := (nI (i + 4))) (ls' := [_, _, _, _, _, _, _, _, _, _]) rfl rfl rfl rfl (mI_add _ _) rfl rfl ?_
  refine l_goto (p' := 28) rfl rfl rfl ?_
  exact hn _ _ _ _ _ ⟨(rd_sn rfl (rd_sn (beq_eq_false_iff_ne.mpr (by omega)) (rd_sn rfl (rd_sn rfl (rd_sn rfl (rd_ss rfl (rd_sn rfl H393))))))), (rd_sn rfl (rd_sn (beq_eq_false_iff_ne.mpr (by omega)) (rd_sn rfl (rd_sn rfl (rd_sn rfl (rd_sn rfl (rd_ss rfl H394))))))), (rd_sn rfl (rd_sn (beq_eq_false_iff_ne.mpr (by omega)) (rd_sn rfl (rd_ss rfl (rd_sn rfl (rd_sn rfl (rd_sn rfl H400))))))), (rd_ss rfl (rd_sn (beq_eq_false_iff_ne.mpr (by omega)) (rd_ss rfl (rd_sn rfl (rd_sn rfl (rd_sn rfl (rd_sn rfl H410))))))), (rd_sn rfl (rd_sn (beq_eq_false_iff_ne.mpr (by omega)) (rd_sn rfl (rd_sn rfl (rd_ss rfl (rd_sn rfl (rd_sn rfl H412))))))), (rd_sn (beq_eq_false_iff_ne.mpr (by omega)) (rd_ss (Nat.blt_eq.mpr (by omega)) (rd_sn (beq_eq_false_iff_ne.mpr (by omega)) (rd_sn (beq_eq_false_iff_ne.mpr (by omega)) (rd_sn (beq_eq_false_iff_ne.mpr (by omega)) (rd_sn (beq_eq_false_iff_ne.mpr (by omega)) (rd_sn (beq_eq_false_iff_ne.mpr (by omega)) HE))))))), (mz_fr.s (by simp) (mz_fr.s (by simp) (mz_fr.s (by simp) (mz_fr.s (by simp) (mz_fr.s (by simp) (mz_fr.s (by simp) (mz_fr.s (by simp) (mz_fr.rf _ h)))))))), (Nat.le_trans (Nat.le_of_eq (len_s (len_s (len_s (len_s (len_s (len_s (len_s HL)))))))) (by omega)), (Nat.le_trans (sz_s rfl (rd_sn (beq_eq_false_iff_ne.mpr (by omega)) (rd_ss rfl (rd_sn rfl (rd_sn rfl (rd_sn rfl (rd_sn rfl H410)))))) rfl (sz_sA (Nat.blt_eq.mpr (by omega)) (rd_sn (beq_eq_false_iff_ne.mpr (by omega)) (rd_sn (beq_eq_false_iff_ne.mpr (by omega)) (rd_sn (beq_eq_false_iff_ne.mpr (by omega)) (rd_sn (beq_eq_false_iff_ne.mpr (by omega)) (rd_sn (beq_eq_false_iff_ne.mpr (by omega)) HE))))) (sz_s rfl (rd_sn rfl (rd_sn rfl (rd_sn rfl (rd_sn rfl H410)))) rfl (sz_s rfl (rd_sn rfl (rd_sn rfl (rd_sn rfl H400))) rfl (sz_sA rfl (rd_sn rfl (rd_sn rfl H412)) (sz_s rfl (rd_sn rfl H393) rfl (sz_sA rfl H394 (Nat.le_refl (mj_sz h))))))))) (by omega))⟩
