/-! Rounds on any state: made and madeAt. -/
theorem w_36 {L i N : Nat} {xs : Nat → Int32} {h : mj_H} {l6 l7 l8 l9 : Option Value} {P : mj_H → Prop} (hL : L ≤ 2048) (hi : i + 4 ≤ L) (hN : N + 2000 < mj_CB) (hN0 : 414 ≤ N) (HL : h.length = N) (hk : xs i &&& nI 63 = nI 36) {gs pl ty wa nw nx dp ca mf : Value} {th : Int32} {sd be : Int64} {ou : Nat → Int64} {vf wf sf uf im jm : Nat → Int32} {k g : Nat} (hk20 : k ≤ 20) (hvw : ∀ j, j < 8 → wf j = vf j) (hsu : ∀ j, j < k → uf j = sf j) (him : ∀ j, j < 8 → jm j = im j) {pe pm ge gm : Value} {q : Nat} (hq6 : q ≤ 6) (hg24 : g ≤ 24) {rf : Nat → Int32} {E cap : Nat} {mc : Int32} {ef : Nat → Option Nat} {G : Nat → Nat} (hG1 : ∀ j, j < g → rf j = nI (G j) ∧ G j < 24) (hE0 : 414 ≤ E) (hEN : E < N ∨ E = 1000000) (hEA : mj_rdA h E = some (6, (cap, objs ef))) (hG2 : ∀ j, j < g → ef j = some (1000138 + G j) ∧ G j < 24) (hgc : g ≤ cap) (hc31 : cap < 1000) (hE3 : E < mj_CB ∧ 0 < cap ∨ E = 1000000 ∧ cap = 0) {oof dmf : Nat → Int32}   (H0 : mj_rd h 0 = some (.inr (0, [.ref 1, .ref 38, .ref 299, .ref 336, .ref 373, .ref 375, .ref 378, .ref 381, .ref 387, .ref 393, gs, pl, .ref 397, .ref 398, .ref 399, .long sd, .long be]))) (H393 : mj_rd h 393 = some (.inr (9, [.ref 394, .ref 395, .ref 396, .int (nI g), mf]))) (H394 : mj_rd h 394 = some (.inl (0, (24, .inl (rf))))) (H395 : mj_rd h 395 = some (.inl (0, (8, .inl (oof))))) (H396 : mj_rd h 396 = some (.inl (0, (24, .inl (dmf))))) (H400 : mj_rd h 400 = some (.inr (17, [.int th, .ref 401, .ref 402, ty, .long sd, .long be, .ref 410, wa, nw, nx, .ref 411]))) (H410 : mj_rd h 410 = some (.inr (18, [.ref E, .int (nI g), .int mc]))) (hn : ∀ (l6 l7 l8 l9 : Option Value) (h' : mj_H), mj_rd h' 400 = some (.inr (17, [.int (nI 0), .ref 401, .ref 402, ty, .long sd, .long be, .ref 410, wa, nw, nx, .ref 411])) ∧ (∃ of1 df1 : Nat → Int32, mj_rd h' 393 = some (.inr (9, [.ref 394, .ref 395, .ref 396, .int (nI g), .int (nI (mkG G g).2.2)])) ∧ mj_rd h' 395 = some (.inl (0, (8, .inl of1))) ∧ mj_rd h' 396 = some (.inl (0, (24, .inl df1)))) ∧ mz_fr [393, 395, 396, 400] h h' ∧ h'.length ≤ N + 36 ∧ mj_sz h' ≤ mj_sz h + 1500 → mj_lrun L xs (28, [some (.retAddr 1), some (.ref 0), some (.ref 400), some (.ref 412), some (.ref 413), some (.int (nI (i + 4))), l6, l7, l8, l9], [], h') P) : mj_lrun L xs (28, [some (.retAddr 1), some (.ref 0), some (.ref 400), some (.ref 412), some (.ref 413), some (.int (nI i)), l6, l7, l8, l9], [], h) P := by
  have hmk := mkG_ok (G := G) (n := g) (fun j hj => (hG1 j hj).2)
  refine l_ild (p' := 30) rfl rfl rfl rfl ?_
  refine l_alds (p' := 31) rfl rfl rfl rfl ?_
  refine l_lens (p' := 32) rfl rfl rfl ?_
  refine l_con (p' := 33) rfl rfl rfl ?_
  refine l_bz (p' := 34) (z := (nI (L - 4))) rfl rfl rfl rfl rfl (mI_sub (by omega)) ?_
  refine l_icmp (p' := 37) false rfl rfl ((ci_gt (by omega) (by omega)).trans (decide_eq_false (by omega))) rfl ?_
  refine l_alds (p' := 38) rfl rfl rfl rfl ?_
  refine l_ild (p' := 40) rfl rfl rfl rfl ?_
  refine l_ialz (p' := 41) (m := i) (z := (xs i)) rfl rfl (inb_nI (by omega) (by omega)) (mI_cl (by omega)) rfl rfl ?_
  refine l_bip (p' := 43) rfl rfl rfl ?_
  refine l_bz (p' := 44) (z := (nI 36)) rfl rfl rfl rfl rfl hk ?_
  refine l_sp (p' := 2080) (ls' := _) rfl rfl rfl rfl rfl ?_
  refine l_aldn (p' := 2081) rfl rfl rfl rfl ?_
  refine l_call (p' := 2084) (kc := 99) (ls0 := [_]) rfl rfl rfl rfl rfl rfl (mj_rcv_is H0) rfl rfl rfl ?_
  refine s_aldn (p' := 1) rfl rfl rfl ?_
  refine s_gf (p' := 4) rfl H0 rfl rfl ?_
  refine s_callEV (p' := 7) (ls0 := [_, _, _]) rfl rfl rfl rfl rfl (mj_rcv_is H393) rfl (x_mk (by decide) (by decide) (by decide) (by decide) (by decide) H393 H394 H395 H396 hG1 hg24) rfl rfl ?_
  rintro _ h1 ⟨rfl, ⟨of1, df1, k1, k2, k3, k4, k5⟩, k6⟩
  refine k_iret rfl rfl ?_
  refine l_aldn (p' := 2085) rfl rfl rfl rfl ?_
  refine l_call (p' := 2088) (kc := 99) (ls0 := [_]) rfl rfl rfl rfl rfl rfl (mj_rcv_is (k6.1 400 (by simp <;> omega) _ H400)) rfl rfl rfl ?_
  refine s_aldn (p' := 1) rfl rfl rfl ?_
  refine s_con (p' := 2) rfl rfl ?_
  refine s_pfz (p' := 5) (fs' := [_, _, _, _, _, _, _, _, _, _, _]) rfl rfl (k6.1 400 (by simp <;> omega) _ H400) rfl rfl rfl rfl ?_
  refine s_aldn (p' := 6) rfl rfl rfl ?_
  refine s_callEV (p' := 9) (ls0 := [_, _, _, _, _, _, _, _]) rfl rfl rfl rfl rfl (mj_rcv_is (rd_ss rfl (k6.1 400 (by simp <;> omega) _ H400))) rfl (y_mks (len_s (k6.leq HL)) (by omega) (rd_ss rfl (k6.1 400 (by simp <;> omega) _ H400)) (rd_sn rfl (k6.1 410 (by simp <;> omega) _ H410)) (rdA_sn (beq_eq_false_iff_ne.mpr (by omega)) (k6.1.A (by simp <;> omega) hEA)) hG2 hg24 hgc hc31) rfl rfl ?_
  rintro _ h2 ⟨B, EB, rfl, kN, kEN, kL, k24, kok, kmo⟩
  have kL0 := kL
  obtain ⟨capB, mcB, efB, kB, _⟩ := kL0
  refine c_call (p' := 14) (kc := 98) (ls0 := [_]) rfl rfl rfl rfl rfl (mj_rcv_is kB) rfl rfl rfl ?_
  refine s_aldn (p' := 1) rfl rfl rfl ?_
  refine s_gf (p' := 4) rfl kB rfl rfl ?_
  refine c_iret rfl rfl ?_
  refine k_iret rfl rfl ?_
  refine l_icmp (p' := 2541) true rfl rfl (decide_eq_true rfl) rfl ?_
  refine l_incz (p' := 2544) (w := (nI (i + 4))) (ls' := [_, _, _, _, _, _, _, _, _, _]) rfl rfl rfl rfl (mI_add _ _) rfl rfl ?_
  refine l_goto (p' := 28) rfl rfl rfl ?_
  exact hn _ _ _ _ _ ⟨(kmo.1 400 (by simp <;> omega) _ (rd_ss rfl (k6.1 400 (by simp <;> omega) _ H400))), ⟨of1, df1, (kmo.1 393 (by simp <;> omega) _ (rd_sn rfl k1)), (kmo.1 395 (by simp <;> omega) _ (rd_sn rfl k2)), (kmo.1 396 (by simp <;> omega) _ (rd_sn rfl k3))⟩, ((mz_fr.s (by decide) ((mz_fr.rf _ h).tr2 k6.1 (fun y hy => Or.inl (by simp at hy ⊢ <;> omega)))).tr2 kmo.1 (fun y hy => Or.inl (by simp at hy ⊢ <;> omega))), (Nat.le_trans (kmo.len (Nat.le_of_eq (len_s (k6.leq HL))) rfl) (by omega)), (Nat.le_trans (kmo.sz (K := 1500) (sz_s rfl (k6.1 400 (by simp <;> omega) _ H400) rfl (k6.sz (K := 0) (Nat.le_refl (mj_sz h)) (by omega) rfl)) (by omega) rfl) (by omega))⟩
theorem w_37 {L i N : Nat} {xs : Nat → Int32} {h : mj_H} {l6 l7 l8 l9 : Option Value} {P : mj_H → Prop} (hL : L ≤ 2048) (hi : i + 4 ≤ L) (hN : N + 2000 < mj_CB) (hN0 : 414 ≤ N) (HL : h.length = N) (hk : xs i &&& nI 63 = nI 37) {gs pl ty wa nw nx dp ca mf : Value} {th : Int32} {sd be : Int64} {ou : Nat → Int64} {vf wf sf uf im jm : Nat → Int32} {k g : Nat} (hk20 : k ≤ 20) (hvw : ∀ j, j < 8 → wf j = vf j) (hsu : ∀ j, j < k → uf j = sf j) (him : ∀ j, j < 8 → jm j = im j) {pe pm ge gm : Value} {q : Nat} (hq6 : q ≤ 6) (hg24 : g ≤ 24) {rf : Nat → Int32} {E cap : Nat} {mc : Int32} {ef : Nat → Option Nat} {G : Nat → Nat} (hG1 : ∀ j, j < g → rf j = nI (G j) ∧ G j < 24) (hE0 : 414 ≤ E) (hEN : E < N ∨ E = 1000000) (hEA : mj_rdA h E = some (6, (cap, objs ef))) (hG2 : ∀ j, j < g → ef j = some (1000138 + G j) ∧ G j < 24) (hgc : g ≤ cap) (hc31 : cap < 1000) (hE3 : E < mj_CB ∧ 0 < cap ∨ E = 1000000 ∧ cap = 0) {oof dmf : Nat → Int32} {v : Nat} (hv : v < (mkG G g).2.2) (hx1 : xs (i + 1) = nI v) (H0 : mj_rd h 0 = some (.inr (0, [.ref 1, .ref 38, .ref 299, .ref 336, .ref 373, .ref 375, .ref 378, .ref 381, .ref 387, .ref 393, gs, pl, .ref 397, .ref 398, .ref 399, .long sd, .long be]))) (H393 : mj_rd h 393 = some (.inr (9, [.ref 394, .ref 395, .ref 396, .int (nI g), mf]))) (H394 : mj_rd h 394 = some (.inl (0, (24, .inl (rf))))) (H395 : mj_rd h 395 = some (.inl (0, (8, .inl (oof))))) (H396 : mj_rd h 396 = some (.inl (0, (24, .inl (dmf))))) (H400 : mj_rd h 400 = some (.inr (17, [.int th, .ref 401, .ref 402, ty, .long sd, .long be, .ref 410, wa, nw, nx, .ref 411]))) (H410 : mj_rd h 410 = some (.inr (18, [.ref E, .int (nI g), .int mc]))) (H412 : mj_rd h 412 = some (.inl (4, (1, .inr (.inl (ou)))))) (hn : ∀ (l6 l7 l8 l9 : Option Value) (h' : mj_H), mj_rd h' 400 = some (.inr (17, [.int (nI 0), .ref 401, .ref 402, ty, .long sd, .long be, .ref 410, wa, nw, nx, .ref 411])) ∧ mj_rd h' 412 = some (.inl (4, (1, .inr (.inl ((vp_updL ou 0 (Int32.toInt64 (nI ((mkG G g).2.1 ((mkG G g).2.2 - 1 - v)))))))))) ∧ (∃ of1 df1 : Nat → Int32, mj_rd h' 393 = some (.inr (9, [.ref 394, .ref 395, .ref 396, .int (nI g), .int (nI (mkG G g).2.2)])) ∧ mj_rd h' 395 = some (.inl (0, (8, .inl of1))) ∧ mj_rd h' 396 = some (.inl (0, (24, .inl df1)))) ∧ mz_fr [393, 395, 396, 400, 412] h h' ∧ h'.length ≤ N + 36 ∧ mj_sz h' ≤ mj_sz h + 1500 → mj_lrun L xs (28, [some (.retAddr 1), some (.ref 0), some (.ref 400), some (.ref 412), some (.ref 413), some (.int (nI (i + 4))), l6, l7, l8, l9], [], h') P) : mj_lrun L xs (28, [some (.retAddr 1), some (.ref 0), some (.ref 400), some (.ref 412), some (.ref 413), some (.int (nI i)), l6, l7, l8, l9], [], h) P := by
  have hmk := mkG_ok (G := G) (n := g) (fun j hj => (hG1 j hj).2)
  refine l_ild (p' := 30) rfl rfl rfl rfl ?_
  refine l_alds (p' := 31) rfl rfl rfl rfl ?_
  refine l_lens (p' := 32) rfl rfl rfl ?_
  refine l_con (p' := 33) rfl rfl rfl ?_
  refine l_bz (p' := 34) (z := (nI (L - 4))) rfl rfl rfl rfl rfl (mI_sub (by omega)) ?_
  refine l_icmp (p' := 37) false rfl rfl ((ci_gt (by omega) (by omega)).trans (decide_eq_false (by omega))) rfl ?_
  refine l_alds (p' := 38) rfl rfl rfl rfl ?_
  refine l_ild (p' := 40) rfl rfl rfl rfl ?_
  refine l_ialz (p' := 41) (m := i) (z := (xs i)) rfl rfl (inb_nI (by omega) (by omega)) (mI_cl (by omega)) rfl rfl ?_
  refine l_bip (p' := 43) rfl rfl rfl ?_
  refine l_bz (p' := 44) (z := (nI 37)) rfl rfl rfl rfl rfl hk ?_
  refine l_sp (p' := 2093) (ls' := _) rfl rfl rfl rfl rfl ?_
  refine l_aldn (p' := 2094) rfl rfl rfl rfl ?_
  refine l_alds (p' := 2095) rfl rfl rfl rfl ?_
  refine l_ild (p' := 2097) rfl rfl rfl rfl ?_
  refine l_con (p' := 2098) rfl rfl rfl ?_
  refine l_bz (p' := 2099) (z := (nI (i + 1))) rfl rfl rfl rfl rfl (mI_add _ _) ?_
  refine l_ialz (p' := 2100) (m := (i + 1)) (z := (nI v)) rfl rfl (inb_nI (by omega) (by omega)) (mI_cl (by omega)) hx1 rfl ?_
  refine l_aldn (p' := 2101) rfl rfl rfl rfl ?_
  refine l_call (p' := 2104) (kc := 99) (ls0 := [_, _, _, _]) rfl rfl rfl rfl rfl rfl rfl rfl rfl rfl ?_
  refine s_aldn (p' := 1) rfl rfl rfl ?_
  refine s_con (p' := 2) rfl rfl ?_
  refine s_aldn (p' := 3) rfl rfl rfl ?_
  refine s_ildn (p' := 4) rfl rfl rfl ?_
  refine c_call (p' := 7) (kc := 98) (ls0 := [_, _, _]) rfl rfl rfl rfl rfl (mj_rcv_is H0) rfl rfl rfl ?_
  refine s_aldn (p' := 1) rfl rfl rfl ?_
  refine s_gf (p' := 4) rfl H0 rfl rfl ?_
  refine s_callEV (p' := 7) (ls0 := [_, _, _]) rfl rfl rfl rfl rfl (mj_rcv_is H393) rfl (x_mk (by decide) (by decide) (by decide) (by decide) (by decide) H393 H394 H395 H396 hG1 hg24) rfl rfl ?_
  rintro _ h1 ⟨rfl, ⟨of1, df1, k1, k2, k3, k4, k5⟩, k6⟩
  refine s_istn (p' := 8) (ls' := [_, _, _]) rfl rfl rfl rfl ?_
  refine s_ildn (p' := 9) rfl rfl rfl ?_
  refine s_if (p' := 12) false rfl ((cg_lt (w := 0) (by decide +kernel)).trans (decide_eq_false (by rw [mI_ti (by omega)]; omega))) rfl ?_
  refine s_ildn (p' := 13) rfl rfl rfl ?_
  refine s_ildn (p' := 14) rfl rfl rfl ?_
  refine s_icmp (p' := 28) true rfl ((ci_lt (by omega) (by omega)).trans (decide_eq_true (by omega))) rfl ?_
  refine s_aldn (p' := 29) rfl rfl rfl ?_
  refine s_gf (p' := 32) rfl (k6.1 0 (by simp <;> omega) _ H0) rfl rfl ?_
  refine s_ildn (p' := 33) rfl rfl rfl ?_
  refine s_callV (p' := 36) (kc := 1) (ls0 := [_, _, _]) rfl rfl rfl rfl rfl (mj_rcv_is k1) rfl (mj_run.eq (x_mgt k1 k3 hv (by omega)) (by rw [k5 _ (by omega)])) (by decide) rfl ?_
  refine c_iret rfl rfl ?_
  refine s_bzL (p' := 8) (z := (Int32.toInt64 (nI ((mkG G g).2.1 ((mkG G g).2.2 - 1 - v))))) rfl rfl rfl rfl ?_
  refine s_lasz (p' := 9) (m := 0) rfl rfl (k6.1 412 (by simp <;> omega) _ H412) (by decide +kernel) rfl rfl rfl ?_
  refine s_goto (p' := 15) rfl rfl ?_
  refine s_con (p' := 16) rfl rfl ?_
  refine k_iret rfl rfl ?_
  refine l_ist (p' := 2106) (ls' := [_, _, _, _, _, _, _, _, _, _]) rfl rfl rfl rfl rfl ?_
  refine l_aldn (p' := 2107) rfl rfl rfl rfl ?_
  refine l_alds (p' := 2108) rfl rfl rfl rfl ?_
  refine l_ild (p' := 2110) rfl rfl rfl rfl ?_
  refine l_con (p' := 2111) rfl rfl rfl ?_
  refine l_bz (p' := 2112) (z := (nI (i + 1))) rfl rfl rfl rfl rfl (mI_add _ _) ?_
  refine l_ialz (p' := 2113) (m := (i + 1)) (z := (nI v)) rfl rfl (inb_nI (by omega) (by omega)) (mI_cl (by omega)) hx1 rfl ?_
  refine l_call (p' := 2116) (kc := 99) (ls0 := [_, _, _]) rfl rfl rfl rfl rfl rfl (mj_rcv_is (rd_sn rfl (k6.1 400 (by simp <;> omega) _ H400))) rfl rfl rfl ?_
  refine s_aldn (p' := 1) rfl rfl rfl ?_
  refine s_callEV (p' := 4) (ls0 := [_, _, _, _, _, _, _, _]) rfl rfl rfl rfl rfl (mj_rcv_is (rd_sn rfl (k6.1 400 (by simp <;> omega) _ H400))) rfl (y_mks (len_s (k6.leq HL)) (by omega) (rd_sn rfl (k6.1 400 (by simp <;> omega) _ H400)) (rd_sn rfl (k6.1 410 (by simp <;> omega) _ H410)) (rdA_sn (beq_eq_false_iff_ne.mpr (by omega)) (k6.1.A (by simp <;> omega) hEA)) hG2 hg24 hgc hc31) rfl rfl ?_
  rintro _ h2 ⟨B, EB, rfl, kN, kEN, kL, k24, kok, kmo⟩
  have kL0 := kL
  obtain ⟨capB, mcB, efB, kB, _⟩ := kL0
  refine s_astn (p' := 5) (ls' := [_, _, _]) rfl rfl rfl rfl ?_
  refine s_aldn (p' := 6) rfl rfl rfl ?_
  refine s_ildn (p' := 7) rfl rfl rfl ?_
  refine s_con (p' := 8) rfl rfl ?_
  refine s_aldn (p' := 9) rfl rfl rfl ?_
  refine c_call (p' := 14) (kc := 98) (ls0 := [_]) rfl rfl rfl rfl rfl (mj_rcv_is kB) rfl rfl rfl ?_
  refine s_aldn (p' := 1) rfl rfl rfl ?_
  refine s_gf (p' := 4) rfl kB rfl rfl ?_
  refine c_iret rfl rfl ?_
  refine s_con (p' := 15) rfl rfl ?_
  refine s_bz (p' := 16) (z := (nI ((mkG G g).2.2 - 1))) rfl rfl rfl (mI_sub (by omega)) ?_
  refine c_call (p' := 19) (kc := 98) (ls0 := [_, _, _]) rfl rfl rfl rfl rfl rfl rfl rfl rfl ?_
  refine s_ildn (p' := 1) rfl rfl rfl ?_
  refine s_ildn (p' := 2) rfl rfl rfl ?_
  refine s_icmp (p' := 5) false rfl ((ch_gt (w := 0) (by decide +kernel)).trans (decide_eq_false (by rw [mI_ti (by omega)]; omega))) rfl ?_
  refine s_ildn (p' := 6) rfl rfl rfl ?_
  refine s_ildn (p' := 7) rfl rfl rfl ?_
  refine s_icmp (p' := 10) false rfl ((ci_gt (by omega) (by omega)).trans (decide_eq_false (by omega))) rfl ?_
  refine s_con (p' := 11) rfl rfl ?_
  refine s_goto (p' := 15) rfl rfl ?_
  refine c_iret rfl (by decide +kernel) ?_
  refine s_if (p' := 22) false rfl (by decide +kernel) rfl ?_
  refine s_con (p' := 23) rfl rfl ?_
  refine s_goto (p' := 27) rfl rfl ?_
  refine c_call (p' := 30) (kc := 98) (ls0 := [_, _]) rfl rfl rfl rfl rfl (mj_rcv_is (kmo.1 400 (by simp <;> omega) _ (rd_sn rfl (k6.1 400 (by simp <;> omega) _ H400)))) rfl rfl rfl ?_
  refine s_aldn (p' := 1) rfl rfl rfl ?_
  refine s_ildn (p' := 2) rfl rfl rfl ?_
  refine s_pfz (p' := 5) (fs' := [_, _, _, _, _, _, _, _, _, _, _]) rfl rfl (kmo.1 400 (by simp <;> omega) _ (rd_sn rfl (k6.1 400 (by simp <;> omega) _ H400))) rfl rfl rfl rfl ?_
  refine s_ildn (p' := 6) rfl rfl rfl ?_
  refine s_if (p' := 13) true rfl (by decide +kernel) rfl ?_
  refine s_con (p' := 14) rfl rfl ?_
  refine c_iret rfl (by decide +kernel) ?_
  refine s_if (p' := 37) true rfl (by decide +kernel) rfl ?_
  refine s_aldn (p' := 38) rfl rfl rfl ?_
  refine s_ildn (p' := 39) rfl rfl rfl ?_
  refine s_callV (p' := 44) (kc := 4) (ls0 := [_, _]) rfl rfl rfl rfl rfl (mj_rcv_is (rd_sn (beq_eq_false_iff_ne.mpr (by omega)) kB)) rfl (y_get (kL.fr (L := [400]) (mz_fr.s (by simp) (mz_fr.rf _ _)) (by simp; omega) (by simp; omega) (fun j hj => by simp; omega)) hv) (by decide) rfl ?_
  refine s_cco (p' := 47) rfl (k_int _ (kok.2 _ (by omega)).1) rfl ?_
  refine c_call (p' := 50) (kc := 98) (ls0 := [_]) rfl rfl rfl rfl rfl (mj_rcv_is (k_int _ (kok.2 _ (by omega)).1)) rfl rfl rfl ?_
  refine s_aldn (p' := 1) rfl rfl rfl ?_
  refine s_gf (p' := 4) rfl (k_int _ (kok.2 _ (by omega)).1) rfl rfl ?_
  refine c_iret rfl rfl ?_
  refine k_iret rfl rfl ?_
  refine l_ist (p' := 2118) (ls' := [_, _, _, _, _, _, _, _, _, _]) rfl rfl rfl rfl rfl ?_
  refine l_aldn (p' := 2119) rfl rfl rfl rfl ?_
  refine l_call (p' := 2122) (kc := 99) (ls0 := [_]) rfl rfl rfl rfl rfl rfl (mj_rcv_is (rd_ss rfl (kmo.1 400 (by simp <;> omega) _ (rd_sn rfl (k6.1 400 (by simp <;> omega) _ H400))))) rfl rfl rfl ?_
  refine s_aldn (p' := 1) rfl rfl rfl ?_
  refine s_gf (p' := 4) rfl (rd_ss rfl (kmo.1 400 (by simp <;> omega) _ (rd_sn rfl (k6.1 400 (by simp <;> omega) _ H400)))) rfl rfl ?_
  refine k_iret rfl rfl ?_
  refine l_ild (p' := 2124) rfl rfl rfl rfl ?_
  refine l_icmp (p' := 2129) true rfl rfl (by decide +kernel) rfl ?_
  refine l_ild (p' := 2131) rfl rfl rfl rfl ?_
  refine l_if (p' := 2134) false rfl rfl (by decide +kernel) rfl ?_
  refine l_aldn (p' := 2135) rfl rfl rfl rfl ?_
  refine l_con (p' := 2136) rfl rfl rfl ?_
  refine l_lalz (p' := 2137) (m := 0) (v := (Int32.toInt64 (nI ((mkG G g).2.1 ((mkG G g).2.2 - 1 - v))))) rfl rfl (rd_sn rfl (kmo.1 412 (by simp <;> omega) _ (rd_ss rfl (k6.1 412 (by simp <;> omega) _ H412)))) (by decide +kernel) rfl rfl rfl ?_
  refine l_ild (p' := 2139) rfl rfl rfl rfl ?_
  refine l_bzL (p' := 2140) (z := (Int32.toInt64 (nI ((mkG G g).2.1 ((mkG G g).2.2 - 1 - v))))) rfl rfl rfl rfl rfl rfl ?_
  refine l_bz (p' := 2141) (z := nI 0) rfl rfl rfl rfl rfl (lcmp_self _) ?_
  refine l_if (p' := 2146) true rfl rfl (by decide +kernel) rfl ?_
  refine l_goto (p' := 2541) rfl rfl rfl ?_
  refine l_incz (p' := 2544) (w := (nI (i + 4))) (ls' := [_, _, _, _, _, _, _, _, _, _]) rfl rfl rfl rfl (mI_add _ _) rfl rfl ?_
  refine l_goto (p' := 28) rfl rfl rfl ?_
  exact hn _ _ _ _ _ ⟨(rd_ss rfl (kmo.1 400 (by simp <;> omega) _ (rd_sn rfl (k6.1 400 (by simp <;> omega) _ H400)))), (rd_sn rfl (kmo.1 412 (by simp <;> omega) _ (rd_ss rfl (k6.1 412 (by simp <;> omega) _ H412)))), ⟨of1, df1, (rd_sn rfl (kmo.1 393 (by simp <;> omega) _ (rd_sn rfl k1))), (rd_sn rfl (kmo.1 395 (by simp <;> omega) _ (rd_sn rfl k2))), (rd_sn rfl (kmo.1 396 (by simp <;> omega) _ (rd_sn rfl k3)))⟩, (mz_fr.s (by decide) ((mz_fr.s (by decide) ((mz_fr.rf _ h).tr2 k6.1 (fun y hy => Or.inl (by simp at hy ⊢ <;> omega)))).tr2 kmo.1 (fun y hy => Or.inl (by simp at hy ⊢ <;> omega)))), (Nat.le_trans (lenb_s (kmo.len (Nat.le_of_eq (len_s (k6.leq HL))) rfl)) (by omega)), (Nat.le_trans (sz_s rfl (kmo.1 400 (by simp <;> omega) _ (rd_sn rfl (k6.1 400 (by simp <;> omega) _ H400))) rfl (kmo.sz (K := 1500) (sz_sA rfl (k6.1 412 (by simp <;> omega) _ H412) (k6.sz (K := 0) (Nat.le_refl (mj_sz h)) (by omega) rfl)) (by omega) rfl)) (by omega))⟩
theorem w_37_n {L i N : Nat} {xs : Nat → Int32} {h : mj_H} {l6 l7 l8 l9 : Option Value} {P : mj_H → Prop} (hL : L ≤ 2048) (hi : i + 4 ≤ L) (hN : N + 2000 < mj_CB) (hN0 : 414 ≤ N) (HL : h.length = N) (hk : xs i &&& nI 63 = nI 37) {gs pl ty wa nw nx dp ca mf : Value} {th : Int32} {sd be : Int64} {ou : Nat → Int64} {vf wf sf uf im jm : Nat → Int32} {k g : Nat} (hk20 : k ≤ 20) (hvw : ∀ j, j < 8 → wf j = vf j) (hsu : ∀ j, j < k → uf j = sf j) (him : ∀ j, j < 8 → jm j = im j) {pe pm ge gm : Value} {q : Nat} (hq6 : q ≤ 6) (hg24 : g ≤ 24) {rf : Nat → Int32} {E cap : Nat} {mc : Int32} {ef : Nat → Option Nat} {G : Nat → Nat} (hG1 : ∀ j, j < g → rf j = nI (G j) ∧ G j < 24) (hE0 : 414 ≤ E) (hEN : E < N ∨ E = 1000000) (hEA : mj_rdA h E = some (6, (cap, objs ef))) (hG2 : ∀ j, j < g → ef j = some (1000138 + G j) ∧ G j < 24) (hgc : g ≤ cap) (hc31 : cap < 1000) (hE3 : E < mj_CB ∧ 0 < cap ∨ E = 1000000 ∧ cap = 0) {oof dmf : Nat → Int32} {p : Int32} (hp : p.toInt < 0) (h0 : 0 < (mkG G g).2.2) (hx1 : xs (i + 1) = p) (H0 : mj_rd h 0 = some (.inr (0, [.ref 1, .ref 38, .ref 299, .ref 336, .ref 373, .ref 375, .ref 378, .ref 381, .ref 387, .ref 393, gs, pl, .ref 397, .ref 398, .ref 399, .long sd, .long be]))) (H393 : mj_rd h 393 = some (.inr (9, [.ref 394, .ref 395, .ref 396, .int (nI g), mf]))) (H394 : mj_rd h 394 = some (.inl (0, (24, .inl (rf))))) (H395 : mj_rd h 395 = some (.inl (0, (8, .inl (oof))))) (H396 : mj_rd h 396 = some (.inl (0, (24, .inl (dmf))))) (H400 : mj_rd h 400 = some (.inr (17, [.int th, .ref 401, .ref 402, ty, .long sd, .long be, .ref 410, wa, nw, nx, .ref 411]))) (H410 : mj_rd h 410 = some (.inr (18, [.ref E, .int (nI g), .int mc]))) (hn : ∀ (l6 l7 l8 l9 : Option Value) (h' : mj_H), mj_rd h' 400 = some (.inr (17, [.int (nI 1), .ref 401, .ref 402, ty, .long sd, .long be, .ref 410, wa, nw, nx, .ref 411])) ∧ (∃ of1 df1 : Nat → Int32, mj_rd h' 393 = some (.inr (9, [.ref 394, .ref 395, .ref 396, .int (nI g), .int (nI (mkG G g).2.2)])) ∧ mj_rd h' 395 = some (.inl (0, (8, .inl of1))) ∧ mj_rd h' 396 = some (.inl (0, (24, .inl df1)))) ∧ mz_fr [393, 395, 396, 400] h h' ∧ h'.length ≤ N + 37 ∧ mj_sz h' ≤ mj_sz h + 1506 → mj_lrun L xs (28, [some (.retAddr 1), some (.ref 0), some (.ref 400), some (.ref 412), some (.ref 413), some (.int (nI (i + 4))), l6, l7, l8, l9], [], h') P) : mj_lrun L xs (28, [some (.retAddr 1), some (.ref 0), some (.ref 400), some (.ref 412), some (.ref 413), some (.int (nI i)), l6, l7, l8, l9], [], h) P := by
  have hmk := mkG_ok (G := G) (n := g) (fun j hj => (hG1 j hj).2)
  refine l_ild (p' := 30) rfl rfl rfl rfl ?_
  refine l_alds (p' := 31) rfl rfl rfl rfl ?_
  refine l_lens (p' := 32) rfl rfl rfl ?_
  refine l_con (p' := 33) rfl rfl rfl ?_
  refine l_bz (p' := 34) (z := (nI (L - 4))) rfl rfl rfl rfl rfl (mI_sub (by omega)) ?_
  refine l_icmp (p' := 37) false rfl rfl ((ci_gt (by omega) (by omega)).trans (decide_eq_false (by omega))) rfl ?_
  refine l_alds (p' := 38) rfl rfl rfl rfl ?_
  refine l_ild (p' := 40) rfl rfl rfl rfl ?_
  refine l_ialz (p' := 41) (m := i) (z := (xs i)) rfl rfl (inb_nI (by omega) (by omega)) (mI_cl (by omega)) rfl rfl ?_
  refine l_bip (p' := 43) rfl rfl rfl ?_
  refine l_bz (p' := 44) (z := (nI 37)) rfl rfl rfl rfl rfl hk ?_
  refine l_sp (p' := 2093) (ls' := _) rfl rfl rfl rfl rfl ?_
  refine l_aldn (p' := 2094) rfl rfl rfl rfl ?_
  refine l_alds (p' := 2095) rfl rfl rfl rfl ?_
  refine l_ild (p' := 2097) rfl rfl rfl rfl ?_
  refine l_con (p' := 2098) rfl rfl rfl ?_
  refine l_bz (p' := 2099) (z := (nI (i + 1))) rfl rfl rfl rfl rfl (mI_add _ _) ?_
  refine l_ialz (p' := 2100) (m := (i + 1)) (z := p) rfl rfl (inb_nI (by omega) (by omega)) (mI_cl (by omega)) hx1 rfl ?_
  refine l_aldn (p' := 2101) rfl rfl rfl rfl ?_
  refine l_call (p' := 2104) (kc := 99) (ls0 := [_, _, _, _]) rfl rfl rfl rfl rfl rfl rfl rfl rfl rfl ?_
  refine s_aldn (p' := 1) rfl rfl rfl ?_
  refine s_con (p' := 2) rfl rfl ?_
  refine s_aldn (p' := 3) rfl rfl rfl ?_
  refine s_ildn (p' := 4) rfl rfl rfl ?_
  refine c_call (p' := 7) (kc := 98) (ls0 := [_, _, _]) rfl rfl rfl rfl rfl (mj_rcv_is H0) rfl rfl rfl ?_
  refine s_aldn (p' := 1) rfl rfl rfl ?_
  refine s_gf (p' := 4) rfl H0 rfl rfl ?_
  refine s_callEV (p' := 7) (ls0 := [_, _, _]) rfl rfl rfl rfl rfl (mj_rcv_is H393) rfl (x_mk (by decide) (by decide) (by decide) (by decide) (by decide) H393 H394 H395 H396 hG1 hg24) rfl rfl ?_
  rintro _ h1 ⟨rfl, ⟨of1, df1, k1, k2, k3, k4, k5⟩, k6⟩
  refine s_istn (p' := 8) (ls' := [_, _, _]) rfl rfl rfl rfl ?_
  refine s_ildn (p' := 9) rfl rfl rfl ?_
  refine s_if (p' := 17) true rfl ((cg_lt (w := 0) (by decide +kernel)).trans (decide_eq_true (by omega))) rfl ?_
  refine s_thrz (q := N) rfl (k6.leq HL) rfl ?_
  refine K_c (hp := 12) (Nat.blt_eq.mpr (by omega)) (mj_ocl_is (rd_nw (Nat.blt_eq.mpr (by omega)) (k6.leq HL))) rfl ?_
  refine s_astn (p' := 13) (ls' := [_, _, _, _]) rfl rfl rfl rfl ?_
  refine s_con (p' := 14) rfl rfl ?_
  refine k_iret rfl rfl ?_
  refine l_ist (p' := 2106) (ls' := [_, _, _, _, _, _, _, _, _, _]) rfl rfl rfl rfl rfl ?_
  refine l_aldn (p' := 2107) rfl rfl rfl rfl ?_
  refine l_alds (p' := 2108) rfl rfl rfl rfl ?_
  refine l_ild (p' := 2110) rfl rfl rfl rfl ?_
  refine l_con (p' := 2111) rfl rfl rfl ?_
  refine l_bz (p' := 2112) (z := (nI (i + 1))) rfl rfl rfl rfl rfl (mI_add _ _) ?_
  refine l_ialz (p' := 2113) (m := (i + 1)) (z := p) rfl rfl (inb_nI (by omega) (by omega)) (mI_cl (by omega)) hx1 rfl ?_
  refine l_call (p' := 2116) (kc := 99) (ls0 := [_, _, _]) rfl rfl rfl rfl rfl rfl (mj_rcv_is (rd_app (k6.1 400 (by simp <;> omega) _ H400))) rfl rfl rfl ?_
  refine s_aldn (p' := 1) rfl rfl rfl ?_
  refine s_callEV (p' := 4) (ls0 := [_, _, _, _, _, _, _, _]) rfl rfl rfl rfl rfl (mj_rcv_is (rd_app (k6.1 400 (by simp <;> omega) _ H400))) rfl (y_mks (len_a (k6.leq HL) rfl) (by omega) (rd_app (k6.1 400 (by simp <;> omega) _ H400)) (rd_app (k6.1 410 (by simp <;> omega) _ H410)) (rdA_app (k6.1.A (by simp <;> omega) hEA)) hG2 hg24 hgc hc31) rfl rfl ?_
  rintro _ h2 ⟨B, EB, rfl, kN, kEN, kL, k24, kok, kmo⟩
  have kL0 := kL
  obtain ⟨capB, mcB, efB, kB, _⟩ := kL0
  refine s_astn (p' := 5) (ls' := [_, _, _]) rfl rfl rfl rfl ?_
  refine s_aldn (p' := 6) rfl rfl rfl ?_
  refine s_ildn (p' := 7) rfl rfl rfl ?_
  refine s_con (p' := 8) rfl rfl ?_
  refine s_aldn (p' := 9) rfl rfl rfl ?_
  refine c_call (p' := 14) (kc := 98) (ls0 := [_]) rfl rfl rfl rfl rfl (mj_rcv_is kB) rfl rfl rfl ?_
  refine s_aldn (p' := 1) rfl rfl rfl ?_
  refine s_gf (p' := 4) rfl kB rfl rfl ?_
  refine c_iret rfl rfl ?_
  refine s_con (p' := 15) rfl rfl ?_
  refine s_bz (p' := 16) (z := (nI ((mkG G g).2.2 - 1))) rfl rfl rfl (mI_sub (by omega)) ?_
  refine c_call (p' := 19) (kc := 98) (ls0 := [_, _, _]) rfl rfl rfl rfl rfl rfl rfl rfl rfl ?_
  refine s_ildn (p' := 1) rfl rfl rfl ?_
  refine s_ildn (p' := 2) rfl rfl rfl ?_
  refine s_icmp (p' := 14) true rfl ((ch_gt (w := 0) (by decide +kernel)).trans (decide_eq_true (by omega))) rfl ?_
  refine s_con (p' := 15) rfl rfl ?_
  refine c_iret rfl (by decide +kernel) ?_
  refine s_if (p' := 26) true rfl (by decide +kernel) rfl ?_
  refine s_con (p' := 27) rfl rfl ?_
  refine c_call (p' := 30) (kc := 98) (ls0 := [_, _]) rfl rfl rfl rfl rfl (mj_rcv_is (kmo.1 400 (by simp <;> omega) _ (rd_app (k6.1 400 (by simp <;> omega) _ H400)))) rfl rfl rfl ?_
  refine s_aldn (p' := 1) rfl rfl rfl ?_
  refine s_ildn (p' := 2) rfl rfl rfl ?_
  refine s_pfz (p' := 5) (fs' := [_, _, _, _, _, _, _, _, _, _, _]) rfl rfl (kmo.1 400 (by simp <;> omega) _ (rd_app (k6.1 400 (by simp <;> omega) _ H400))) rfl rfl rfl rfl ?_
  refine s_ildn (p' := 6) rfl rfl rfl ?_
  refine s_if (p' := 9) false rfl (by decide +kernel) rfl ?_
  refine s_con (p' := 10) rfl rfl ?_
  refine s_goto (p' := 14) rfl rfl ?_
  refine c_iret rfl (by decide +kernel) ?_
  refine s_if (p' := 33) false rfl (by decide +kernel) rfl ?_
  refine s_con (p' := 34) rfl rfl ?_
  refine s_goto (p' := 50) rfl rfl ?_
  refine k_iret rfl rfl ?_
  refine l_ist (p' := 2118) (ls' := [_, _, _, _, _, _, _, _, _, _]) rfl rfl rfl rfl rfl ?_
  refine l_aldn (p' := 2119) rfl rfl rfl rfl ?_
  refine l_call (p' := 2122) (kc := 99) (ls0 := [_]) rfl rfl rfl rfl rfl rfl (mj_rcv_is (rd_ss rfl (kmo.1 400 (by simp <;> omega) _ (rd_app (k6.1 400 (by simp <;> omega) _ H400))))) rfl rfl rfl ?_
  refine s_aldn (p' := 1) rfl rfl rfl ?_
  refine s_gf (p' := 4) rfl (rd_ss rfl (kmo.1 400 (by simp <;> omega) _ (rd_app (k6.1 400 (by simp <;> omega) _ H400)))) rfl rfl ?_
  refine k_iret rfl rfl ?_
  refine l_ild (p' := 2124) rfl rfl rfl rfl ?_
  refine l_icmp (p' := 2129) true rfl rfl (by decide +kernel) rfl ?_
  refine l_ild (p' := 2131) rfl rfl rfl rfl ?_
  refine l_if (p' := 2146) true rfl rfl (by decide +kernel) rfl ?_
  refine l_goto (p' := 2541) rfl rfl rfl ?_
  refine l_incz (p' := 2544) (w := (nI (i + 4))) (ls' := [_, _, _, _, _, _, _, _, _, _]) rfl rfl rfl rfl (mI_add _ _) rfl rfl ?_
  refine l_goto (p' := 28) rfl rfl rfl ?_
  exact hn _ _ _ _ _ ⟨(rd_ss rfl (kmo.1 400 (by simp <;> omega) _ (rd_app (k6.1 400 (by simp <;> omega) _ H400)))), ⟨of1, df1, (rd_sn rfl (kmo.1 393 (by simp <;> omega) _ (rd_app k1))), (rd_sn rfl (kmo.1 395 (by simp <;> omega) _ (rd_app k2))), (rd_sn rfl (kmo.1 396 (by simp <;> omega) _ (rd_app k3)))⟩, (mz_fr.s (by decide) ((mz_fr.a ((mz_fr.rf _ h).tr2 k6.1 (fun y hy => Or.inl (by simp at hy ⊢ <;> omega)))).tr2 kmo.1 (fun y hy => Or.inl (by simp at hy ⊢ <;> omega)))), (Nat.le_trans (lenb_s (kmo.len (Nat.le_of_eq (len_a (k6.leq HL) rfl)) rfl)) (by omega)), (Nat.le_trans (sz_s rfl (kmo.1 400 (by simp <;> omega) _ (rd_app (k6.1 400 (by simp <;> omega) _ H400))) rfl (kmo.sz (K := 1500) (sz_aa (k := 6) (m := mj_sz h + 6) rfl (by omega) (k6.sz (K := 0) (Nat.le_refl (mj_sz h)) (by omega) rfl)) (by omega) rfl)) (by omega))⟩
theorem w_37_nz {L i N : Nat} {xs : Nat → Int32} {h : mj_H} {l6 l7 l8 l9 : Option Value} {P : mj_H → Prop} (hL : L ≤ 2048) (hi : i + 4 ≤ L) (hN : N + 2000 < mj_CB) (hN0 : 414 ≤ N) (HL : h.length = N) (hk : xs i &&& nI 63 = nI 37) {gs pl ty wa nw nx dp ca mf : Value} {th : Int32} {sd be : Int64} {ou : Nat → Int64} {vf wf sf uf im jm : Nat → Int32} {k g : Nat} (hk20 : k ≤ 20) (hvw : ∀ j, j < 8 → wf j = vf j) (hsu : ∀ j, j < k → uf j = sf j) (him : ∀ j, j < 8 → jm j = im j) {pe pm ge gm : Value} {q : Nat} (hq6 : q ≤ 6) (hg24 : g ≤ 24) {rf : Nat → Int32} {E cap : Nat} {mc : Int32} {ef : Nat → Option Nat} {G : Nat → Nat} (hG1 : ∀ j, j < g → rf j = nI (G j) ∧ G j < 24) (hE0 : 414 ≤ E) (hEN : E < N ∨ E = 1000000) (hEA : mj_rdA h E = some (6, (cap, objs ef))) (hG2 : ∀ j, j < g → ef j = some (1000138 + G j) ∧ G j < 24) (hgc : g ≤ cap) (hc31 : cap < 1000) (hE3 : E < mj_CB ∧ 0 < cap ∨ E = 1000000 ∧ cap = 0) {oof dmf : Nat → Int32} {p : Int32} (hp : p.toInt < 0) (h0 : (mkG G g).2.2 = 0) (hx1 : xs (i + 1) = p) (H0 : mj_rd h 0 = some (.inr (0, [.ref 1, .ref 38, .ref 299, .ref 336, .ref 373, .ref 375, .ref 378, .ref 381, .ref 387, .ref 393, gs, pl, .ref 397, .ref 398, .ref 399, .long sd, .long be]))) (H393 : mj_rd h 393 = some (.inr (9, [.ref 394, .ref 395, .ref 396, .int (nI g), mf]))) (H394 : mj_rd h 394 = some (.inl (0, (24, .inl (rf))))) (H395 : mj_rd h 395 = some (.inl (0, (8, .inl (oof))))) (H396 : mj_rd h 396 = some (.inl (0, (24, .inl (dmf))))) (H400 : mj_rd h 400 = some (.inr (17, [.int th, .ref 401, .ref 402, ty, .long sd, .long be, .ref 410, wa, nw, nx, .ref 411]))) (H410 : mj_rd h 410 = some (.inr (18, [.ref E, .int (nI g), .int mc]))) (hn : ∀ (l6 l7 l8 l9 : Option Value) (h' : mj_H), mj_rd h' 400 = some (.inr (17, [.int (nI 1), .ref 401, .ref 402, ty, .long sd, .long be, .ref 410, wa, nw, nx, .ref 411])) ∧ (∃ of1 df1 : Nat → Int32, mj_rd h' 393 = some (.inr (9, [.ref 394, .ref 395, .ref 396, .int (nI g), .int (nI (mkG G g).2.2)])) ∧ mj_rd h' 395 = some (.inl (0, (8, .inl of1))) ∧ mj_rd h' 396 = some (.inl (0, (24, .inl df1)))) ∧ mz_fr [393, 395, 396, 400] h h' ∧ h'.length ≤ N + 37 ∧ mj_sz h' ≤ mj_sz h + 1506 → mj_lrun L xs (28, [some (.retAddr 1), some (.ref 0), some (.ref 400), some (.ref 412), some (.ref 413), some (.int (nI (i + 4))), l6, l7, l8, l9], [], h') P) : mj_lrun L xs (28, [some (.retAddr 1), some (.ref 0), some (.ref 400), some (.ref 412), some (.ref 413), some (.int (nI i)), l6, l7, l8, l9], [], h) P := by
  have hmk := mkG_ok (G := G) (n := g) (fun j hj => (hG1 j hj).2)
  refine l_ild (p' := 30) rfl rfl rfl rfl ?_
  refine l_alds (p' := 31) rfl rfl rfl rfl ?_
  refine l_lens (p' := 32) rfl rfl rfl ?_
  refine l_con (p' := 33) rfl rfl rfl ?_
  refine l_bz (p' := 34) (z := (nI (L - 4))) rfl rfl rfl rfl rfl (mI_sub (by omega)) ?_
  refine l_icmp (p' := 37) false rfl rfl ((ci_gt (by omega) (by omega)).trans (decide_eq_false (by omega))) rfl ?_
  refine l_alds (p' := 38) rfl rfl rfl rfl ?_
  refine l_ild (p' := 40) rfl rfl rfl rfl ?_
  refine l_ialz (p' := 41) (m := i) (z := (xs i)) rfl rfl (inb_nI (by omega) (by omega)) (mI_cl (by omega)) rfl rfl ?_
  refine l_bip (p' := 43) rfl rfl rfl ?_
  refine l_bz (p' := 44) (z := (nI 37)) rfl rfl rfl rfl rfl hk ?_
  refine l_sp (p' := 2093) (ls' := _) rfl rfl rfl rfl rfl ?_
  refine l_aldn (p' := 2094) rfl rfl rfl rfl ?_
  refine l_alds (p' := 2095) rfl rfl rfl rfl ?_
  refine l_ild (p' := 2097) rfl rfl rfl rfl ?_
  refine l_con (p' := 2098) rfl rfl rfl ?_
  refine l_bz (p' := 2099) (z := (nI (i + 1))) rfl rfl rfl rfl rfl (mI_add _ _) ?_
  refine l_ialz (p' := 2100) (m := (i + 1)) (z := p) rfl rfl (inb_nI (by omega) (by omega)) (mI_cl (by omega)) hx1 rfl ?_
  refine l_aldn (p' := 2101) rfl rfl rfl rfl ?_
  refine l_call (p' := 2104) (kc := 99) (ls0 := [_, _, _, _]) rfl rfl rfl rfl rfl rfl rfl rfl rfl rfl ?_
  refine s_aldn (p' := 1) rfl rfl rfl ?_
  refine s_con (p' := 2) rfl rfl ?_
  refine s_aldn (p' := 3) rfl rfl rfl ?_
  refine s_ildn (p' := 4) rfl rfl rfl ?_
  refine c_call (p' := 7) (kc := 98) (ls0 := [_, _, _]) rfl rfl rfl rfl rfl (mj_rcv_is H0) rfl rfl rfl ?_
  refine s_aldn (p' := 1) rfl rfl rfl ?_
  refine s_gf (p' := 4) rfl H0 rfl rfl ?_
  refine s_callEV (p' := 7) (ls0 := [_, _, _]) rfl rfl rfl rfl rfl (mj_rcv_is H393) rfl (x_mk (by decide) (by decide) (by decide) (by decide) (by decide) H393 H394 H395 H396 hG1 hg24) rfl rfl ?_
  rintro _ h1 ⟨rfl, ⟨of1, df1, k1, k2, k3, k4, k5⟩, k6⟩
  refine s_istn (p' := 8) (ls' := [_, _, _]) rfl rfl rfl rfl ?_
  refine s_ildn (p' := 9) rfl rfl rfl ?_
  refine s_if (p' := 17) true rfl ((cg_lt (w := 0) (by decide +kernel)).trans (decide_eq_true (by omega))) rfl ?_
  refine s_thrz (q := N) rfl (k6.leq HL) rfl ?_
  refine K_c (hp := 12) (Nat.blt_eq.mpr (by omega)) (mj_ocl_is (rd_nw (Nat.blt_eq.mpr (by omega)) (k6.leq HL))) rfl ?_
  refine s_astn (p' := 13) (ls' := [_, _, _, _]) rfl rfl rfl rfl ?_
  refine s_con (p' := 14) rfl rfl ?_
  refine k_iret rfl rfl ?_
  refine l_ist (p' := 2106) (ls' := [_, _, _, _, _, _, _, _, _, _]) rfl rfl rfl rfl rfl ?_
  refine l_aldn (p' := 2107) rfl rfl rfl rfl ?_
  refine l_alds (p' := 2108) rfl rfl rfl rfl ?_
  refine l_ild (p' := 2110) rfl rfl rfl rfl ?_
  refine l_con (p' := 2111) rfl rfl rfl ?_
  refine l_bz (p' := 2112) (z := (nI (i + 1))) rfl rfl rfl rfl rfl (mI_add _ _) ?_
  refine l_ialz (p' := 2113) (m := (i + 1)) (z := p) rfl rfl (inb_nI (by omega) (by omega)) (mI_cl (by omega)) hx1 rfl ?_
  refine l_call (p' := 2116) (kc := 99) (ls0 := [_, _, _]) rfl rfl rfl rfl rfl rfl (mj_rcv_is (rd_app (k6.1 400 (by simp <;> omega) _ H400))) rfl rfl rfl ?_
  refine s_aldn (p' := 1) rfl rfl rfl ?_
  refine s_callEV (p' := 4) (ls0 := [_, _, _, _, _, _, _, _]) rfl rfl rfl rfl rfl (mj_rcv_is (rd_app (k6.1 400 (by simp <;> omega) _ H400))) rfl (y_mks (len_a (k6.leq HL) rfl) (by omega) (rd_app (k6.1 400 (by simp <;> omega) _ H400)) (rd_app (k6.1 410 (by simp <;> omega) _ H410)) (rdA_app (k6.1.A (by simp <;> omega) hEA)) hG2 hg24 hgc hc31) rfl rfl ?_
  rintro _ h2 ⟨B, EB, rfl, kN, kEN, kL, k24, kok, kmo⟩
  have kL0 := kL
  obtain ⟨capB, mcB, efB, kB, _⟩ := kL0
  refine s_astn (p' := 5) (ls' := [_, _, _]) rfl rfl rfl rfl ?_
  refine s_aldn (p' := 6) rfl rfl rfl ?_
  refine s_ildn (p' := 7) rfl rfl rfl ?_
  refine s_con (p' := 8) rfl rfl ?_
  refine s_aldn (p' := 9) rfl rfl rfl ?_
  refine c_call (p' := 14) (kc := 98) (ls0 := [_]) rfl rfl rfl rfl rfl (mj_rcv_is kB) rfl rfl rfl ?_
  refine s_aldn (p' := 1) rfl rfl rfl ?_
  refine s_gf (p' := 4) rfl kB rfl rfl ?_
  refine c_iret rfl rfl ?_
  refine s_con (p' := 15) rfl rfl ?_
  refine s_bz (p' := 16) (z := (nI 4294967295)) rfl rfl rfl (by rw [h0]; decide +kernel) ?_
  refine c_call (p' := 19) (kc := 98) (ls0 := [_, _, _]) rfl rfl rfl rfl rfl rfl rfl rfl rfl ?_
  refine s_ildn (p' := 1) rfl rfl rfl ?_
  refine s_ildn (p' := 2) rfl rfl rfl ?_
  refine s_icmp (p' := 14) true rfl ((ch_gt (w := 0) (by decide +kernel)).trans (decide_eq_true (by omega))) rfl ?_
  refine s_con (p' := 15) rfl rfl ?_
  refine c_iret rfl (by decide +kernel) ?_
  refine s_if (p' := 26) true rfl (by decide +kernel) rfl ?_
  refine s_con (p' := 27) rfl rfl ?_
  refine c_call (p' := 30) (kc := 98) (ls0 := [_, _]) rfl rfl rfl rfl rfl (mj_rcv_is (kmo.1 400 (by simp <;> omega) _ (rd_app (k6.1 400 (by simp <;> omega) _ H400)))) rfl rfl rfl ?_
  refine s_aldn (p' := 1) rfl rfl rfl ?_
  refine s_ildn (p' := 2) rfl rfl rfl ?_
  refine s_pfz (p' := 5) (fs' := [_, _, _, _, _, _, _, _, _, _, _]) rfl rfl (kmo.1 400 (by simp <;> omega) _ (rd_app (k6.1 400 (by simp <;> omega) _ H400))) rfl rfl rfl rfl ?_
  refine s_ildn (p' := 6) rfl rfl rfl ?_
  refine s_if (p' := 9) false rfl (by decide +kernel) rfl ?_
  refine s_con (p' := 10) rfl rfl ?_
  refine s_goto (p' := 14) rfl rfl ?_
  refine c_iret rfl (by decide +kernel) ?_
  refine s_if (p' := 33) false rfl (by decide +kernel) rfl ?_
  refine s_con (p' := 34) rfl rfl ?_
  refine s_goto (p' := 50) rfl rfl ?_
  refine k_iret rfl rfl ?_
  refine l_ist (p' := 2118) (ls' := [_, _, _, _, _, _, _, _, _, _]) rfl rfl rfl rfl rfl ?_
  refine l_aldn (p' := 2119) rfl rfl rfl rfl ?_
  refine l_call (p' := 2122) (kc := 99) (ls0 := [_]) rfl rfl rfl rfl rfl rfl (mj_rcv_is (rd_ss rfl (kmo.1 400 (by simp <;> omega) _ (rd_app (k6.1 400 (by simp <;> omega) _ H400))))) rfl rfl rfl ?_
  refine s_aldn (p' := 1) rfl rfl rfl ?_
  refine s_gf (p' := 4) rfl (rd_ss rfl (kmo.1 400 (by simp <;> omega) _ (rd_app (k6.1 400 (by simp <;> omega) _ H400)))) rfl rfl ?_
  refine k_iret rfl rfl ?_
  refine l_ild (p' := 2124) rfl rfl rfl rfl ?_
  refine l_icmp (p' := 2129) true rfl rfl (by decide +kernel) rfl ?_
  refine l_ild (p' := 2131) rfl rfl rfl rfl ?_
  refine l_if (p' := 2146) true rfl rfl (by decide +kernel) rfl ?_
  refine l_goto (p' := 2541) rfl rfl rfl ?_
  refine l_incz (p' := 2544) (w := (nI (i + 4))) (ls' := [_, _, _, _, _, _, _, _, _, _]) rfl rfl rfl rfl (mI_add _ _) rfl rfl ?_
  refine l_goto (p' := 28) rfl rfl rfl ?_
  exact hn _ _ _ _ _ ⟨(rd_ss rfl (kmo.1 400 (by simp <;> omega) _ (rd_app (k6.1 400 (by simp <;> omega) _ H400)))), ⟨of1, df1, (rd_sn rfl (kmo.1 393 (by simp <;> omega) _ (rd_app k1))), (rd_sn rfl (kmo.1 395 (by simp <;> omega) _ (rd_app k2))), (rd_sn rfl (kmo.1 396 (by simp <;> omega) _ (rd_app k3)))⟩, (mz_fr.s (by decide) ((mz_fr.a ((mz_fr.rf _ h).tr2 k6.1 (fun y hy => Or.inl (by simp at hy ⊢ <;> omega)))).tr2 kmo.1 (fun y hy => Or.inl (by simp at hy ⊢ <;> omega)))), (Nat.le_trans (lenb_s (kmo.len (Nat.le_of_eq (len_a (k6.leq HL) rfl)) rfl)) (by omega)), (Nat.le_trans (sz_s rfl (kmo.1 400 (by simp <;> omega) _ (rd_app (k6.1 400 (by simp <;> omega) _ H400))) rfl (kmo.sz (K := 1500) (sz_aa (k := 6) (m := mj_sz h + 6) rfl (by omega) (k6.sz (K := 0) (Nat.le_refl (mj_sz h)) (by omega) rfl)) (by omega) rfl)) (by omega))⟩
theorem w_37_m {L i N : Nat} {xs : Nat → Int32} {h : mj_H} {l6 l7 l8 l9 : Option Value} {P : mj_H → Prop} (hL : L ≤ 2048) (hi : i + 4 ≤ L) (hN : N + 2000 < mj_CB) (hN0 : 414 ≤ N) (HL : h.length = N) (hk : xs i &&& nI 63 = nI 37) {gs pl ty wa nw nx dp ca mf : Value} {th : Int32} {sd be : Int64} {ou : Nat → Int64} {vf wf sf uf im jm : Nat → Int32} {k g : Nat} (hk20 : k ≤ 20) (hvw : ∀ j, j < 8 → wf j = vf j) (hsu : ∀ j, j < k → uf j = sf j) (him : ∀ j, j < 8 → jm j = im j) {pe pm ge gm : Value} {q : Nat} (hq6 : q ≤ 6) (hg24 : g ≤ 24) {rf : Nat → Int32} {E cap : Nat} {mc : Int32} {ef : Nat → Option Nat} {G : Nat → Nat} (hG1 : ∀ j, j < g → rf j = nI (G j) ∧ G j < 24) (hE0 : 414 ≤ E) (hEN : E < N ∨ E = 1000000) (hEA : mj_rdA h E = some (6, (cap, objs ef))) (hG2 : ∀ j, j < g → ef j = some (1000138 + G j) ∧ G j < 24) (hgc : g ≤ cap) (hc31 : cap < 1000) (hE3 : E < mj_CB ∧ 0 < cap ∨ E = 1000000 ∧ cap = 0) {oof dmf : Nat → Int32} {v : Nat} (hv0 : v < 2147483648) (hv : (mkG G g).2.2 ≤ v) (h0 : 0 < (mkG G g).2.2) (hx1 : xs (i + 1) = nI v) (H0 : mj_rd h 0 = some (.inr (0, [.ref 1, .ref 38, .ref 299, .ref 336, .ref 373, .ref 375, .ref 378, .ref 381, .ref 387, .ref 393, gs, pl, .ref 397, .ref 398, .ref 399, .long sd, .long be]))) (H393 : mj_rd h 393 = some (.inr (9, [.ref 394, .ref 395, .ref 396, .int (nI g), mf]))) (H394 : mj_rd h 394 = some (.inl (0, (24, .inl (rf))))) (H395 : mj_rd h 395 = some (.inl (0, (8, .inl (oof))))) (H396 : mj_rd h 396 = some (.inl (0, (24, .inl (dmf))))) (H400 : mj_rd h 400 = some (.inr (17, [.int th, .ref 401, .ref 402, ty, .long sd, .long be, .ref 410, wa, nw, nx, .ref 411]))) (H410 : mj_rd h 410 = some (.inr (18, [.ref E, .int (nI g), .int mc]))) (hn : ∀ (l6 l7 l8 l9 : Option Value) (h' : mj_H), mj_rd h' 400 = some (.inr (17, [.int (nI 1), .ref 401, .ref 402, ty, .long sd, .long be, .ref 410, wa, nw, nx, .ref 411])) ∧ (∃ of1 df1 : Nat → Int32, mj_rd h' 393 = some (.inr (9, [.ref 394, .ref 395, .ref 396, .int (nI g), .int (nI (mkG G g).2.2)])) ∧ mj_rd h' 395 = some (.inl (0, (8, .inl of1))) ∧ mj_rd h' 396 = some (.inl (0, (24, .inl df1)))) ∧ mz_fr [393, 395, 396, 400] h h' ∧ h'.length ≤ N + 37 ∧ mj_sz h' ≤ mj_sz h + 1506 → mj_lrun L xs (28, [some (.retAddr 1), some (.ref 0), some (.ref 400), some (.ref 412), some (.ref 413), some (.int (nI (i + 4))), l6, l7, l8, l9], [], h') P) : mj_lrun L xs (28, [some (.retAddr 1), some (.ref 0), some (.ref 400), some (.ref 412), some (.ref 413), some (.int (nI i)), l6, l7, l8, l9], [], h) P := by
  have hmk := mkG_ok (G := G) (n := g) (fun j hj => (hG1 j hj).2)
  refine l_ild (p' := 30) rfl rfl rfl rfl ?_
  refine l_alds (p' := 31) rfl rfl rfl rfl ?_
  refine l_lens (p' := 32) rfl rfl rfl ?_
  refine l_con (p' := 33) rfl rfl rfl ?_
  refine l_bz (p' := 34) (z := (nI (L - 4))) rfl rfl rfl rfl rfl (mI_sub (by omega)) ?_
  refine l_icmp (p' := 37) false rfl rfl ((ci_gt (by omega) (by omega)).trans (decide_eq_false (by omega))) rfl ?_
  refine l_alds (p' := 38) rfl rfl rfl rfl ?_
  refine l_ild (p' := 40) rfl rfl rfl rfl ?_
  refine l_ialz (p' := 41) (m := i) (z := (xs i)) rfl rfl (inb_nI (by omega) (by omega)) (mI_cl (by omega)) rfl rfl ?_
  refine l_bip (p' := 43) rfl rfl rfl ?_
  refine l_bz (p' := 44) (z := (nI 37)) rfl rfl rfl rfl rfl hk ?_
  refine l_sp (p' := 2093) (ls' := _) rfl rfl rfl rfl rfl ?_
  refine l_aldn (p' := 2094) rfl rfl rfl rfl ?_
  refine l_alds (p' := 2095) rfl rfl rfl rfl ?_
  refine l_ild (p' := 2097) rfl rfl rfl rfl ?_
  refine l_con (p' := 2098) rfl rfl rfl ?_
  refine l_bz (p' := 2099) (z := (nI (i + 1))) rfl rfl rfl rfl rfl (mI_add _ _) ?_
  refine l_ialz (p' := 2100) (m := (i + 1)) (z := (nI v)) rfl rfl (inb_nI (by omega) (by omega)) (mI_cl (by omega)) hx1 rfl ?_
  refine l_aldn (p' := 2101) rfl rfl rfl rfl ?_
  refine l_call (p' := 2104) (kc := 99) (ls0 := [_, _, _, _]) rfl rfl rfl rfl rfl rfl rfl rfl rfl rfl ?_
  refine s_aldn (p' := 1) rfl rfl rfl ?_
  refine s_con (p' := 2) rfl rfl ?_
  refine s_aldn (p' := 3) rfl rfl rfl ?_
  refine s_ildn (p' := 4) rfl rfl rfl ?_
  refine c_call (p' := 7) (kc := 98) (ls0 := [_, _, _]) rfl rfl rfl rfl rfl (mj_rcv_is H0) rfl rfl rfl ?_
  refine s_aldn (p' := 1) rfl rfl rfl ?_
  refine s_gf (p' := 4) rfl H0 rfl rfl ?_
  refine s_callEV (p' := 7) (ls0 := [_, _, _]) rfl rfl rfl rfl rfl (mj_rcv_is H393) rfl (x_mk (by decide) (by decide) (by decide) (by decide) (by decide) H393 H394 H395 H396 hG1 hg24) rfl rfl ?_
  rintro _ h1 ⟨rfl, ⟨of1, df1, k1, k2, k3, k4, k5⟩, k6⟩
  refine s_istn (p' := 8) (ls' := [_, _, _]) rfl rfl rfl rfl ?_
  refine s_ildn (p' := 9) rfl rfl rfl ?_
  refine s_if (p' := 12) false rfl ((cg_lt (w := 0) (by decide +kernel)).trans (decide_eq_false (by rw [mI_ti (by omega)]; omega))) rfl ?_
  refine s_ildn (p' := 13) rfl rfl rfl ?_
  refine s_ildn (p' := 14) rfl rfl rfl ?_
  refine s_icmp (p' := 17) false rfl ((ci_lt (by omega) (by omega)).trans (decide_eq_false (by omega))) rfl ?_
  refine s_thrz (q := N) rfl (k6.leq HL) rfl ?_
  refine K_c (hp := 12) (Nat.blt_eq.mpr (by omega)) (mj_ocl_is (rd_nw (Nat.blt_eq.mpr (by omega)) (k6.leq HL))) rfl ?_
  refine s_astn (p' := 13) (ls' := [_, _, _, _]) rfl rfl rfl rfl ?_
  refine s_con (p' := 14) rfl rfl ?_
  refine k_iret rfl rfl ?_
  refine l_ist (p' := 2106) (ls' := [_, _, _, _, _, _, _, _, _, _]) rfl rfl rfl rfl rfl ?_
  refine l_aldn (p' := 2107) rfl rfl rfl rfl ?_
  refine l_alds (p' := 2108) rfl rfl rfl rfl ?_
  refine l_ild (p' := 2110) rfl rfl rfl rfl ?_
  refine l_con (p' := 2111) rfl rfl rfl ?_
  refine l_bz (p' := 2112) (z := (nI (i + 1))) rfl rfl rfl rfl rfl (mI_add _ _) ?_
  refine l_ialz (p' := 2113) (m := (i + 1)) (z := (nI v)) rfl rfl (inb_nI (by omega) (by omega)) (mI_cl (by omega)) hx1 rfl ?_
  refine l_call (p' := 2116) (kc := 99) (ls0 := [_, _, _]) rfl rfl rfl rfl rfl rfl (mj_rcv_is (rd_app (k6.1 400 (by simp <;> omega) _ H400))) rfl rfl rfl ?_
  refine s_aldn (p' := 1) rfl rfl rfl ?_
  refine s_callEV (p' := 4) (ls0 := [_, _, _, _, _, _, _, _]) rfl rfl rfl rfl rfl (mj_rcv_is (rd_app (k6.1 400 (by simp <;> omega) _ H400))) rfl (y_mks (len_a (k6.leq HL) rfl) (by omega) (rd_app (k6.1 400 (by simp <;> omega) _ H400)) (rd_app (k6.1 410 (by simp <;> omega) _ H410)) (rdA_app (k6.1.A (by simp <;> omega) hEA)) hG2 hg24 hgc hc31) rfl rfl ?_
  rintro _ h2 ⟨B, EB, rfl, kN, kEN, kL, k24, kok, kmo⟩
  have kL0 := kL
  obtain ⟨capB, mcB, efB, kB, _⟩ := kL0
  refine s_astn (p' := 5) (ls' := [_, _, _]) rfl rfl rfl rfl ?_
  refine s_aldn (p' := 6) rfl rfl rfl ?_
  refine s_ildn (p' := 7) rfl rfl rfl ?_
  refine s_con (p' := 8) rfl rfl ?_
  refine s_aldn (p' := 9) rfl rfl rfl ?_
  refine c_call (p' := 14) (kc := 98) (ls0 := [_]) rfl rfl rfl rfl rfl (mj_rcv_is kB) rfl rfl rfl ?_
  refine s_aldn (p' := 1) rfl rfl rfl ?_
  refine s_gf (p' := 4) rfl kB rfl rfl ?_
  refine c_iret rfl rfl ?_
  refine s_con (p' := 15) rfl rfl ?_
  refine s_bz (p' := 16) (z := (nI ((mkG G g).2.2 - 1))) rfl rfl rfl (mI_sub (by omega)) ?_
  refine c_call (p' := 19) (kc := 98) (ls0 := [_, _, _]) rfl rfl rfl rfl rfl rfl rfl rfl rfl ?_
  refine s_ildn (p' := 1) rfl rfl rfl ?_
  refine s_ildn (p' := 2) rfl rfl rfl ?_
  refine s_icmp (p' := 5) false rfl ((ch_gt (w := 0) (by decide +kernel)).trans (decide_eq_false (by rw [mI_ti (by omega)]; omega))) rfl ?_
  refine s_ildn (p' := 6) rfl rfl rfl ?_
  refine s_ildn (p' := 7) rfl rfl rfl ?_
  refine s_icmp (p' := 14) true rfl ((ci_gt (by omega) (by omega)).trans (decide_eq_true (by omega))) rfl ?_
  refine s_con (p' := 15) rfl rfl ?_
  refine c_iret rfl (by decide +kernel) ?_
  refine s_if (p' := 26) true rfl (by decide +kernel) rfl ?_
  refine s_con (p' := 27) rfl rfl ?_
  refine c_call (p' := 30) (kc := 98) (ls0 := [_, _]) rfl rfl rfl rfl rfl (mj_rcv_is (kmo.1 400 (by simp <;> omega) _ (rd_app (k6.1 400 (by simp <;> omega) _ H400)))) rfl rfl rfl ?_
  refine s_aldn (p' := 1) rfl rfl rfl ?_
  refine s_ildn (p' := 2) rfl rfl rfl ?_
  refine s_pfz (p' := 5) (fs' := [_, _, _, _, _, _, _, _, _, _, _]) rfl rfl (kmo.1 400 (by simp <;> omega) _ (rd_app (k6.1 400 (by simp <;> omega) _ H400))) rfl rfl rfl rfl ?_
  refine s_ildn (p' := 6) rfl rfl rfl ?_
  refine s_if (p' := 9) false rfl (by decide +kernel) rfl ?_
  refine s_con (p' := 10) rfl rfl ?_
  refine s_goto (p' := 14) rfl rfl ?_
  refine c_iret rfl (by decide +kernel) ?_
  refine s_if (p' := 33) false rfl (by decide +kernel) rfl ?_
  refine s_con (p' := 34) rfl rfl ?_
  refine s_goto (p' := 50) rfl rfl ?_
  refine k_iret rfl rfl ?_
  refine l_ist (p' := 2118) (ls' := [_, _, _, _, _, _, _, _, _, _]) rfl rfl rfl rfl rfl ?_
  refine l_aldn (p' := 2119) rfl rfl rfl rfl ?_
  refine l_call (p' := 2122) (kc := 99) (ls0 := [_]) rfl rfl rfl rfl rfl rfl (mj_rcv_is (rd_ss rfl (kmo.1 400 (by simp <;> omega) _ (rd_app (k6.1 400 (by simp <;> omega) _ H400))))) rfl rfl rfl ?_
  refine s_aldn (p' := 1) rfl rfl rfl ?_
  refine s_gf (p' := 4) rfl (rd_ss rfl (kmo.1 400 (by simp <;> omega) _ (rd_app (k6.1 400 (by simp <;> omega) _ H400)))) rfl rfl ?_
  refine k_iret rfl rfl ?_
  refine l_ild (p' := 2124) rfl rfl rfl rfl ?_
  refine l_icmp (p' := 2129) true rfl rfl (by decide +kernel) rfl ?_
  refine l_ild (p' := 2131) rfl rfl rfl rfl ?_
  refine l_if (p' := 2146) true rfl rfl (by decide +kernel) rfl ?_
  refine l_goto (p' := 2541) rfl rfl rfl ?_
  refine l_incz (p' := 2544) (w := (nI (i + 4))) (ls' := [_, _, _, _, _, _, _, _, _, _]) rfl rfl rfl rfl (mI_add _ _) rfl rfl ?_
  refine l_goto (p' := 28) rfl rfl rfl ?_
  exact hn _ _ _ _ _ ⟨(rd_ss rfl (kmo.1 400 (by simp <;> omega) _ (rd_app (k6.1 400 (by simp <;> omega) _ H400)))), ⟨of1, df1, (rd_sn rfl (kmo.1 393 (by simp <;> omega) _ (rd_app k1))), (rd_sn rfl (kmo.1 395 (by simp <;> omega) _ (rd_app k2))), (rd_sn rfl (kmo.1 396 (by simp <;> omega) _ (rd_app k3)))⟩, (mz_fr.s (by decide) ((mz_fr.a ((mz_fr.rf _ h).tr2 k6.1 (fun y hy => Or.inl (by simp at hy ⊢ <;> omega)))).tr2 kmo.1 (fun y hy => Or.inl (by simp at hy ⊢ <;> omega)))), (Nat.le_trans (lenb_s (kmo.len (Nat.le_of_eq (len_a (k6.leq HL) rfl)) rfl)) (by omega)), (Nat.le_trans (sz_s rfl (kmo.1 400 (by simp <;> omega) _ (rd_app (k6.1 400 (by simp <;> omega) _ H400))) rfl (kmo.sz (K := 1500) (sz_aa (k := 6) (m := mj_sz h + 6) rfl (by omega) (k6.sz (K := 0) (Nat.le_refl (mj_sz h)) (by omega) rfl)) (by omega) rfl)) (by omega))⟩
theorem w_37_z {L i N : Nat} {xs : Nat → Int32} {h : mj_H} {l6 l7 l8 l9 : Option Value} {P : mj_H → Prop} (hL : L ≤ 2048) (hi : i + 4 ≤ L) (hN : N + 2000 < mj_CB) (hN0 : 414 ≤ N) (HL : h.length = N) (hk : xs i &&& nI 63 = nI 37) {gs pl ty wa nw nx dp ca mf : Value} {th : Int32} {sd be : Int64} {ou : Nat → Int64} {vf wf sf uf im jm : Nat → Int32} {k g : Nat} (hk20 : k ≤ 20) (hvw : ∀ j, j < 8 → wf j = vf j) (hsu : ∀ j, j < k → uf j = sf j) (him : ∀ j, j < 8 → jm j = im j) {pe pm ge gm : Value} {q : Nat} (hq6 : q ≤ 6) (hg24 : g ≤ 24) {rf : Nat → Int32} {E cap : Nat} {mc : Int32} {ef : Nat → Option Nat} {G : Nat → Nat} (hG1 : ∀ j, j < g → rf j = nI (G j) ∧ G j < 24) (hE0 : 414 ≤ E) (hEN : E < N ∨ E = 1000000) (hEA : mj_rdA h E = some (6, (cap, objs ef))) (hG2 : ∀ j, j < g → ef j = some (1000138 + G j) ∧ G j < 24) (hgc : g ≤ cap) (hc31 : cap < 1000) (hE3 : E < mj_CB ∧ 0 < cap ∨ E = 1000000 ∧ cap = 0) {oof dmf : Nat → Int32} {v : Nat} (hv0 : v < 2147483648) (h0 : (mkG G g).2.2 = 0) (hx1 : xs (i + 1) = nI v) (H0 : mj_rd h 0 = some (.inr (0, [.ref 1, .ref 38, .ref 299, .ref 336, .ref 373, .ref 375, .ref 378, .ref 381, .ref 387, .ref 393, gs, pl, .ref 397, .ref 398, .ref 399, .long sd, .long be]))) (H393 : mj_rd h 393 = some (.inr (9, [.ref 394, .ref 395, .ref 396, .int (nI g), mf]))) (H394 : mj_rd h 394 = some (.inl (0, (24, .inl (rf))))) (H395 : mj_rd h 395 = some (.inl (0, (8, .inl (oof))))) (H396 : mj_rd h 396 = some (.inl (0, (24, .inl (dmf))))) (H400 : mj_rd h 400 = some (.inr (17, [.int th, .ref 401, .ref 402, ty, .long sd, .long be, .ref 410, wa, nw, nx, .ref 411]))) (H410 : mj_rd h 410 = some (.inr (18, [.ref E, .int (nI g), .int mc]))) (hn : ∀ (l6 l7 l8 l9 : Option Value) (h' : mj_H), mj_rd h' 400 = some (.inr (17, [.int (nI 1), .ref 401, .ref 402, ty, .long sd, .long be, .ref 410, wa, nw, nx, .ref 411])) ∧ (∃ of1 df1 : Nat → Int32, mj_rd h' 393 = some (.inr (9, [.ref 394, .ref 395, .ref 396, .int (nI g), .int (nI (mkG G g).2.2)])) ∧ mj_rd h' 395 = some (.inl (0, (8, .inl of1))) ∧ mj_rd h' 396 = some (.inl (0, (24, .inl df1)))) ∧ mz_fr [393, 395, 396, 400] h h' ∧ h'.length ≤ N + 37 ∧ mj_sz h' ≤ mj_sz h + 1506 → mj_lrun L xs (28, [some (.retAddr 1), some (.ref 0), some (.ref 400), some (.ref 412), some (.ref 413), some (.int (nI (i + 4))), l6, l7, l8, l9], [], h') P) : mj_lrun L xs (28, [some (.retAddr 1), some (.ref 0), some (.ref 400), some (.ref 412), some (.ref 413), some (.int (nI i)), l6, l7, l8, l9], [], h) P := by
  have hmk := mkG_ok (G := G) (n := g) (fun j hj => (hG1 j hj).2)
  refine l_ild (p' := 30) rfl rfl rfl rfl ?_
  refine l_alds (p' := 31) rfl rfl rfl rfl ?_
  refine l_lens (p' := 32) rfl rfl rfl ?_
  refine l_con (p' := 33) rfl rfl rfl ?_
  refine l_bz (p' := 34) (z := (nI (L - 4))) rfl rfl rfl rfl rfl (mI_sub (by omega)) ?_
  refine l_icmp (p' := 37) false rfl rfl ((ci_gt (by omega) (by omega)).trans (decide_eq_false (by omega))) rfl ?_
  refine l_alds (p' := 38) rfl rfl rfl rfl ?_
  refine l_ild (p' := 40) rfl rfl rfl rfl ?_
  refine l_ialz (p' := 41) (m := i) (z := (xs i)) rfl rfl (inb_nI (by omega) (by omega)) (mI_cl (by omega)) rfl rfl ?_
  refine l_bip (p' := 43) rfl rfl rfl ?_
  refine l_bz (p' := 44) (z := (nI 37)) rfl rfl rfl rfl rfl hk ?_
  refine l_sp (p' := 2093) (ls' := _) rfl rfl rfl rfl rfl ?_
  refine l_aldn (p' := 2094) rfl rfl rfl rfl ?_
  refine l_alds (p' := 2095) rfl rfl rfl rfl ?_
  refine l_ild (p' := 2097) rfl rfl rfl rfl ?_
  refine l_con (p' := 2098) rfl rfl rfl ?_
  refine l_bz (p' := 2099) (z := (nI (i + 1))) rfl rfl rfl rfl rfl (mI_add _ _) ?_
  refine l_ialz (p' := 2100) (m := (i + 1)) (z := (nI v)) rfl rfl (inb_nI (by omega) (by omega)) (mI_cl (by omega)) hx1 rfl ?_
  refine l_aldn (p' := 2101) rfl rfl rfl rfl ?_
  refine l_call (p' := 2104) (kc := 99) (ls0 := [_, _, _, _]) rfl rfl rfl rfl rfl rfl rfl rfl rfl rfl ?_
  refine s_aldn (p' := 1) rfl rfl rfl ?_
  refine s_con (p' := 2) rfl rfl ?_
  refine s_aldn (p' := 3) rfl rfl rfl ?_
  refine s_ildn (p' := 4) rfl rfl rfl ?_
  refine c_call (p' := 7) (kc := 98) (ls0 := [_, _, _]) rfl rfl rfl rfl rfl (mj_rcv_is H0) rfl rfl rfl ?_
  refine s_aldn (p' := 1) rfl rfl rfl ?_
  refine s_gf (p' := 4) rfl H0 rfl rfl ?_
  refine s_callEV (p' := 7) (ls0 := [_, _, _]) rfl rfl rfl rfl rfl (mj_rcv_is H393) rfl (x_mk (by decide) (by decide) (by decide) (by decide) (by decide) H393 H394 H395 H396 hG1 hg24) rfl rfl ?_
  rintro _ h1 ⟨rfl, ⟨of1, df1, k1, k2, k3, k4, k5⟩, k6⟩
  refine s_istn (p' := 8) (ls' := [_, _, _]) rfl rfl rfl rfl ?_
  refine s_ildn (p' := 9) rfl rfl rfl ?_
  refine s_if (p' := 12) false rfl ((cg_lt (w := 0) (by decide +kernel)).trans (decide_eq_false (by rw [mI_ti (by omega)]; omega))) rfl ?_
  refine s_ildn (p' := 13) rfl rfl rfl ?_
  refine s_ildn (p' := 14) rfl rfl rfl ?_
  refine s_icmp (p' := 17) false rfl ((ci_lt (by omega) (by omega)).trans (decide_eq_false (by omega))) rfl ?_
  refine s_thrz (q := N) rfl (k6.leq HL) rfl ?_
  refine K_c (hp := 12) (Nat.blt_eq.mpr (by omega)) (mj_ocl_is (rd_nw (Nat.blt_eq.mpr (by omega)) (k6.leq HL))) rfl ?_
  refine s_astn (p' := 13) (ls' := [_, _, _, _]) rfl rfl rfl rfl ?_
  refine s_con (p' := 14) rfl rfl ?_
  refine k_iret rfl rfl ?_
  refine l_ist (p' := 2106) (ls' := [_, _, _, _, _, _, _, _, _, _]) rfl rfl rfl rfl rfl ?_
  refine l_aldn (p' := 2107) rfl rfl rfl rfl ?_
  refine l_alds (p' := 2108) rfl rfl rfl rfl ?_
  refine l_ild (p' := 2110) rfl rfl rfl rfl ?_
  refine l_con (p' := 2111) rfl rfl rfl ?_
  refine l_bz (p' := 2112) (z := (nI (i + 1))) rfl rfl rfl rfl rfl (mI_add _ _) ?_
  refine l_ialz (p' := 2113) (m := (i + 1)) (z := (nI v)) rfl rfl (inb_nI (by omega) (by omega)) (mI_cl (by omega)) hx1 rfl ?_
  refine l_call (p' := 2116) (kc := 99) (ls0 := [_, _, _]) rfl rfl rfl rfl rfl rfl (mj_rcv_is (rd_app (k6.1 400 (by simp <;> omega) _ H400))) rfl rfl rfl ?_
  refine s_aldn (p' := 1) rfl rfl rfl ?_
  refine s_callEV (p' := 4) (ls0 := [_, _, _, _, _, _, _, _]) rfl rfl rfl rfl rfl (mj_rcv_is (rd_app (k6.1 400 (by simp <;> omega) _ H400))) rfl (y_mks (len_a (k6.leq HL) rfl) (by omega) (rd_app (k6.1 400 (by simp <;> omega) _ H400)) (rd_app (k6.1 410 (by simp <;> omega) _ H410)) (rdA_app (k6.1.A (by simp <;> omega) hEA)) hG2 hg24 hgc hc31) rfl rfl ?_
  rintro _ h2 ⟨B, EB, rfl, kN, kEN, kL, k24, kok, kmo⟩
  have kL0 := kL
  obtain ⟨capB, mcB, efB, kB, _⟩ := kL0
  refine s_astn (p' := 5) (ls' := [_, _, _]) rfl rfl rfl rfl ?_
  refine s_aldn (p' := 6) rfl rfl rfl ?_
  refine s_ildn (p' := 7) rfl rfl rfl ?_
  refine s_con (p' := 8) rfl rfl ?_
  refine s_aldn (p' := 9) rfl rfl rfl ?_
  refine c_call (p' := 14) (kc := 98) (ls0 := [_]) rfl rfl rfl rfl rfl (mj_rcv_is kB) rfl rfl rfl ?_
  refine s_aldn (p' := 1) rfl rfl rfl ?_
  refine s_gf (p' := 4) rfl kB rfl rfl ?_
  refine c_iret rfl rfl ?_
  refine s_con (p' := 15) rfl rfl ?_
  refine s_bz (p' := 16) (z := (nI 4294967295)) rfl rfl rfl (by rw [h0]; decide +kernel) ?_
  refine c_call (p' := 19) (kc := 98) (ls0 := [_, _, _]) rfl rfl rfl rfl rfl rfl rfl rfl rfl ?_
  refine s_ildn (p' := 1) rfl rfl rfl ?_
  refine s_ildn (p' := 2) rfl rfl rfl ?_
  refine s_icmp (p' := 5) false rfl ((ch_gt (w := 0) (by decide +kernel)).trans (decide_eq_false (by rw [mI_ti (by omega)]; omega))) rfl ?_
  refine s_ildn (p' := 6) rfl rfl rfl ?_
  refine s_ildn (p' := 7) rfl rfl rfl ?_
  refine s_icmp (p' := 14) true rfl ((cg_gt (w := -1) (by decide +kernel)).trans (decide_eq_true (by rw [mI_ti (by omega)]; omega))) rfl ?_
  refine s_con (p' := 15) rfl rfl ?_
  refine c_iret rfl (by decide +kernel) ?_
  refine s_if (p' := 26) true rfl (by decide +kernel) rfl ?_
  refine s_con (p' := 27) rfl rfl ?_
  refine c_call (p' := 30) (kc := 98) (ls0 := [_, _]) rfl rfl rfl rfl rfl (mj_rcv_is (kmo.1 400 (by simp <;> omega) _ (rd_app (k6.1 400 (by simp <;> omega) _ H400)))) rfl rfl rfl ?_
  refine s_aldn (p' := 1) rfl rfl rfl ?_
  refine s_ildn (p' := 2) rfl rfl rfl ?_
  refine s_pfz (p' := 5) (fs' := [_, _, _, _, _, _, _, _, _, _, _]) rfl rfl (kmo.1 400 (by simp <;> omega) _ (rd_app (k6.1 400 (by simp <;> omega) _ H400))) rfl rfl rfl rfl ?_
  refine s_ildn (p' := 6) rfl rfl rfl ?_
  refine s_if (p' := 9) false rfl (by decide +kernel) rfl ?_
  refine s_con (p' := 10) rfl rfl ?_
  refine s_goto (p' := 14) rfl rfl ?_
  refine c_iret rfl (by decide +kernel) ?_
  refine s_if (p' := 33) false rfl (by decide +kernel) rfl ?_
  refine s_con (p' := 34) rfl rfl ?_
  refine s_goto (p' := 50) rfl rfl ?_
  refine k_iret rfl rfl ?_
  refine l_ist (p' := 2118) (ls' := [_, _, _, _, _, _, _, _, _, _]) rfl rfl rfl rfl rfl ?_
  refine l_aldn (p' := 2119) rfl rfl rfl rfl ?_
  refine l_call (p' := 2122) (kc := 99) (ls0 := [_]) rfl rfl rfl rfl rfl rfl (mj_rcv_is (rd_ss rfl (kmo.1 400 (by simp <;> omega) _ (rd_app (k6.1 400 (by simp <;> omega) _ H400))))) rfl rfl rfl ?_
  refine s_aldn (p' := 1) rfl rfl rfl ?_
  refine s_gf (p' := 4) rfl (rd_ss rfl (kmo.1 400 (by simp <;> omega) _ (rd_app (k6.1 400 (by simp <;> omega) _ H400)))) rfl rfl ?_
  refine k_iret rfl rfl ?_
  refine l_ild (p' := 2124) rfl rfl rfl rfl ?_
  refine l_icmp (p' := 2129) true rfl rfl (by decide +kernel) rfl ?_
  refine l_ild (p' := 2131) rfl rfl rfl rfl ?_
  refine l_if (p' := 2146) true rfl rfl (by decide +kernel) rfl ?_
  refine l_goto (p' := 2541) rfl rfl rfl ?_
  refine l_incz (p' := 2544) (w := (nI (i + 4))) (ls' := [_, _, _, _, _, _, _, _, _, _]) rfl rfl rfl rfl (mI_add _ _) rfl rfl ?_
  refine l_goto (p' := 28) rfl rfl rfl ?_
  exact hn _ _ _ _ _ ⟨(rd_ss rfl (kmo.1 400 (by simp <;> omega) _ (rd_app (k6.1 400 (by simp <;> omega) _ H400)))), ⟨of1, df1, (rd_sn rfl (kmo.1 393 (by simp <;> omega) _ (rd_app k1))), (rd_sn rfl (kmo.1 395 (by simp <;> omega) _ (rd_app k2))), (rd_sn rfl (kmo.1 396 (by simp <;> omega) _ (rd_app k3)))⟩, (mz_fr.s (by decide) ((mz_fr.a ((mz_fr.rf _ h).tr2 k6.1 (fun y hy => Or.inl (by simp at hy ⊢ <;> omega)))).tr2 kmo.1 (fun y hy => Or.inl (by simp at hy ⊢ <;> omega)))), (Nat.le_trans (lenb_s (kmo.len (Nat.le_of_eq (len_a (k6.leq HL) rfl)) rfl)) (by omega)), (Nat.le_trans (sz_s rfl (kmo.1 400 (by simp <;> omega) _ (rd_app (k6.1 400 (by simp <;> omega) _ H400))) rfl (kmo.sz (K := 1500) (sz_aa (k := 6) (m := mj_sz h + 6) rfl (by omega) (k6.sz (K := 0) (Nat.le_refl (mj_sz h)) (by omega) rfl)) (by omega) rfl)) (by omega))⟩
