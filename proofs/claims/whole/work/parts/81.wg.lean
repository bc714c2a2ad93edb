/-! Rounds on any state: garbage, forgotten. -/
theorem w_42 {L i N : Nat} {xs : Nat → Int32} {h : mj_H} {l6 l7 l8 l9 : Option Value} {P : mj_H → Prop} (hL : L ≤ 2048) (hi : i + 4 ≤ L) (hN : N + 2000 < mj_CB) (hN0 : 414 ≤ N) (HL : h.length = N) (hk : xs i &&& nI 63 = nI 42) {gs pl ty wa nw nx dp ca mf : Value} {th : Int32} {sd be : Int64} {ou : Nat → Int64} {vf wf sf uf im jm : Nat → Int32} {k g : Nat} (hk20 : k ≤ 20) (hvw : ∀ j, j < 8 → wf j = vf j) (hsu : ∀ j, j < k → uf j = sf j) {pe pm ge gm : Value} {q : Nat} (hq6 : q ≤ 6) (hg24 : g ≤ 24) {ta : Nat → Int32} {IM : Nat → Nat} (hIM : ∀ j, j < 8 → im j = nI (IM j) ∧ IM j < 8) (hJM : ∀ j, j < 8 → jm j = nI (IM j) ∧ IM j < 8)   (H0 : mj_rd h 0 = some (.inr (0, [.ref 1, .ref 38, .ref 299, .ref 336, .ref 373, .ref 375, .ref 378, .ref 381, .ref 387, .ref 393, gs, pl, .ref 397, .ref 398, .ref 399, .long sd, .long be]))) (H397 : mj_rd h 397 = some (.inl (0, (8, .inl (im))))) (H399 : mj_rd h 399 = some (.inl (0, (8, .inl (ta))))) (H400 : mj_rd h 400 = some (.inr (17, [.int th, .ref 401, .ref 402, ty, .long sd, .long be, .ref 410, wa, nw, nx, .ref 411]))) (H411 : mj_rd h 411 = some (.inl (0, (8, .inl (jm))))) (hn : ∀ (l6 l7 l8 l9 : Option Value) (h' : mj_H), mj_rd h' 400 = some (.inr (17, [.int (nI 0), .ref 401, .ref 402, ty, .long sd, .long be, .ref 410, wa, nw, nx, .ref 411])) ∧ (∃ t, mj_rd h' 399 = some (.inl (0, (8, .inl t)))) ∧ mz_fr [399, 400] h h' ∧ h'.length ≤ N + 0 ∧ mj_sz h' ≤ mj_sz h + 0 → mj_lrun L xs (28, [some (.retAddr 1), some (.ref 0), some (.ref 400), some (.ref 412), some (.ref 413), some (.int (nI (i + 4))), l6, l7, l8, l9], [], h') P) : mj_lrun L xs (28, [some (.retAddr 1), some (.ref 0), some (.ref 400), some (.ref 412), some (.ref 413), some (.int (nI i)), l6, l7, l8, l9], [], h) P := by
  refine l_ild (p' := 30) rfl rfl rfl rfl ?_
  refine l_alds (p' := 31) rfl rfl rfl rfl ?_
  refine l_lens (p' := 32) rfl rfl rfl ?_
  refine l_con (p' := 33) rfl rfl rfl ?_
  refine l_bz (p' := 34) (z := (nI (L - 4))) rfl rfl rfl rfl rfl (mI_sub (by omega)) ?_
  refine l_icmp (p' := 37) false rfl rfl ((ci_gt (by omega) (by omega)).trans (decide_eq_false (by omega))) rfl ?_
  refine l_alds (p' := 38) rfl rfl rfl rfl ?_
  refine l_ild (p' := 40) rfl rfl rfl rfl ?_
  refine l_ialz (p' := 41) (m := i) (z := (xs i)) rfl rfl (inb_nI (by omega) (by omega)) (mI_cl (by omega)) rfl rfl ?_
  refine l_bip (p' := 43) rfl rfl rfl ?_
  refine l_bz (p' := 44) (z := (nI 42)) rfl rfl rfl rfl rfl hk ?_
  refine l_sp (p' := 2256) (ls' := _) rfl rfl rfl rfl rfl ?_
  refine l_aldn (p' := 2257) rfl rfl rfl rfl ?_
  refine l_call (p' := 2260) (kc := 99) (ls0 := [_, _, _]) rfl rfl rfl rfl rfl rfl (mj_rcv_is H0) rfl rfl rfl ?_
  refine s_aldn (p' := 1) rfl rfl rfl ?_
  refine s_callEN (p' := 4) (ls0 := [_, _, _]) rfl rfl rfl rfl rfl (mj_rcv_is H0) rfl (x_cnt (x := 0) (A := 397) (T := 399) (by decide) (by decide) (by decide) hIM H0 H397 H399) rfl rfl ?_
  rintro g1 ⟨t1, ht1, rfl⟩
  refine s_con (p' := 5) rfl rfl ?_
  refine s_istn (p' := 6) (ls' := [_, _, _]) rfl rfl rfl rfl ?_
  refine s_con (p' := 7) rfl rfl ?_
  refine s_istn (p' := 8) (ls' := [_, _, _]) rfl rfl rfl rfl ?_
  refine mj_Wp.mono (k := 5) ?_ (by decide)
  refine x_gaL (x := 0) (T := 399) (c := cti IM 8) (fun v => cti_le IM 8 v) ht1 (rd_sn rfl H0) (rd_ss rfl H399) 8 0 rfl ?_
  refine s_con (p' := 35) rfl rfl ?_
  refine s_istn (p' := 36) (ls' := [_, _, _]) rfl rfl rfl rfl ?_
  refine x_gbL (x := 0) (mxi_le (fun v => cti_le IM 8 v) 8) 3 0 rfl ?_
  refine s_ildn (p' := 55) rfl rfl rfl ?_
  refine k_iret rfl rfl ?_
  refine l_aldn (p' := 2261) rfl rfl rfl rfl ?_
  refine l_call (p' := 2264) (kc := 99) (ls0 := [_, _, _]) rfl rfl rfl rfl rfl rfl (mj_rcv_is (rd_sn rfl H400)) rfl rfl rfl ?_
  refine s_aldn (p' := 1) rfl rfl rfl ?_
  refine s_con (p' := 2) rfl rfl ?_
  refine s_pfz (p' := 5) (fs' := [_, _, _, _, _, _, _, _, _, _, _]) rfl rfl (rd_sn rfl H400) rfl rfl rfl rfl ?_
  refine s_con (p' := 6) rfl rfl ?_
  refine s_istn (p' := 7) (ls' := [_, _, _]) rfl rfl rfl rfl ?_
  refine s_con (p' := 8) rfl rfl ?_
  refine s_istn (p' := 9) (ls' := [_, _, _]) rfl rfl rfl rfl ?_
  refine mj_Wp.mono (k := 5) ?_ (by decide)
  refine y_gaL (x := 400) (A := 411) hJM (rd_ss rfl (rd_sn rfl H400)) (rd_sn rfl (rd_sn rfl H411)) 8 0 rfl ?_
  rw [rbi_is (fun v => cti_le IM 8 v) 8]
  refine s_ildn (p' := 39) rfl rfl rfl ?_
  refine k_iret rfl rfl ?_
  refine l_icmp (p' := 2541) true rfl rfl (decide_eq_true rfl) rfl ?_
  refine l_incz (p' := 2544) (w := (nI (i + 4))) (ls' := [_, _, _, _, _, _, _, _, _, _]) rfl rfl rfl rfl (mI_add _ _) rfl rfl ?_
  refine l_goto (p' := 28) rfl rfl rfl ?_
  exact hn _ _ _ _ _ ⟨(rd_ss rfl (rd_sn rfl H400)), ⟨t1, (rd_sn rfl (rd_ss rfl H399))⟩, (mz_fr.s (by decide) (mz_fr.s (by decide) (mz_fr.rf _ h))), (Nat.le_trans (Nat.le_of_eq (len_s (len_s HL))) (by omega)), (Nat.le_trans (sz_s rfl (rd_sn rfl H400) rfl (sz_sA rfl H399 (Nat.le_refl (mj_sz h)))) (by omega))⟩
theorem w_43_0 {L i N : Nat} {xs : Nat → Int32} {h : mj_H} {l6 l7 l8 l9 : Option Value} {P : mj_H → Prop} (hL : L ≤ 2048) (hi : i + 4 ≤ L) (hN : N + 2000 < mj_CB) (hN0 : 414 ≤ N) (HL : h.length = N) (hk : xs i &&& nI 63 = nI 43) {gs pl ty wa nw nx dp ca mf : Value} {th : Int32} {sd be : Int64} {ou : Nat → Int64} {vf wf sf uf im jm : Nat → Int32} {k g : Nat} (hk20 : k ≤ 20) (hvw : ∀ j, j < 8 → wf j = vf j) (hsu : ∀ j, j < k → uf j = sf j) {pe pm ge gm : Value} {q : Nat} (hq6 : q ≤ 6) (hg24 : g ≤ 24) {ta : Nat → Int32} {IM : Nat → Nat} (hIM : ∀ j, j < 8 → im j = nI (IM j) ∧ IM j < 8) (hJM : ∀ j, j < 8 → jm j = nI (IM j) ∧ IM j < 8) (hmis : mis (cti IM 8) 8 = 0)  (H0 : mj_rd h 0 = some (.inr (0, [.ref 1, .ref 38, .ref 299, .ref 336, .ref 373, .ref 375, .ref 378, .ref 381, .ref 387, .ref 393, gs, pl, .ref 397, .ref 398, .ref 399, .long sd, .long be]))) (H397 : mj_rd h 397 = some (.inl (0, (8, .inl (im))))) (H399 : mj_rd h 399 = some (.inl (0, (8, .inl (ta))))) (H400 : mj_rd h 400 = some (.inr (17, [.int th, .ref 401, .ref 402, ty, .long sd, .long be, .ref 410, wa, nw, nx, .ref 411]))) (H411 : mj_rd h 411 = some (.inl (0, (8, .inl (jm))))) (hn : ∀ (l6 l7 l8 l9 : Option Value) (h' : mj_H), mj_rd h' 400 = some (.inr (17, [.int (nI 0), .ref 401, .ref 402, ty, .long sd, .long be, .ref 410, wa, nw, nx, .ref 411])) ∧ (∃ t, mj_rd h' 399 = some (.inl (0, (8, .inl t)))) ∧ mz_fr [399, 400] h h' ∧ h'.length ≤ N + 0 ∧ mj_sz h' ≤ mj_sz h + 0 → mj_lrun L xs (28, [some (.retAddr 1), some (.ref 0), some (.ref 400), some (.ref 412), some (.ref 413), some (.int (nI (i + 4))), l6, l7, l8, l9], [], h') P) : mj_lrun L xs (28, [some (.retAddr 1), some (.ref 0), some (.ref 400), some (.ref 412), some (.ref 413), some (.int (nI i)), l6, l7, l8, l9], [], h) P := by
  refine l_ild (p' := 30) rfl rfl rfl rfl ?_
  refine l_alds (p' := 31) rfl rfl rfl rfl ?_
  refine l_lens (p' := 32) rfl rfl rfl ?_
  refine l_con (p' := 33) rfl rfl rfl ?_
  refine l_bz (p' := 34) (z := (nI (L - 4))) rfl rfl rfl rfl rfl (mI_sub (by omega)) ?_
  refine l_icmp (p' := 37) false rfl rfl ((ci_gt (by omega) (by omega)).trans (decide_eq_false (by omega))) rfl ?_
  refine l_alds (p' := 38) rfl rfl rfl rfl ?_
  refine l_ild (p' := 40) rfl rfl rfl rfl ?_
  refine l_ialz (p' := 41) (m := i) (z := (xs i)) rfl rfl (inb_nI (by omega) (by omega)) (mI_cl (by omega)) rfl rfl ?_
  refine l_bip (p' := 43) rfl rfl rfl ?_
  refine l_bz (p' := 44) (z := (nI 43)) rfl rfl rfl rfl rfl hk ?_
  refine l_sp (p' := 2269) (ls' := _) rfl rfl rfl rfl rfl ?_
  refine l_aldn (p' := 2270) rfl rfl rfl rfl ?_
  refine l_call (p' := 2273) (kc := 99) (ls0 := [_, _, _]) rfl rfl rfl rfl rfl rfl (mj_rcv_is H0) rfl rfl rfl ?_
  refine s_aldn (p' := 1) rfl rfl rfl ?_
  refine s_callEN (p' := 4) (ls0 := [_, _, _]) rfl rfl rfl rfl rfl (mj_rcv_is H0) rfl (x_cnt (x := 0) (A := 397) (T := 399) (by decide) (by decide) (by decide) hIM H0 H397 H399) rfl rfl ?_
  rintro g1 ⟨t1, ht1, rfl⟩
  refine s_con (p' := 5) rfl rfl ?_
  refine s_istn (p' := 6) (ls' := [_, _, _]) rfl rfl rfl rfl ?_
  refine s_con (p' := 7) rfl rfl ?_
  refine s_istn (p' := 8) (ls' := [_, _, _]) rfl rfl rfl rfl ?_
  refine mj_Wp.mono (k := 5) ?_ (by decide)
  refine x_foL (x := 0) (T := 399) (c := cti IM 8) (fun v => cti_le IM 8 v) ht1 (rd_sn rfl H0) (rd_ss rfl H399) 8 0 rfl ?_
  rw [hmis]
  refine s_ildn (p' := 36) rfl rfl rfl ?_
  refine s_bzF (p' := 37) (z := (UInt32.ofNat 0)) rfl rfl rfl (by decide +kernel) ?_
  refine s_sh (p' := 40) (ls' := _) (st' := .float (UInt32.ofNat 1090519040) :: _) (h' := _) rfl rfl rfl rfl ?_
  refine s_fdivz (p' := 41) (z := (UInt32.ofNat 0)) rfl (by decide +kernel) (by decide +kernel) rfl ?_
  refine k_fret rfl ?_
  refine l_f2dz (p' := 2274) (z := (UInt64.ofNat 0)) rfl rfl (by decide +kernel) (by decide +kernel) rfl ?_
  refine l_sp (p' := 2276) (ls' := [_, _, _, _, _, _, _, _, _, _]) rfl rfl rfl rfl rfl ?_
  refine l_aldn (p' := 2277) rfl rfl rfl rfl ?_
  refine l_call (p' := 2280) (kc := 99) (ls0 := [_, _, _]) rfl rfl rfl rfl rfl rfl (mj_rcv_is (rd_sn rfl H400)) rfl rfl rfl ?_
  refine s_aldn (p' := 1) rfl rfl rfl ?_
  refine s_con (p' := 2) rfl rfl ?_
  refine s_pfz (p' := 5) (fs' := [_, _, _, _, _, _, _, _, _, _, _]) rfl rfl (rd_sn rfl H400) rfl rfl rfl rfl ?_
  refine s_con (p' := 6) rfl rfl ?_
  refine s_istn (p' := 7) (ls' := [_, _, _]) rfl rfl rfl rfl ?_
  refine s_con (p' := 8) rfl rfl ?_
  refine s_istn (p' := 9) (ls' := [_, _, _]) rfl rfl rfl rfl ?_
  refine mj_Wp.mono (k := 5) ?_ (by decide)
  refine y_foL (x := 400) (A := 411) hJM (rd_ss rfl (rd_sn rfl H400)) (rd_sn rfl (rd_sn rfl H411)) 8 0 rfl ?_
  rw [hmis]
  refine s_ildn (p' := 38) rfl rfl rfl ?_
  refine s_bzF (p' := 39) (z := (UInt32.ofNat 0)) rfl rfl rfl (by decide +kernel) ?_
  refine s_sh (p' := 42) (ls' := _) (st' := .float (UInt32.ofNat 1090519040) :: _) (h' := _) rfl rfl rfl rfl ?_
  refine s_fdivz (p' := 43) (z := (UInt32.ofNat 0)) rfl (by decide +kernel) (by decide +kernel) rfl ?_
  refine k_fret rfl ?_
  refine l_f2dz (p' := 2281) (z := (UInt64.ofNat 0)) rfl rfl (by decide +kernel) (by decide +kernel) rfl ?_
  refine l_sp (p' := 2283) (ls' := [_, _, _, _, _, _, _, _, _, _]) rfl rfl rfl rfl rfl ?_
  refine l_sp (p' := 2285) (ls' := _) rfl rfl rfl rfl rfl ?_
  refine l_sp (p' := 2287) (ls' := _) rfl rfl rfl rfl rfl ?_
  refine l_bz (p' := 2288) (z := (nI 0)) rfl rfl rfl rfl rfl (by decide +kernel) ?_
  refine l_if (p' := 2309) true rfl rfl (by decide +kernel) rfl ?_
  refine l_goto (p' := 2541) rfl rfl rfl ?_
  refine l_incz (p' := 2544) (w := (nI (i + 4))) (ls' := [_, _, _, _, _, _, _, _, _, _]) rfl rfl rfl rfl (mI_add _ _) rfl rfl ?_
  refine l_goto (p' := 28) rfl rfl rfl ?_
  exact hn _ _ _ _ _ ⟨(rd_ss rfl (rd_sn rfl H400)), ⟨t1, (rd_sn rfl (rd_ss rfl H399))⟩, (mz_fr.s (by decide) (mz_fr.s (by decide) (mz_fr.rf _ h))), (Nat.le_trans (Nat.le_of_eq (len_s (len_s HL))) (by omega)), (Nat.le_trans (sz_s rfl (rd_sn rfl H400) rfl (sz_sA rfl H399 (Nat.le_refl (mj_sz h)))) (by omega))⟩
theorem w_43_1 {L i N : Nat} {xs : Nat → Int32} {h : mj_H} {l6 l7 l8 l9 : Option Value} {P : mj_H → Prop} (hL : L ≤ 2048) (hi : i + 4 ≤ L) (hN : N + 2000 < mj_CB) (hN0 : 414 ≤ N) (HL : h.length = N) (hk : xs i &&& nI 63 = nI 43) {gs pl ty wa nw nx dp ca mf : Value} {th : Int32} {sd be : Int64} {ou : Nat → Int64} {vf wf sf uf im jm : Nat → Int32} {k g : Nat} (hk20 : k ≤ 20) (hvw : ∀ j, j < 8 → wf j = vf j) (hsu : ∀ j, j < k → uf j = sf j) {pe pm ge gm : Value} {q : Nat} (hq6 : q ≤ 6) (hg24 : g ≤ 24) {ta : Nat → Int32} {IM : Nat → Nat} (hIM : ∀ j, j < 8 → im j = nI (IM j) ∧ IM j < 8) (hJM : ∀ j, j < 8 → jm j = nI (IM j) ∧ IM j < 8) (hmis : mis (cti IM 8) 8 = 1)  (H0 : mj_rd h 0 = some (.inr (0, [.ref 1, .ref 38, .ref 299, .ref 336, .ref 373, .ref 375, .ref 378, .ref 381, .ref 387, .ref 393, gs, pl, .ref 397, .ref 398, .ref 399, .long sd, .long be]))) (H397 : mj_rd h 397 = some (.inl (0, (8, .inl (im))))) (H399 : mj_rd h 399 = some (.inl (0, (8, .inl (ta))))) (H400 : mj_rd h 400 = some (.inr (17, [.int th, .ref 401, .ref 402, ty, .long sd, .long be, .ref 410, wa, nw, nx, .ref 411]))) (H411 : mj_rd h 411 = some (.inl (0, (8, .inl (jm))))) (hn : ∀ (l6 l7 l8 l9 : Option Value) (h' : mj_H), mj_rd h' 400 = some (.inr (17, [.int (nI 0), .ref 401, .ref 402, ty, .long sd, .long be, .ref 410, wa, nw, nx, .ref 411])) ∧ (∃ t, mj_rd h' 399 = some (.inl (0, (8, .inl t)))) ∧ mz_fr [399, 400] h h' ∧ h'.length ≤ N + 0 ∧ mj_sz h' ≤ mj_sz h + 0 → mj_lrun L xs (28, [some (.retAddr 1), some (.ref 0), some (.ref 400), some (.ref 412), some (.ref 413), some (.int (nI (i + 4))), l6, l7, l8, l9], [], h') P) : mj_lrun L xs (28, [some (.retAddr 1), some (.ref 0), some (.ref 400), some (.ref 412), some (.ref 413), some (.int (nI i)), l6, l7, l8, l9], [], h) P := by
  refine l_ild (p' := 30) rfl rfl rfl rfl ?_
  refine l_alds (p' := 31) rfl rfl rfl rfl ?_
  refine l_lens (p' := 32) rfl rfl rfl ?_
  refine l_con (p' := 33) rfl rfl rfl ?_
  refine l_bz (p' := 34) (z := (nI (L - 4))) rfl rfl rfl rfl rfl (mI_sub (by omega)) ?_
  refine l_icmp (p' := 37) false rfl rfl ((ci_gt (by omega) (by omega)).trans (decide_eq_false (by omega))) rfl ?_
  refine l_alds (p' := 38) rfl rfl rfl rfl ?_
  refine l_ild (p' := 40) rfl rfl rfl rfl ?_
  refine l_ialz (p' := 41) (m := i) (z := (xs i)) rfl rfl (inb_nI (by omega) (by omega)) (mI_cl (by omega)) rfl rfl ?_
  refine l_bip (p' := 43) rfl rfl rfl ?_
  refine l_bz (p' := 44) (z := (nI 43)) rfl rfl rfl rfl rfl hk ?_
  refine l_sp (p' := 2269) (ls' := _) rfl rfl rfl rfl rfl ?_
  refine l_aldn (p' := 2270) rfl rfl rfl rfl ?_
  refine l_call (p' := 2273) (kc := 99) (ls0 := [_, _, _]) rfl rfl rfl rfl rfl rfl (mj_rcv_is H0) rfl rfl rfl ?_
  refine s_aldn (p' := 1) rfl rfl rfl ?_
  refine s_callEN (p' := 4) (ls0 := [_, _, _]) rfl rfl rfl rfl rfl (mj_rcv_is H0) rfl (x_cnt (x := 0) (A := 397) (T := 399) (by decide) (by decide) (by decide) hIM H0 H397 H399) rfl rfl ?_
  rintro g1 ⟨t1, ht1, rfl⟩
  refine s_con (p' := 5) rfl rfl ?_
  refine s_istn (p' := 6) (ls' := [_, _, _]) rfl rfl rfl rfl ?_
  refine s_con (p' := 7) rfl rfl ?_
  refine s_istn (p' := 8) (ls' := [_, _, _]) rfl rfl rfl rfl ?_
  refine mj_Wp.mono (k := 5) ?_ (by decide)
  refine x_foL (x := 0) (T := 399) (c := cti IM 8) (fun v => cti_le IM 8 v) ht1 (rd_sn rfl H0) (rd_ss rfl H399) 8 0 rfl ?_
  rw [hmis]
  refine s_ildn (p' := 36) rfl rfl rfl ?_
  refine s_bzF (p' := 37) (z := (UInt32.ofNat 1065353216)) rfl rfl rfl (by decide +kernel) ?_
  refine s_sh (p' := 40) (ls' := _) (st' := .float (UInt32.ofNat 1090519040) :: _) (h' := _) rfl rfl rfl rfl ?_
  refine s_fdivz (p' := 41) (z := (UInt32.ofNat 1040187392)) rfl (by decide +kernel) (by decide +kernel) rfl ?_
  refine k_fret rfl ?_
  refine l_f2dz (p' := 2274) (z := (UInt64.ofNat 4593671619917905920)) rfl rfl (by decide +kernel) (by decide +kernel) rfl ?_
  refine l_sp (p' := 2276) (ls' := [_, _, _, _, _, _, _, _, _, _]) rfl rfl rfl rfl rfl ?_
  refine l_aldn (p' := 2277) rfl rfl rfl rfl ?_
  refine l_call (p' := 2280) (kc := 99) (ls0 := [_, _, _]) rfl rfl rfl rfl rfl rfl (mj_rcv_is (rd_sn rfl H400)) rfl rfl rfl ?_
  refine s_aldn (p' := 1) rfl rfl rfl ?_
  refine s_con (p' := 2) rfl rfl ?_
  refine s_pfz (p' := 5) (fs' := [_, _, _, _, _, _, _, _, _, _, _]) rfl rfl (rd_sn rfl H400) rfl rfl rfl rfl ?_
  refine s_con (p' := 6) rfl rfl ?_
  refine s_istn (p' := 7) (ls' := [_, _, _]) rfl rfl rfl rfl ?_
  refine s_con (p' := 8) rfl rfl ?_
  refine s_istn (p' := 9) (ls' := [_, _, _]) rfl rfl rfl rfl ?_
  refine mj_Wp.mono (k := 5) ?_ (by decide)
  refine y_foL (x := 400) (A := 411) hJM (rd_ss rfl (rd_sn rfl H400)) (rd_sn rfl (rd_sn rfl H411)) 8 0 rfl ?_
  rw [hmis]
  refine s_ildn (p' := 38) rfl rfl rfl ?_
  refine s_bzF (p' := 39) (z := (UInt32.ofNat 1065353216)) rfl rfl rfl (by decide +kernel) ?_
  refine s_sh (p' := 42) (ls' := _) (st' := .float (UInt32.ofNat 1090519040) :: _) (h' := _) rfl rfl rfl rfl ?_
  refine s_fdivz (p' := 43) (z := (UInt32.ofNat 1040187392)) rfl (by decide +kernel) (by decide +kernel) rfl ?_
  refine k_fret rfl ?_
  refine l_f2dz (p' := 2281) (z := (UInt64.ofNat 4593671619917905920)) rfl rfl (by decide +kernel) (by decide +kernel) rfl ?_
  refine l_sp (p' := 2283) (ls' := [_, _, _, _, _, _, _, _, _, _]) rfl rfl rfl rfl rfl ?_
  refine l_sp (p' := 2285) (ls' := _) rfl rfl rfl rfl rfl ?_
  refine l_sp (p' := 2287) (ls' := _) rfl rfl rfl rfl rfl ?_
  refine l_bz (p' := 2288) (z := (nI 0)) rfl rfl rfl rfl rfl (by decide +kernel) ?_
  refine l_if (p' := 2309) true rfl rfl (by decide +kernel) rfl ?_
  refine l_goto (p' := 2541) rfl rfl rfl ?_
  refine l_incz (p' := 2544) (w := (nI (i + 4))) (ls' := [_, _, _, _, _, _, _, _, _, _]) rfl rfl rfl rfl (mI_add _ _) rfl rfl ?_
  refine l_goto (p' := 28) rfl rfl rfl ?_
  exact hn _ _ _ _ _ ⟨(rd_ss rfl (rd_sn rfl H400)), ⟨t1, (rd_sn rfl (rd_ss rfl H399))⟩, (mz_fr.s (by decide) (mz_fr.s (by decide) (mz_fr.rf _ h))), (Nat.le_trans (Nat.le_of_eq (len_s (len_s HL))) (by omega)), (Nat.le_trans (sz_s rfl (rd_sn rfl H400) rfl (sz_sA rfl H399 (Nat.le_refl (mj_sz h)))) (by omega))⟩
theorem w_43_2 {L i N : Nat} {xs : Nat → Int32} {h : mj_H} {l6 l7 l8 l9 : Option Value} {P : mj_H → Prop} (hL : L ≤ 2048) (hi : i + 4 ≤ L) (hN : N + 2000 < mj_CB) (hN0 : 414 ≤ N) (HL : h.length = N) (hk : xs i &&& nI 63 = nI 43) {gs pl ty wa nw nx dp ca mf : Value} {th : Int32} {sd be : Int64} {ou : Nat → Int64} {vf wf sf uf im jm : Nat → Int32} {k g : Nat} (hk20 : k ≤ 20) (hvw : ∀ j, j < 8 → wf j = vf j) (hsu : ∀ j, j < k → uf j = sf j) {pe pm ge gm : Value} {q : Nat} (hq6 : q ≤ 6) (hg24 : g ≤ 24) {ta : Nat → Int32} {IM : Nat → Nat} (hIM : ∀ j, j < 8 → im j = nI (IM j) ∧ IM j < 8) (hJM : ∀ j, j < 8 → jm j = nI (IM j) ∧ IM j < 8) (hmis : mis (cti IM 8) 8 = 2)  (H0 : mj_rd h 0 = some (.inr (0, [.ref 1, .ref 38, .ref 299, .ref 336, .ref 373, .ref 375, .ref 378, .ref 381, .ref 387, .ref 393, gs, pl, .ref 397, .ref 398, .ref 399, .long sd, .long be]))) (H397 : mj_rd h 397 = some (.inl (0, (8, .inl (im))))) (H399 : mj_rd h 399 = some (.inl (0, (8, .inl (ta))))) (H400 : mj_rd h 400 = some (.inr (17, [.int th, .ref 401, .ref 402, ty, .long sd, .long be, .ref 410, wa, nw, nx, .ref 411]))) (H411 : mj_rd h 411 = some (.inl (0, (8, .inl (jm))))) (hn : ∀ (l6 l7 l8 l9 : Option Value) (h' : mj_H), mj_rd h' 400 = some (.inr (17, [.int (nI 0), .ref 401, .ref 402, ty, .long sd, .long be, .ref 410, wa, nw, nx, .ref 411])) ∧ (∃ t, mj_rd h' 399 = some (.inl (0, (8, .inl t)))) ∧ mz_fr [399, 400] h h' ∧ h'.length ≤ N + 0 ∧ mj_sz h' ≤ mj_sz h + 0 → mj_lrun L xs (28, [some (.retAddr 1), some (.ref 0), some (.ref 400), some (.ref 412), some (.ref 413), some (.int (nI (i + 4))), l6, l7, l8, l9], [], h') P) : mj_lrun L xs (28, [some (.retAddr 1), some (.ref 0), some (.ref 400), some (.ref 412), some (.ref 413), some (.int (nI i)), l6, l7, l8, l9], [], h) P := by
  refine l_ild (p' := 30) rfl rfl rfl rfl ?_
  refine l_alds (p' := 31) rfl rfl rfl rfl ?_
  refine l_lens (p' := 32) rfl rfl rfl ?_
  refine l_con (p' := 33) rfl rfl rfl ?_
  refine l_bz (p' := 34) (z := (nI (L - 4))) rfl rfl rfl rfl rfl (mI_sub (by omega)) ?_
  refine l_icmp (p' := 37) false rfl rfl ((ci_gt (by omega) (by omega)).trans (decide_eq_false (by omega))) rfl ?_
  refine l_alds (p' := 38) rfl rfl rfl rfl ?_
  refine l_ild (p' := 40) rfl rfl rfl rfl ?_
  refine l_ialz (p' := 41) (m := i) (z := (xs i)) rfl rfl (inb_nI (by omega) (by omega)) (mI_cl (by omega)) rfl rfl ?_
  refine l_bip (p' := 43) rfl rfl rfl ?_
  refine l_bz (p' := 44) (z := (nI 43)) rfl rfl rfl rfl rfl hk ?_
  refine l_sp (p' := 2269) (ls' := _) rfl rfl rfl rfl rfl ?_
  refine l_aldn (p' := 2270) rfl rfl rfl rfl ?_
  refine l_call (p' := 2273) (kc := 99) (ls0 := [_, _, _]) rfl rfl rfl rfl rfl rfl (mj_rcv_is H0) rfl rfl rfl ?_
  refine s_aldn (p' := 1) rfl rfl rfl ?_
  refine s_callEN (p' := 4) (ls0 := [_, _, _]) rfl rfl rfl rfl rfl (mj_rcv_is H0) rfl (x_cnt (x := 0) (A := 397) (T := 399) (by decide) (by decide) (by decide) hIM H0 H397 H399) rfl rfl ?_
  rintro g1 ⟨t1, ht1, rfl⟩
  refine s_con (p' := 5) rfl rfl ?_
  refine s_istn (p' := 6) (ls' := [_, _, _]) rfl rfl rfl rfl ?_
  refine s_con (p' := 7) rfl rfl ?_
  refine s_istn (p' := 8) (ls' := [_, _, _]) rfl rfl rfl rfl ?_
  refine mj_Wp.mono (k := 5) ?_ (by decide)
  refine x_foL (x := 0) (T := 399) (c := cti IM 8) (fun v => cti_le IM 8 v) ht1 (rd_sn rfl H0) (rd_ss rfl H399) 8 0 rfl ?_
  rw [hmis]
  refine s_ildn (p' := 36) rfl rfl rfl ?_
  refine s_bzF (p' := 37) (z := (UInt32.ofNat 1073741824)) rfl rfl rfl (by decide +kernel) ?_
  refine s_sh (p' := 40) (ls' := _) (st' := .float (UInt32.ofNat 1090519040) :: _) (h' := _) rfl rfl rfl rfl ?_
  refine s_fdivz (p' := 41) (z := (UInt32.ofNat 1048576000)) rfl (by decide +kernel) (by decide +kernel) rfl ?_
  refine k_fret rfl ?_
  refine l_f2dz (p' := 2274) (z := (UInt64.ofNat 4598175219545276416)) rfl rfl (by decide +kernel) (by decide +kernel) rfl ?_
  refine l_sp (p' := 2276) (ls' := [_, _, _, _, _, _, _, _, _, _]) rfl rfl rfl rfl rfl ?_
  refine l_aldn (p' := 2277) rfl rfl rfl rfl ?_
  refine l_call (p' := 2280) (kc := 99) (ls0 := [_, _, _]) rfl rfl rfl rfl rfl rfl (mj_rcv_is (rd_sn rfl H400)) rfl rfl rfl ?_
  refine s_aldn (p' := 1) rfl rfl rfl ?_
  refine s_con (p' := 2) rfl rfl ?_
  refine s_pfz (p' := 5) (fs' := [_, _, _, _, _, _, _, _, _, _, _]) rfl rfl (rd_sn rfl H400) rfl rfl rfl rfl ?_
  refine s_con (p' := 6) rfl rfl ?_
  refine s_istn (p' := 7) (ls' := [_, _, _]) rfl rfl rfl rfl ?_
  refine s_con (p' := 8) rfl rfl ?_
  refine s_istn (p' := 9) (ls' := [_, _, _]) rfl rfl rfl rfl ?_
  refine mj_Wp.mono (k := 5) ?_ (by decide)
  refine y_foL (x := 400) (A := 411) hJM (rd_ss rfl (rd_sn rfl H400)) (rd_sn rfl (rd_sn rfl H411)) 8 0 rfl ?_
  rw [hmis]
  refine s_ildn (p' := 38) rfl rfl rfl ?_
  refine s_bzF (p' := 39) (z := (UInt32.ofNat 1073741824)) rfl rfl rfl (by decide +kernel) ?_
  refine s_sh (p' := 42) (ls' := _) (st' := .float (UInt32.ofNat 1090519040) :: _) (h' := _) rfl rfl rfl rfl ?_
  refine s_fdivz (p' := 43) (z := (UInt32.ofNat 1048576000)) rfl (by decide +kernel) (by decide +kernel) rfl ?_
  refine k_fret rfl ?_
  refine l_f2dz (p' := 2281) (z := (UInt64.ofNat 4598175219545276416)) rfl rfl (by decide +kernel) (by decide +kernel) rfl ?_
  refine l_sp (p' := 2283) (ls' := [_, _, _, _, _, _, _, _, _, _]) rfl rfl rfl rfl rfl ?_
  refine l_sp (p' := 2285) (ls' := _) rfl rfl rfl rfl rfl ?_
  refine l_sp (p' := 2287) (ls' := _) rfl rfl rfl rfl rfl ?_
  refine l_bz (p' := 2288) (z := (nI 0)) rfl rfl rfl rfl rfl (by decide +kernel) ?_
  refine l_if (p' := 2309) true rfl rfl (by decide +kernel) rfl ?_
  refine l_goto (p' := 2541) rfl rfl rfl ?_
  refine l_incz (p' := 2544) (w := (nI (i + 4))) (ls' := [_, _, _, _, _, _, _, _, _, _]) rfl rfl rfl rfl (mI_add _ _) rfl rfl ?_
  refine l_goto (p' := 28) rfl rfl rfl ?_
  exact hn _ _ _ _ _ ⟨(rd_ss rfl (rd_sn rfl H400)), ⟨t1, (rd_sn rfl (rd_ss rfl H399))⟩, (mz_fr.s (by decide) (mz_fr.s (by decide) (mz_fr.rf _ h))), (Nat.le_trans (Nat.le_of_eq (len_s (len_s HL))) (by omega)), (Nat.le_trans (sz_s rfl (rd_sn rfl H400) rfl (sz_sA rfl H399 (Nat.le_refl (mj_sz h)))) (by omega))⟩
theorem w_43_3 {L i N : Nat} {xs : Nat → Int32} {h : mj_H} {l6 l7 l8 l9 : Option Value} {P : mj_H → Prop} (hL : L ≤ 2048) (hi : i + 4 ≤ L) (hN : N + 2000 < mj_CB) (hN0 : 414 ≤ N) (HL : h.length = N) (hk : xs i &&& nI 63 = nI 43) {gs pl ty wa nw nx dp ca mf : Value} {th : Int32} {sd be : Int64} {ou : Nat → Int64} {vf wf sf uf im jm : Nat → Int32} {k g : Nat} (hk20 : k ≤ 20) (hvw : ∀ j, j < 8 → wf j = vf j) (hsu : ∀ j, j < k → uf j = sf j) {pe pm ge gm : Value} {q : Nat} (hq6 : q ≤ 6) (hg24 : g ≤ 24) {ta : Nat → Int32} {IM : Nat → Nat} (hIM : ∀ j, j < 8 → im j = nI (IM j) ∧ IM j < 8) (hJM : ∀ j, j < 8 → jm j = nI (IM j) ∧ IM j < 8) (hmis : mis (cti IM 8) 8 = 3)  (H0 : mj_rd h 0 = some (.inr (0, [.ref 1, .ref 38, .ref 299, .ref 336, .ref 373, .ref 375, .ref 378, .ref 381, .ref 387, .ref 393, gs, pl, .ref 397, .ref 398, .ref 399, .long sd, .long be]))) (H397 : mj_rd h 397 = some (.inl (0, (8, .inl (im))))) (H399 : mj_rd h 399 = some (.inl (0, (8, .inl (ta))))) (H400 : mj_rd h 400 = some (.inr (17, [.int th, .ref 401, .ref 402, ty, .long sd, .long be, .ref 410, wa, nw, nx, .ref 411]))) (H411 : mj_rd h 411 = some (.inl (0, (8, .inl (jm))))) (hn : ∀ (l6 l7 l8 l9 : Option Value) (h' : mj_H), mj_rd h' 400 = some (.inr (17, [.int (nI 0), .ref 401, .ref 402, ty, .long sd, .long be, .ref 410, wa, nw, nx, .ref 411])) ∧ (∃ t, mj_rd h' 399 = some (.inl (0, (8, .inl t)))) ∧ mz_fr [399, 400] h h' ∧ h'.length ≤ N + 0 ∧ mj_sz h' ≤ mj_sz h + 0 → mj_lrun L xs (28, [some (.retAddr 1), some (.ref 0), some (.ref 400), some (.ref 412), some (.ref 413), some (.int (nI (i + 4))), l6, l7, l8, l9], [], h') P) : mj_lrun L xs (28, [some (.retAddr 1), some (.ref 0), some (.ref 400), some (.ref 412), some (.ref 413), some (.int (nI i)), l6, l7, l8, l9], [], h) P := by
  refine l_ild (p' := 30) rfl rfl rfl rfl ?_
  refine l_alds (p' := 31) rfl rfl rfl rfl ?_
  refine l_lens (p' := 32) rfl rfl rfl ?_
  refine l_con (p' := 33) rfl rfl rfl ?_
  refine l_bz (p' := 34) (z := (nI (L - 4))) rfl rfl rfl rfl rfl (mI_sub (by omega)) ?_
  refine l_icmp (p' := 37) false rfl rfl ((ci_gt (by omega) (by omega)).trans (decide_eq_false (by omega))) rfl ?_
  refine l_alds (p' := 38) rfl rfl rfl rfl ?_
  refine l_ild (p' := 40) rfl rfl rfl rfl ?_
  refine l_ialz (p' := 41) (m := i) (z := (xs i)) rfl rfl (inb_nI (by omega) (by omega)) (mI_cl (by omega)) rfl rfl ?_
  refine l_bip (p' := 43) rfl rfl rfl ?_
  refine l_bz (p' := 44) (z := (nI 43)) rfl rfl rfl rfl rfl hk ?_
  refine l_sp (p' := 2269) (ls' := _) rfl rfl rfl rfl rfl ?_
  refine l_aldn (p' := 2270) rfl rfl rfl rfl ?_
  refine l_call (p' := 2273) (kc := 99) (ls0 := [_, _, _]) rfl rfl rfl rfl rfl rfl (mj_rcv_is H0) rfl rfl rfl ?_
  refine s_aldn (p' := 1) rfl rfl rfl ?_
  refine s_callEN (p' := 4) (ls0 := [_, _, _]) rfl rfl rfl rfl rfl (mj_rcv_is H0) rfl (x_cnt (x := 0) (A := 397) (T := 399) (by decide) (by decide) (by decide) hIM H0 H397 H399) rfl rfl ?_
  rintro g1 ⟨t1, ht1, rfl⟩
  refine s_con (p' := 5) rfl rfl ?_
  refine s_istn (p' := 6) (ls' := [_, _, _]) rfl rfl rfl rfl ?_
  refine s_con (p' := 7) rfl rfl ?_
  refine s_istn (p' := 8) (ls' := [_, _, _]) rfl rfl rfl rfl ?_
  refine mj_Wp.mono (k := 5) ?_ (by decide)
  refine x_foL (x := 0) (T := 399) (c := cti IM 8) (fun v => cti_le IM 8 v) ht1 (rd_sn rfl H0) (rd_ss rfl H399) 8 0 rfl ?_
  rw [hmis]
  refine s_ildn (p' := 36) rfl rfl rfl ?_
  refine s_bzF (p' := 37) (z := (UInt32.ofNat 1077936128)) rfl rfl rfl (by decide +kernel) ?_
  refine s_sh (p' := 40) (ls' := _) (st' := .float (UInt32.ofNat 1090519040) :: _) (h' := _) rfl rfl rfl rfl ?_
  refine s_fdivz (p' := 41) (z := (UInt32.ofNat 1052770304)) rfl (by decide +kernel) (by decide +kernel) rfl ?_
  refine k_fret rfl ?_
  refine l_f2dz (p' := 2274) (z := (UInt64.ofNat 4600427019358961664)) rfl rfl (by decide +kernel) (by decide +kernel) rfl ?_
  refine l_sp (p' := 2276) (ls' := [_, _, _, _, _, _, _, _, _, _]) rfl rfl rfl rfl rfl ?_
  refine l_aldn (p' := 2277) rfl rfl rfl rfl ?_
  refine l_call (p' := 2280) (kc := 99) (ls0 := [_, _, _]) rfl rfl rfl rfl rfl rfl (mj_rcv_is (rd_sn rfl H400)) rfl rfl rfl ?_
  refine s_aldn (p' := 1) rfl rfl rfl ?_
  refine s_con (p' := 2) rfl rfl ?_
  refine s_pfz (p' := 5) (fs' := [_, _, _, _, _, _, _, _, _, _, _]) rfl rfl (rd_sn rfl H400) rfl rfl rfl rfl ?_
  refine s_con (p' := 6) rfl rfl ?_
  refine s_istn (p' := 7) (ls' := [_, _, _]) rfl rfl rfl rfl ?_
  refine s_con (p' := 8) rfl rfl ?_
  refine s_istn (p' := 9) (ls' := [_, _, _]) rfl rfl rfl rfl ?_
  refine mj_Wp.mono (k := 5) ?_ (by decide)
  refine y_foL (x := 400) (A := 411) hJM (rd_ss rfl (rd_sn rfl H400)) (rd_sn rfl (rd_sn rfl H411)) 8 0 rfl ?_
  rw [hmis]
  refine s_ildn (p' := 38) rfl rfl rfl ?_
  refine s_bzF (p' := 39) (z := (UInt32.ofNat 1077936128)) rfl rfl rfl (by decide +kernel) ?_
  refine s_sh (p' := 42) (ls' := _) (st' := .float (UInt32.ofNat 1090519040) :: _) (h' := _) rfl rfl rfl rfl ?_
  refine s_fdivz (p' := 43) (z := (UInt32.ofNat 1052770304)) rfl (by decide +kernel) (by decide +kernel) rfl ?_
  refine k_fret rfl ?_
  refine l_f2dz (p' := 2281) (z := (UInt64.ofNat 4600427019358961664)) rfl rfl (by decide +kernel) (by decide +kernel) rfl ?_
  refine l_sp (p' := 2283) (ls' := [_, _, _, _, _, _, _, _, _, _]) rfl rfl rfl rfl rfl ?_
  refine l_sp (p' := 2285) (ls' := _) rfl rfl rfl rfl rfl ?_
  refine l_sp (p' := 2287) (ls' := _) rfl rfl rfl rfl rfl ?_
  refine l_bz (p' := 2288) (z := (nI 0)) rfl rfl rfl rfl rfl (by decide +kernel) ?_
  refine l_if (p' := 2309) true rfl rfl (by decide +kernel) rfl ?_
  refine l_goto (p' := 2541) rfl rfl rfl ?_
  refine l_incz (p' := 2544) (w := (nI (i + 4))) (ls' := [_, _, _, _, _, _, _, _, _, _]) rfl rfl rfl rfl (mI_add _ _) rfl rfl ?_
  refine l_goto (p' := 28) rfl rfl rfl ?_
  exact hn _ _ _ _ _ ⟨(rd_ss rfl (rd_sn rfl H400)), ⟨t1, (rd_sn rfl (rd_ss rfl H399))⟩, (mz_fr.s (by decide) (mz_fr.s (by decide) (mz_fr.rf _ h))), (Nat.le_trans (Nat.le_of_eq (len_s (len_s HL))) (by omega)), (Nat.le_trans (sz_s rfl (rd_sn rfl H400) rfl (sz_sA rfl H399 (Nat.le_refl (mj_sz h)))) (by omega))⟩
theorem w_43_4 {L i N : Nat} {xs : Nat → Int32} {h : mj_H} {l6 l7 l8 l9 : Option Value} {P : mj_H → Prop} (hL : L ≤ 2048) (hi : i + 4 ≤ L) (hN : N + 2000 < mj_CB) (hN0 : 414 ≤ N) (HL : h.length = N) (hk : xs i &&& nI 63 = nI 43) {gs pl ty wa nw nx dp ca mf : Value} {th : Int32} {sd be : Int64} {ou : Nat → Int64} {vf wf sf uf im jm : Nat → Int32} {k g : Nat} (hk20 : k ≤ 20) (hvw : ∀ j, j < 8 → wf j = vf j) (hsu : ∀ j, j < k → uf j = sf j) {pe pm ge gm : Value} {q : Nat} (hq6 : q ≤ 6) (hg24 : g ≤ 24) {ta : Nat → Int32} {IM : Nat → Nat} (hIM : ∀ j, j < 8 → im j = nI (IM j) ∧ IM j < 8) (hJM : ∀ j, j < 8 → jm j = nI (IM j) ∧ IM j < 8) (hmis : mis (cti IM 8) 8 = 4)  (H0 : mj_rd h 0 = some (.inr (0, [.ref 1, .ref 38, .ref 299, .ref 336, .ref 373, .ref 375, .ref 378, .ref 381, .ref 387, .ref 393, gs, pl, .ref 397, .ref 398, .ref 399, .long sd, .long be]))) (H397 : mj_rd h 397 = some (.inl (0, (8, .inl (im))))) (H399 : mj_rd h 399 = some (.inl (0, (8, .inl (ta))))) (H400 : mj_rd h 400 = some (.inr (17, [.int th, .ref 401, .ref 402, ty, .long sd, .long be, .ref 410, wa, nw, nx, .ref 411]))) (H411 : mj_rd h 411 = some (.inl (0, (8, .inl (jm))))) (hn : ∀ (l6 l7 l8 l9 : Option Value) (h' : mj_H), mj_rd h' 400 = some (.inr (17, [.int (nI 0), .ref 401, .ref 402, ty, .long sd, .long be, .ref 410, wa, nw, nx, .ref 411])) ∧ (∃ t, mj_rd h' 399 = some (.inl (0, (8, .inl t)))) ∧ mz_fr [399, 400] h h' ∧ h'.length ≤ N + 0 ∧ mj_sz h' ≤ mj_sz h + 0 → mj_lrun L xs (28, [some (.retAddr 1), some (.ref 0), some (.ref 400), some (.ref 412), some (.ref 413), some (.int (nI (i + 4))), l6, l7, l8, l9], [], h') P) : mj_lrun L xs (28, [some (.retAddr 1), some (.ref 0), some (.ref 400), some (.ref 412), some (.ref 413), some (.int (nI i)), l6, l7, l8, l9], [], h) P := by
  refine l_ild (p' := 30) rfl rfl rfl rfl ?_
  refine l_alds (p' := 31) rfl rfl rfl rfl ?_
  refine l_lens (p' := 32) rfl rfl rfl ?_
  refine l_con (p' := 33) rfl rfl rfl ?_
  refine l_bz (p' := 34) (z := (nI (L - 4))) rfl rfl rfl rfl rfl (mI_sub (by omega)) ?_
  refine l_icmp (p' := 37) false rfl rfl ((ci_gt (by omega) (by omega)).trans (decide_eq_false (by omega))) rfl ?_
  refine l_alds (p' := 38) rfl rfl rfl rfl ?_
  refine l_ild (p' := 40) rfl rfl rfl rfl ?_
  refine l_ialz (p' := 41) (m := i) (z := (xs i)) rfl rfl (inb_nI (by omega) (by omega)) (mI_cl (by omega)) rfl rfl ?_
  refine l_bip (p' := 43) rfl rfl rfl ?_
  refine l_bz (p' := 44) (z := (nI 43)) rfl rfl rfl rfl rfl hk ?_
  refine l_sp (p' := 2269) (ls' := _) rfl rfl rfl rfl rfl ?_
  refine l_aldn (p' := 2270) rfl rfl rfl rfl ?_
  refine l_call (p' := 2273) (kc := 99) (ls0 := [_, _, _]) rfl rfl rfl rfl rfl rfl (mj_rcv_is H0) rfl rfl rfl ?_
  refine s_aldn (p' := 1) rfl rfl rfl ?_
  refine s_callEN (p' := 4) (ls0 := [_, _, _]) rfl rfl rfl rfl rfl (mj_rcv_is H0) rfl (x_cnt (x := 0) (A := 397) (T := 399) (by decide) (by decide) (by decide) hIM H0 H397 H399) rfl rfl ?_
  rintro g1 ⟨t1, ht1, rfl⟩
  refine s_con (p' := 5) rfl rfl ?_
  refine s_istn (p' := 6) (ls' := [_, _, _]) rfl rfl rfl rfl ?_
  refine s_con (p' := 7) rfl rfl ?_
  refine s_istn (p' := 8) (ls' := [_, _, _]) rfl rfl rfl rfl ?_
  refine mj_Wp.mono (k := 5) ?_ (by decide)
  refine x_foL (x := 0) (T := 399) (c := cti IM 8) (fun v => cti_le IM 8 v) ht1 (rd_sn rfl H0) (rd_ss rfl H399) 8 0 rfl ?_
  rw [hmis]
  refine s_ildn (p' := 36) rfl rfl rfl ?_
  refine s_bzF (p' := 37) (z := (UInt32.ofNat 1082130432)) rfl rfl rfl (by decide +kernel) ?_
  refine s_sh (p' := 40) (ls' := _) (st' := .float (UInt32.ofNat 1090519040) :: _) (h' := _) rfl rfl rfl rfl ?_
  refine s_fdivz (p' := 41) (z := (UInt32.ofNat 1056964608)) rfl (by decide +kernel) (by decide +kernel) rfl ?_
  refine k_fret rfl ?_
  refine l_f2dz (p' := 2274) (z := (UInt64.ofNat 4602678819172646912)) rfl rfl (by decide +kernel) (by decide +kernel) rfl ?_
  refine l_sp (p' := 2276) (ls' := [_, _, _, _, _, _, _, _, _, _]) rfl rfl rfl rfl rfl ?_
  refine l_aldn (p' := 2277) rfl rfl rfl rfl ?_
  refine l_call (p' := 2280) (kc := 99) (ls0 := [_, _, _]) rfl rfl rfl rfl rfl rfl (mj_rcv_is (rd_sn rfl H400)) rfl rfl rfl ?_
  refine s_aldn (p' := 1) rfl rfl rfl ?_
  refine s_con (p' := 2) rfl rfl ?_
  refine s_pfz (p' := 5) (fs' := [_, _, _, _, _, _, _, _, _, _, _]) rfl rfl (rd_sn rfl H400) rfl rfl rfl rfl ?_
  refine s_con (p' := 6) rfl rfl ?_
  refine s_istn (p' := 7) (ls' := [_, _, _]) rfl rfl rfl rfl ?_
  refine s_con (p' := 8) rfl rfl ?_
  refine s_istn (p' := 9) (ls' := [_, _, _]) rfl rfl rfl rfl ?_
  refine mj_Wp.mono (k := 5) ?_ (by decide)
  refine y_foL (x := 400) (A := 411) hJM (rd_ss rfl (rd_sn rfl H400)) (rd_sn rfl (rd_sn rfl H411)) 8 0 rfl ?_
  rw [hmis]
  refine s_ildn (p' := 38) rfl rfl rfl ?_
  refine s_bzF (p' := 39) (z := (UInt32.ofNat 1082130432)) rfl rfl rfl (by decide +kernel) ?_
  refine s_sh (p' := 42) (ls' := _) (st' := .float (UInt32.ofNat 1090519040) :: _) (h' := _) rfl rfl rfl rfl ?_
  refine s_fdivz (p' := 43) (z := (UInt32.ofNat 1056964608)) rfl (by decide +kernel) (by decide +kernel) rfl ?_
  refine k_fret rfl ?_
  refine l_f2dz (p' := 2281) (z := (UInt64.ofNat 4602678819172646912)) rfl rfl (by decide +kernel) (by decide +kernel) rfl ?_
  refine l_sp (p' := 2283) (ls' := [_, _, _, _, _, _, _, _, _, _]) rfl rfl rfl rfl rfl ?_
  refine l_sp (p' := 2285) (ls' := _) rfl rfl rfl rfl rfl ?_
  refine l_sp (p' := 2287) (ls' := _) rfl rfl rfl rfl rfl ?_
  refine l_bz (p' := 2288) (z := (nI 0)) rfl rfl rfl rfl rfl (by decide +kernel) ?_
  refine l_if (p' := 2309) true rfl rfl (by decide +kernel) rfl ?_
  refine l_goto (p' := 2541) rfl rfl rfl ?_
  refine l_incz (p' := 2544) (w := (nI (i + 4))) (ls' := [_, _, _, _, _, _, _, _, _, _]) rfl rfl rfl rfl (mI_add _ _) rfl rfl ?_
  refine l_goto (p' := 28) rfl rfl rfl ?_
  exact hn _ _ _ _ _ ⟨(rd_ss rfl (rd_sn rfl H400)), ⟨t1, (rd_sn rfl (rd_ss rfl H399))⟩, (mz_fr.s (by decide) (mz_fr.s (by decide) (mz_fr.rf _ h))), (Nat.le_trans (Nat.le_of_eq (len_s (len_s HL))) (by omega)), (Nat.le_trans (sz_s rfl (rd_sn rfl H400) rfl (sz_sA rfl H399 (Nat.le_refl (mj_sz h)))) (by omega))⟩
theorem w_43_5 {L i N : Nat} {xs : Nat → Int32} {h : mj_H} {l6 l7 l8 l9 : Option Value} {P : mj_H → Prop} (hL : L ≤ 2048) (hi : i + 4 ≤ L) (hN : N + 2000 < mj_CB) (hN0 : 414 ≤ N) (HL : h.length = N) (hk : xs i &&& nI 63 = nI 43) {gs pl ty wa nw nx dp ca mf : Value} {th : Int32} {sd be : Int64} {ou : Nat → Int64} {vf wf sf uf im jm : Nat → Int32} {k g : Nat} (hk20 : k ≤ 20) (hvw : ∀ j, j < 8 → wf j = vf j) (hsu : ∀ j, j < k → uf j = sf j) {pe pm ge gm : Value} {q : Nat} (hq6 : q ≤ 6) (hg24 : g ≤ 24) {ta : Nat → Int32} {IM : Nat → Nat} (hIM : ∀ j, j < 8 → im j = nI (IM j) ∧ IM j < 8) (hJM : ∀ j, j < 8 → jm j = nI (IM j) ∧ IM j < 8) (hmis : mis (cti IM 8) 8 = 5)  (H0 : mj_rd h 0 = some (.inr (0, [.ref 1, .ref 38, .ref 299, .ref 336, .ref 373, .ref 375, .ref 378, .ref 381, .ref 387, .ref 393, gs, pl, .ref 397, .ref 398, .ref 399, .long sd, .long be]))) (H397 : mj_rd h 397 = some (.inl (0, (8, .inl (im))))) (H399 : mj_rd h 399 = some (.inl (0, (8, .inl (ta))))) (H400 : mj_rd h 400 = some (.inr (17, [.int th, .ref 401, .ref 402, ty, .long sd, .long be, .ref 410, wa, nw, nx, .ref 411]))) (H411 : mj_rd h 411 = some (.inl (0, (8, .inl (jm))))) (hn : ∀ (l6 l7 l8 l9 : Option Value) (h' : mj_H), mj_rd h' 400 = some (.inr (17, [.int (nI 0), .ref 401, .ref 402, ty, .long sd, .long be, .ref 410, wa, nw, nx, .ref 411])) ∧ (∃ t, mj_rd h' 399 = some (.inl (0, (8, .inl t)))) ∧ mz_fr [399, 400] h h' ∧ h'.length ≤ N + 0 ∧ mj_sz h' ≤ mj_sz h + 0 → mj_lrun L xs (28, [some (.retAddr 1), some (.ref 0), some (.ref 400), some (.ref 412), some (.ref 413), some (.int (nI (i + 4))), l6, l7, l8, l9], [], h') P) : mj_lrun L xs (28, [some (.retAddr 1), some (.ref 0), some (.ref 400), some (.ref 412), some (.ref 413), some (.int (nI i)), l6, l7, l8, l9], [], h) P := by
  refine l_ild (p' := 30) rfl rfl rfl rfl ?_
  refine l_alds (p' := 31) rfl rfl rfl rfl ?_
  refine l_lens (p' := 32) rfl rfl rfl ?_
  refine l_con (p' := 33) rfl rfl rfl ?_
  refine l_bz (p' := 34) (z := (nI (L - 4))) rfl rfl rfl rfl rfl (mI_sub (by omega)) ?_
  refine l_icmp (p' := 37) false rfl rfl ((ci_gt (by omega) (by omega)).trans (decide_eq_false (by omega))) rfl ?_
  refine l_alds (p' := 38) rfl rfl rfl rfl ?_
  refine l_ild (p' := 40) rfl rfl rfl rfl ?_
  refine l_ialz (p' := 41) (m := i) (z := (xs i)) rfl rfl (inb_nI (by omega) (by omega)) (mI_cl (by omega)) rfl rfl ?_
  refine l_bip (p' := 43) rfl rfl rfl ?_
  refine l_bz (p' := 44) (z := (nI 43)) rfl rfl rfl rfl rfl hk ?_
  refine l_sp (p' := 2269) (ls' := _) rfl rfl rfl rfl rfl ?_
  refine l_aldn (p' := 2270) rfl rfl rfl rfl ?_
  refine l_call (p' := 2273) (kc := 99) (ls0 := [_, _, _]) rfl rfl rfl rfl rfl rfl (mj_rcv_is H0) rfl rfl rfl ?_
  refine s_aldn (p' := 1) rfl rfl rfl ?_
  refine s_callEN (p' := 4) (ls0 := [_, _, _]) rfl rfl rfl rfl rfl (mj_rcv_is H0) rfl (x_cnt (x := 0) (A := 397) (T := 399) (by decide) (by decide) (by decide) hIM H0 H397 H399) rfl rfl ?_
  rintro g1 ⟨t1, ht1, rfl⟩
  refine s_con (p' := 5) rfl rfl ?_
  refine s_istn (p' := 6) (ls' := [_, _, _]) rfl rfl rfl rfl ?_
  refine s_con (p' := 7) rfl rfl ?_
  refine s_istn (p' := 8) (ls' := [_, _, _]) rfl rfl rfl rfl ?_
  refine mj_Wp.mono (k := 5) ?_ (by decide)
  refine x_foL (x := 0) (T := 399) (c := cti IM 8) (fun v => cti_le IM 8 v) ht1 (rd_sn rfl H0) (rd_ss rfl H399) 8 0 rfl ?_
  rw [hmis]
  refine s_ildn (p' := 36) rfl rfl rfl ?_
  refine s_bzF (p' := 37) (z := (UInt32.ofNat 1084227584)) rfl rfl rfl (by decide +kernel) ?_
  refine s_sh (p' := 40) (ls' := _) (st' := .float (UInt32.ofNat 1090519040) :: _) (h' := _) rfl rfl rfl rfl ?_
  refine s_fdivz (p' := 41) (z := (UInt32.ofNat 1059061760)) rfl (by decide +kernel) (by decide +kernel) rfl ?_
  refine k_fret rfl ?_
  refine l_f2dz (p' := 2274) (z := (UInt64.ofNat 4603804719079489536)) rfl rfl (by decide +kernel) (by decide +kernel) rfl ?_
  refine l_sp (p' := 2276) (ls' := [_, _, _, _, _, _, _, _, _, _]) rfl rfl rfl rfl rfl ?_
  refine l_aldn (p' := 2277) rfl rfl rfl rfl ?_
  refine l_call (p' := 2280) (kc := 99) (ls0 := [_, _, _]) rfl rfl rfl rfl rfl rfl (mj_rcv_is (rd_sn rfl H400)) rfl rfl rfl ?_
  refine s_aldn (p' := 1) rfl rfl rfl ?_
  refine s_con (p' := 2) rfl rfl ?_
  refine s_pfz (p' := 5) (fs' := [_, _, _, _, _, _, _, _, _, _, _]) rfl rfl (rd_sn rfl H400) rfl rfl rfl rfl ?_
  refine s_con (p' := 6) rfl rfl ?_
  refine s_istn (p' := 7) (ls' := [_, _, _]) rfl rfl rfl rfl ?_
  refine s_con (p' := 8) rfl rfl ?_
  refine s_istn (p' := 9) (ls' := [_, _, _]) rfl rfl rfl rfl ?_
  refine mj_Wp.mono (k := 5) ?_ (by decide)
  refine y_foL (x := 400) (A := 411) hJM (rd_ss rfl (rd_sn rfl H400)) (rd_sn rfl (rd_sn rfl H411)) 8 0 rfl ?_
  rw [hmis]
  refine s_ildn (p' := 38) rfl rfl rfl ?_
  refine s_bzF (p' := 39) (z := (UInt32.ofNat 1084227584)) rfl rfl rfl (by decide +kernel) ?_
  refine s_sh (p' := 42) (ls' := _) (st' := .float (UInt32.ofNat 1090519040) :: _) (h' := _) rfl rfl rfl rfl ?_
  refine s_fdivz (p' := 43) (z := (UInt32.ofNat 1059061760)) rfl (by decide +kernel) (by decide +kernel) rfl ?_
  refine k_fret rfl ?_
  refine l_f2dz (p' := 2281) (z := (UInt64.ofNat 4603804719079489536)) rfl rfl (by decide +kernel) (by decide +kernel) rfl ?_
  refine l_sp (p' := 2283) (ls' := [_, _, _, _, _, _, _, _, _, _]) rfl rfl rfl rfl rfl ?_
  refine l_sp (p' := 2285) (ls' := _) rfl rfl rfl rfl rfl ?_
  refine l_sp (p' := 2287) (ls' := _) rfl rfl rfl rfl rfl ?_
  refine l_bz (p' := 2288) (z := (nI 0)) rfl rfl rfl rfl rfl (by decide +kernel) ?_
  refine l_if (p' := 2309) true rfl rfl (by decide +kernel) rfl ?_
  refine l_goto (p' := 2541) rfl rfl rfl ?_
  refine l_incz (p' := 2544) (w := (nI (i + 4))) (ls' := [_, _, _, _, _, _, _, _, _, _]) rfl rfl rfl rfl (mI_add _ _) rfl rfl ?_
  refine l_goto (p' := 28) rfl rfl rfl ?_
  exact hn _ _ _ _ _ ⟨(rd_ss rfl (rd_sn rfl H400)), ⟨t1, (rd_sn rfl (rd_ss rfl H399))⟩, (mz_fr.s (by decide) (mz_fr.s (by decide) (mz_fr.rf _ h))), (Nat.le_trans (Nat.le_of_eq (len_s (len_s HL))) (by omega)), (Nat.le_trans (sz_s rfl (rd_sn rfl H400) rfl (sz_sA rfl H399 (Nat.le_refl (mj_sz h)))) (by omega))⟩
theorem w_43_6 {L i N : Nat} {xs : Nat → Int32} {h : mj_H} {l6 l7 l8 l9 : Option Value} {P : mj_H → Prop} (hL : L ≤ 2048) (hi : i + 4 ≤ L) (hN : N + 2000 < mj_CB) (hN0 : 414 ≤ N) (HL : h.length = N) (hk : xs i &&& nI 63 = nI 43) {gs pl ty wa nw nx dp ca mf : Value} {th : Int32} {sd be : Int64} {ou : Nat → Int64} {vf wf sf uf im jm : Nat → Int32} {k g : Nat} (hk20 : k ≤ 20) (hvw : ∀ j, j < 8 → wf j = vf j) (hsu : ∀ j, j < k → uf j = sf j) {pe pm ge gm : Value} {q : Nat} (hq6 : q ≤ 6) (hg24 : g ≤ 24) {ta : Nat → Int32} {IM : Nat → Nat} (hIM : ∀ j, j < 8 → im j = nI (IM j) ∧ IM j < 8) (hJM : ∀ j, j < 8 → jm j = nI (IM j) ∧ IM j < 8) (hmis : mis (cti IM 8) 8 = 6)  (H0 : mj_rd h 0 = some (.inr (0, [.ref 1, .ref 38, .ref 299, .ref 336, .ref 373, .ref 375, .ref 378, .ref 381, .ref 387, .ref 393, gs, pl, .ref 397, .ref 398, .ref 399, .long sd, .long be]))) (H397 : mj_rd h 397 = some (.inl (0, (8, .inl (im))))) (H399 : mj_rd h 399 = some (.inl (0, (8, .inl (ta))))) (H400 : mj_rd h 400 = some (.inr (17, [.int th, .ref 401, .ref 402, ty, .long sd, .long be, .ref 410, wa, nw, nx, .ref 411]))) (H411 : mj_rd h 411 = some (.inl (0, (8, .inl (jm))))) (hn : ∀ (l6 l7 l8 l9 : Option Value) (h' : mj_H), mj_rd h' 400 = some (.inr (17, [.int (nI 0), .ref 401, .ref 402, ty, .long sd, .long be, .ref 410, wa, nw, nx, .ref 411])) ∧ (∃ t, mj_rd h' 399 = some (.inl (0, (8, .inl t)))) ∧ mz_fr [399, 400] h h' ∧ h'.length ≤ N + 0 ∧ mj_sz h' ≤ mj_sz h + 0 → mj_lrun L xs (28, [some (.retAddr 1), some (.ref 0), some (.ref 400), some (.ref 412), some (.ref 413), some (.int (nI (i + 4))), l6, l7, l8, l9], [], h') P) : mj_lrun L xs (28, [some (.retAddr 1), some (.ref 0), some (.ref 400), some (.ref 412), some (.ref 413), some (.int (nI i)), l6, l7, l8, l9], [], h) P := by
  refine l_ild (p' := 30) rfl rfl rfl rfl ?_
  refine l_alds (p' := 31) rfl rfl rfl rfl ?_
  refine l_lens (p' := 32) rfl rfl rfl ?_
  refine l_con (p' := 33) rfl rfl rfl ?_
  refine l_bz (p' := 34) (z := (nI (L - 4))) rfl rfl rfl rfl rfl (mI_sub (by omega)) ?_
  refine l_icmp (p' := 37) false rfl rfl ((ci_gt (by omega) (by omega)).trans (decide_eq_false (by omega))) rfl ?_
  refine l_alds (p' := 38) rfl rfl rfl rfl ?_
  refine l_ild (p' := 40) rfl rfl rfl rfl ?_
  refine l_ialz (p' := 41) (m := i) (z := (xs i)) rfl rfl (inb_nI (by omega) (by omega)) (mI_cl (by omega)) rfl rfl ?_
  refine l_bip (p' := 43) rfl rfl rfl ?_
  refine l_bz (p' := 44) (z := (nI 43)) rfl rfl rfl rfl rfl hk ?_
  refine l_sp (p' := 2269) (ls' := _) rfl rfl rfl rfl rfl ?_
  refine l_aldn (p' := 2270) rfl rfl rfl rfl ?_
  refine l_call (p' := 2273) (kc := 99) (ls0 := [_, _, _]) rfl rfl rfl rfl rfl rfl (mj_rcv_is H0) rfl rfl rfl ?_
  refine s_aldn (p' := 1) rfl rfl rfl ?_
  refine s_callEN (p' := 4) (ls0 := [_, _, _]) rfl rfl rfl rfl rfl (mj_rcv_is H0) rfl (x_cnt (x := 0) (A := 397) (T := 399) (by decide) (by decide) (by decide) hIM H0 H397 H399) rfl rfl ?_
  rintro g1 ⟨t1, ht1, rfl⟩
  refine s_con (p' := 5) rfl rfl ?_
  refine s_istn (p' := 6) (ls' := [_, _, _]) rfl rfl rfl rfl ?_
  refine s_con (p' := 7) rfl rfl ?_
  refine s_istn (p' := 8) (ls' := [_, _, _]) rfl rfl rfl rfl ?_
  refine mj_Wp.mono (k := 5) ?_ (by decide)
  refine x_foL (x := 0) (T := 399) (c := cti IM 8) (fun v => cti_le IM 8 v) ht1 (rd_sn rfl H0) (rd_ss rfl H399) 8 0 rfl ?_
  rw [hmis]
  refine s_ildn (p' := 36) rfl rfl rfl ?_
  refine s_bzF (p' := 37) (z := (UInt32.ofNat 1086324736)) rfl rfl rfl (by decide +kernel) ?_
  refine s_sh (p' := 40) (ls' := _) (st' := .float (UInt32.ofNat 1090519040) :: _) (h' := _) rfl rfl rfl rfl ?_
  refine s_fdivz (p' := 41) (z := (UInt32.ofNat 1061158912)) rfl (by decide +kernel) (by decide +kernel) rfl ?_
  refine k_fret rfl ?_
  refine l_f2dz (p' := 2274) (z := (UInt64.ofNat 4604930618986332160)) rfl rfl (by decide +kernel) (by decide +kernel) rfl ?_
  refine l_sp (p' := 2276) (ls' := [_, _, _, _, _, _, _, _, _, _]) rfl rfl rfl rfl rfl ?_
  refine l_aldn (p' := 2277) rfl rfl rfl rfl ?_
  refine l_call (p' := 2280) (kc := 99) (ls0 := [_, _, _]) rfl rfl rfl rfl rfl rfl (mj_rcv_is (rd_sn rfl H400)) rfl rfl rfl ?_
  refine s_aldn (p' := 1) rfl rfl rfl ?_
  refine s_con (p' := 2) rfl rfl ?_
  refine s_pfz (p' := 5) (fs' := [_, _, _, _, _, _, _, _, _, _, _]) rfl rfl (rd_sn rfl H400) rfl rfl rfl rfl ?_
  refine s_con (p' := 6) rfl rfl ?_
  refine s_istn (p' := 7) (ls' := [_, _, _]) rfl rfl rfl rfl ?_
  refine s_con (p' := 8) rfl rfl ?_
  refine s_istn (p' := 9) (ls' := [_, _, _]) rfl rfl rfl rfl ?_
  refine mj_Wp.mono (k := 5) ?_ (by decide)
  refine y_foL (x := 400) (A := 411) hJM (rd_ss rfl (rd_sn rfl H400)) (rd_sn rfl (rd_sn rfl H411)) 8 0 rfl ?_
  rw [hmis]
  refine s_ildn (p' := 38) rfl rfl rfl ?_
  refine s_bzF (p' := 39) (z := (UInt32.ofNat 1086324736)) rfl rfl rfl (by decide +kernel) ?_
  refine s_sh (p' := 42) (ls' := _) (st' := .float (UInt32.ofNat 1090519040) :: _) (h' := _) rfl rfl rfl rfl ?_
  refine s_fdivz (p' := 43) (z := (UInt32.ofNat 1061158912)) rfl (by decide +kernel) (by decide +kernel) rfl ?_
  refine k_fret rfl ?_
  refine l_f2dz (p' := 2281) (z := (UInt64.ofNat 4604930618986332160)) rfl rfl (by decide +kernel) (by decide +kernel) rfl ?_
  refine l_sp (p' := 2283) (ls' := [_, _, _, _, _, _, _, _, _, _]) rfl rfl rfl rfl rfl ?_
  refine l_sp (p' := 2285) (ls' := _) rfl rfl rfl rfl rfl ?_
  refine l_sp (p' := 2287) (ls' := _) rfl rfl rfl rfl rfl ?_
  refine l_bz (p' := 2288) (z := (nI 0)) rfl rfl rfl rfl rfl (by decide +kernel) ?_
  refine l_if (p' := 2309) true rfl rfl (by decide +kernel) rfl ?_
  refine l_goto (p' := 2541) rfl rfl rfl ?_
  refine l_incz (p' := 2544) (w := (nI (i + 4))) (ls' := [_, _, _, _, _, _, _, _, _, _]) rfl rfl rfl rfl (mI_add _ _) rfl rfl ?_
  refine l_goto (p' := 28) rfl rfl rfl ?_
  exact hn _ _ _ _ _ ⟨(rd_ss rfl (rd_sn rfl H400)), ⟨t1, (rd_sn rfl (rd_ss rfl H399))⟩, (mz_fr.s (by decide) (mz_fr.s (by decide) (mz_fr.rf _ h))), (Nat.le_trans (Nat.le_of_eq (len_s (len_s HL))) (by omega)), (Nat.le_trans (sz_s rfl (rd_sn rfl H400) rfl (sz_sA rfl H399 (Nat.le_refl (mj_sz h)))) (by omega))⟩
theorem w_43_7 {L i N : Nat} {xs : Nat → Int32} {h : mj_H} {l6 l7 l8 l9 : Option Value} {P : mj_H → Prop} (hL : L ≤ 2048) (hi : i + 4 ≤ L) (hN : N + 2000 < mj_CB) (hN0 : 414 ≤ N) (HL : h.length = N) (hk : xs i &&& nI 63 = nI 43) {gs pl ty wa nw nx dp ca mf : Value} {th : Int32} {sd be : Int64} {ou : Nat → Int64} {vf wf sf uf im jm : Nat → Int32} {k g : Nat} (hk20 : k ≤ 20) (hvw : ∀ j, j < 8 → wf j = vf j) (hsu : ∀ j, j < k → uf j = sf j) {pe pm ge gm : Value} {q : Nat} (hq6 : q ≤ 6) (hg24 : g ≤ 24) {ta : Nat → Int32} {IM : Nat → Nat} (hIM : ∀ j, j < 8 → im j = nI (IM j) ∧ IM j < 8) (hJM : ∀ j, j < 8 → jm j = nI (IM j) ∧ IM j < 8) (hmis : mis (cti IM 8) 8 = 7)  (H0 : mj_rd h 0 = some (.inr (0, [.ref 1, .ref 38, .ref 299, .ref 336, .ref 373, .ref 375, .ref 378, .ref 381, .ref 387, .ref 393, gs, pl, .ref 397, .ref 398, .ref 399, .long sd, .long be]))) (H397 : mj_rd h 397 = some (.inl (0, (8, .inl (im))))) (H399 : mj_rd h 399 = some (.inl (0, (8, .inl (ta))))) (H400 : mj_rd h 400 = some (.inr (17, [.int th, .ref 401, .ref 402, ty, .long sd, .long be, .ref 410, wa, nw, nx, .ref 411]))) (H411 : mj_rd h 411 = some (.inl (0, (8, .inl (jm))))) (hn : ∀ (l6 l7 l8 l9 : Option Value) (h' : mj_H), mj_rd h' 400 = some (.inr (17, [.int (nI 0), .ref 401, .ref 402, ty, .long sd, .long be, .ref 410, wa, nw, nx, .ref 411])) ∧ (∃ t, mj_rd h' 399 = some (.inl (0, (8, .inl t)))) ∧ mz_fr [399, 400] h h' ∧ h'.length ≤ N + 0 ∧ mj_sz h' ≤ mj_sz h + 0 → mj_lrun L xs (28, [some (.retAddr 1), some (.ref 0), some (.ref 400), some (.ref 412), some (.ref 413), some (.int (nI (i + 4))), l6, l7, l8, l9], [], h') P) : mj_lrun L xs (28, [some (.retAddr 1), some (.ref 0), some (.ref 400), some (.ref 412), some (.ref 413), some (.int (nI i)), l6, l7, l8, l9], [], h) P := by
  refine l_ild (p' := 30) rfl rfl rfl rfl ?_
  refine l_alds (p' := 31) rfl rfl rfl rfl ?_
  refine l_lens (p' := 32) rfl rfl rfl ?_
  refine l_con (p' := 33) rfl rfl rfl ?_
  refine l_bz (p' := 34) (z := (nI (L - 4))) rfl rfl rfl rfl rfl (mI_sub (by omega)) ?_
  refine l_icmp (p' := 37) false rfl rfl ((ci_gt (by omega) (by omega)).trans (decide_eq_false (by omega))) rfl ?_
  refine l_alds (p' := 38) rfl rfl rfl rfl ?_
  refine l_ild (p' := 40) rfl rfl rfl rfl ?_
  refine l_ialz (p' := 41) (m := i) (z := (xs i)) rfl rfl (inb_nI (by omega) (by omega)) (mI_cl (by omega)) rfl rfl ?_
  refine l_bip (p' := 43) rfl rfl rfl ?_
  refine l_bz (p' := 44) (z := (nI 43)) rfl rfl rfl rfl rfl hk ?_
  refine l_sp (p' := 2269) (ls' := _) rfl rfl rfl rfl rfl ?_
  refine l_aldn (p' := 2270) rfl rfl rfl rfl ?_
  refine l_call (p' := 2273) (kc := 99) (ls0 := [_, _, _]) rfl rfl rfl rfl rfl rfl (mj_rcv_is H0) rfl rfl rfl ?_
  refine s_aldn (p' := 1) rfl rfl rfl ?_
  refine s_callEN (p' := 4) (ls0 := [_, _, _]) rfl rfl rfl rfl rfl (mj_rcv_is H0) rfl (x_cnt (x := 0) (A := 397) (T := 399) (by decide) (by decide) (by decide) hIM H0 H397 H399) rfl rfl ?_
  rintro g1 ⟨t1, ht1, rfl⟩
  refine s_con (p' := 5) rfl rfl ?_
  refine s_istn (p' := 6) (ls' := [_, _, _]) rfl rfl rfl rfl ?_
  refine s_con (p' := 7) rfl rfl ?_
  refine s_istn (p' := 8) (ls' := [_, _, _]) rfl rfl rfl rfl ?_
  refine mj_Wp.mono (k := 5) ?_ (by decide)
  refine x_foL (x := 0) (T := 399) (c := cti IM 8) (fun v => cti_le IM 8 v) ht1 (rd_sn rfl H0) (rd_ss rfl H399) 8 0 rfl ?_
  rw [hmis]
  refine s_ildn (p' := 36) rfl rfl rfl ?_
  refine s_bzF (p' := 37) (z := (UInt32.ofNat 1088421888)) rfl rfl rfl (by decide +kernel) ?_
  refine s_sh (p' := 40) (ls' := _) (st' := .float (UInt32.ofNat 1090519040) :: _) (h' := _) rfl rfl rfl rfl ?_
  refine s_fdivz (p' := 41) (z := (UInt32.ofNat 1063256064)) rfl (by decide +kernel) (by decide +kernel) rfl ?_
  refine k_fret rfl ?_
  refine l_f2dz (p' := 2274) (z := (UInt64.ofNat 4606056518893174784)) rfl rfl (by decide +kernel) (by decide +kernel) rfl ?_
  refine l_sp (p' := 2276) (ls' := [_, _, _, _, _, _, _, _, _, _]) rfl rfl rfl rfl rfl ?_
  refine l_aldn (p' := 2277) rfl rfl rfl rfl ?_
  refine l_call (p' := 2280) (kc := 99) (ls0 := [_, _, _]) rfl rfl rfl rfl rfl rfl (mj_rcv_is (rd_sn rfl H400)) rfl rfl rfl ?_
  refine s_aldn (p' := 1) rfl rfl rfl ?_
  refine s_con (p' := 2) rfl rfl ?_
  refine s_pfz (p' := 5) (fs' := [_, _, _, _, _, _, _, _, _, _, _]) rfl rfl (rd_sn rfl H400) rfl rfl rfl rfl ?_
  refine s_con (p' := 6) rfl rfl ?_
  refine s_istn (p' := 7) (ls' := [_, _, _]) rfl rfl rfl rfl ?_
  refine s_con (p' := 8) rfl rfl ?_
  refine s_istn (p' := 9) (ls' := [_, _, _]) rfl rfl rfl rfl ?_
  refine mj_Wp.mono (k := 5) ?_ (by decide)
  refine y_foL (x := 400) (A := 411) hJM (rd_ss rfl (rd_sn rfl H400)) (rd_sn rfl (rd_sn rfl H411)) 8 0 rfl ?_
  rw [hmis]
  refine s_ildn (p' := 38) rfl rfl rfl ?_
  refine s_bzF (p' := 39) (z := (UInt32.ofNat 1088421888)) rfl rfl rfl (by decide +kernel) ?_
  refine s_sh (p' := 42) (ls' := _) (st' := .float (UInt32.ofNat 1090519040) :: _) (h' := _) rfl rfl rfl rfl ?_
  refine s_fdivz (p' := 43) (z := (UInt32.ofNat 1063256064)) rfl (by decide +kernel) (by decide +kernel) rfl ?_
  refine k_fret rfl ?_
  refine l_f2dz (p' := 2281) (z := (UInt64.ofNat 4606056518893174784)) rfl rfl (by decide +kernel) (by decide +kernel) rfl ?_
  refine l_sp (p' := 2283) (ls' := [_, _, _, _, _, _, _, _, _, _]) rfl rfl rfl rfl rfl ?_
  refine l_sp (p' := 2285) (ls' := _) rfl rfl rfl rfl rfl ?_
  refine l_sp (p' := 2287) (ls' := _) rfl rfl rfl rfl rfl ?_
  refine l_bz (p' := 2288) (z := (nI 0)) rfl rfl rfl rfl rfl (by decide +kernel) ?_
  refine l_if (p' := 2309) true rfl rfl (by decide +kernel) rfl ?_
  refine l_goto (p' := 2541) rfl rfl rfl ?_
  refine l_incz (p' := 2544) (w := (nI (i + 4))) (ls' := [_, _, _, _, _, _, _, _, _, _]) rfl rfl rfl rfl (mI_add _ _) rfl rfl ?_
  refine l_goto (p' := 28) rfl rfl rfl ?_
  exact hn _ _ _ _ _ ⟨(rd_ss rfl (rd_sn rfl H400)), ⟨t1, (rd_sn rfl (rd_ss rfl H399))⟩, (mz_fr.s (by decide) (mz_fr.s (by decide) (mz_fr.rf _ h))), (Nat.le_trans (Nat.le_of_eq (len_s (len_s HL))) (by omega)), (Nat.le_trans (sz_s rfl (rd_sn rfl H400) rfl (sz_sA rfl H399 (Nat.le_refl (mj_sz h)))) (by omega))⟩
theorem w_43_8 {L i N : Nat} {xs : Nat → Int32} {h : mj_H} {l6 l7 l8 l9 : Option Value} {P : mj_H → Prop} (hL : L ≤ 2048) (hi : i + 4 ≤ L) (hN : N + 2000 < mj_CB) (hN0 : 414 ≤ N) (HL : h.length = N) (hk : xs i &&& nI 63 = nI 43) {gs pl ty wa nw nx dp ca mf : Value} {th : Int32} {sd be : Int64} {ou : Nat → Int64} {vf wf sf uf im jm : Nat → Int32} {k g : Nat} (hk20 : k ≤ 20) (hvw : ∀ j, j < 8 → wf j = vf j) (hsu : ∀ j, j < k → uf j = sf j) {pe pm ge gm : Value} {q : Nat} (hq6 : q ≤ 6) (hg24 : g ≤ 24) {ta : Nat → Int32} {IM : Nat → Nat} (hIM : ∀ j, j < 8 → im j = nI (IM j) ∧ IM j < 8) (hJM : ∀ j, j < 8 → jm j = nI (IM j) ∧ IM j < 8) (hmis : mis (cti IM 8) 8 = 8)  (H0 : mj_rd h 0 = some (.inr (0, [.ref 1, .ref 38, .ref 299, .ref 336, .ref 373, .ref 375, .ref 378, .ref 381, .ref 387, .ref 393, gs, pl, .ref 397, .ref 398, .ref 399, .long sd, .long be]))) (H397 : mj_rd h 397 = some (.inl (0, (8, .inl (im))))) (H399 : mj_rd h 399 = some (.inl (0, (8, .inl (ta))))) (H400 : mj_rd h 400 = some (.inr (17, [.int th, .ref 401, .ref 402, ty, .long sd, .long be, .ref 410, wa, nw, nx, .ref 411]))) (H411 : mj_rd h 411 = some (.inl (0, (8, .inl (jm))))) (hn : ∀ (l6 l7 l8 l9 : Option Value) (h' : mj_H), mj_rd h' 400 = some (.inr (17, [.int (nI 0), .ref 401, .ref 402, ty, .long sd, .long be, .ref 410, wa, nw, nx, .ref 411])) ∧ (∃ t, mj_rd h' 399 = some (.inl (0, (8, .inl t)))) ∧ mz_fr [399, 400] h h' ∧ h'.length ≤ N + 0 ∧ mj_sz h' ≤ mj_sz h + 0 → mj_lrun L xs (28, [some (.retAddr 1), some (.ref 0), some (.ref 400), some (.ref 412), some (.ref 413), some (.int (nI (i + 4))), l6, l7, l8, l9], [], h') P) : mj_lrun L xs (28, [some (.retAddr 1), some (.ref 0), some (.ref 400), some (.ref 412), some (.ref 413), some (.int (nI i)), l6, l7, l8, l9], [], h) P := by
  refine l_ild (p' := 30) rfl rfl rfl rfl ?_
  refine l_alds (p' := 31) rfl rfl rfl rfl ?_
  refine l_lens (p' := 32) rfl rfl rfl ?_
  refine l_con (p' := 33) rfl rfl rfl ?_
  refine l_bz (p' := 34) (z := (nI (L - 4))) rfl rfl rfl rfl rfl (mI_sub (by omega)) ?_
  refine l_icmp (p' := 37) false rfl rfl ((ci_gt (by omega) (by omega)).trans (decide_eq_false (by omega))) rfl ?_
  refine l_alds (p' := 38) rfl rfl rfl rfl ?_
  refine l_ild (p' := 40) rfl rfl rfl rfl ?_
  refine l_ialz (p' := 41) (m := i) (z := (xs i)) rfl rfl (inb_nI (by omega) (by omega)) (mI_cl (by omega)) rfl rfl ?_
  refine l_bip (p' := 43) rfl rfl rfl ?_
  refine l_bz (p' := 44) (z := (nI 43)) rfl rfl rfl rfl rfl hk ?_
  refine l_sp (p' := 2269) (ls' := _) rfl rfl rfl rfl rfl ?_
  refine l_aldn (p' := 2270) rfl rfl rfl rfl ?_
  refine l_call (p' := 2273) (kc := 99) (ls0 := [_, _, _]) rfl rfl rfl rfl rfl rfl (mj_rcv_is H0) rfl rfl rfl ?_
  refine s_aldn (p' := 1) rfl rfl rfl ?_
  refine s_callEN (p' := 4) (ls0 := [_, _, _]) rfl rfl rfl rfl rfl (mj_rcv_is H0) rfl (x_cnt (x := 0) (A := 397) (T := 399) (by decide) (by decide) (by decide) hIM H0 H397 H399) rfl rfl ?_
  rintro g1 ⟨t1, ht1, rfl⟩
  refine s_con (p' := 5) rfl rfl ?_
  refine s_istn (p' := 6) (ls' := [_, _, _]) rfl rfl rfl rfl ?_
  refine s_con (p' := 7) rfl rfl ?_
  refine s_istn (p' := 8) (ls' := [_, _, _]) rfl rfl rfl rfl ?_
  refine mj_Wp.mono (k := 5) ?_ (by decide)
  refine x_foL (x := 0) (T := 399) (c := cti IM 8) (fun v => cti_le IM 8 v) ht1 (rd_sn rfl H0) (rd_ss rfl H399) 8 0 rfl ?_
  rw [hmis]
  refine s_ildn (p' := 36) rfl rfl rfl ?_
  refine s_bzF (p' := 37) (z := (UInt32.ofNat 1090519040)) rfl rfl rfl (by decide +kernel) ?_
  refine s_sh (p' := 40) (ls' := _) (st' := .float (UInt32.ofNat 1090519040) :: _) (h' := _) rfl rfl rfl rfl ?_
  refine s_fdivz (p' := 41) (z := (UInt32.ofNat 1065353216)) rfl (by decide +kernel) (by decide +kernel) rfl ?_
  refine k_fret rfl ?_
  refine l_f2dz (p' := 2274) (z := (UInt64.ofNat 4607182418800017408)) rfl rfl (by decide +kernel) (by decide +kernel) rfl ?_
  refine l_sp (p' := 2276) (ls' := [_, _, _, _, _, _, _, _, _, _]) rfl rfl rfl rfl rfl ?_
  refine l_aldn (p' := 2277) rfl rfl rfl rfl ?_
  refine l_call (p' := 2280) (kc := 99) (ls0 := [_, _, _]) rfl rfl rfl rfl rfl rfl (mj_rcv_is (rd_sn rfl H400)) rfl rfl rfl ?_
  refine s_aldn (p' := 1) rfl rfl rfl ?_
  refine s_con (p' := 2) rfl rfl ?_
  refine s_pfz (p' := 5) (fs' := [_, _, _, _, _, _, _, _, _, _, _]) rfl rfl (rd_sn rfl H400) rfl rfl rfl rfl ?_
  refine s_con (p' := 6) rfl rfl ?_
  refine s_istn (p' := 7) (ls' := [_, _, _]) rfl rfl rfl rfl ?_
  refine s_con (p' := 8) rfl rfl ?_
  refine s_istn (p' := 9) (ls' := [_, _, _]) rfl rfl rfl rfl ?_
  refine mj_Wp.mono (k := 5) ?_ (by decide)
  refine y_foL (x := 400) (A := 411) hJM (rd_ss rfl (rd_sn rfl H400)) (rd_sn rfl (rd_sn rfl H411)) 8 0 rfl ?_
  rw [hmis]
  refine s_ildn (p' := 38) rfl rfl rfl ?_
  refine s_bzF (p' := 39) (z := (UInt32.ofNat 1090519040)) rfl rfl rfl (by decide +kernel) ?_
  refine s_sh (p' := 42) (ls' := _) (st' := .float (UInt32.ofNat 1090519040) :: _) (h' := _) rfl rfl rfl rfl ?_
  refine s_fdivz (p' := 43) (z := (UInt32.ofNat 1065353216)) rfl (by decide +kernel) (by decide +kernel) rfl ?_
  refine k_fret rfl ?_
  refine l_f2dz (p' := 2281) (z := (UInt64.ofNat 4607182418800017408)) rfl rfl (by decide +kernel) (by decide +kernel) rfl ?_
  refine l_sp (p' := 2283) (ls' := [_, _, _, _, _, _, _, _, _, _]) rfl rfl rfl rfl rfl ?_
  refine l_sp (p' := 2285) (ls' := _) rfl rfl rfl rfl rfl ?_
  refine l_sp (p' := 2287) (ls' := _) rfl rfl rfl rfl rfl ?_
  refine l_bz (p' := 2288) (z := (nI 0)) rfl rfl rfl rfl rfl (by decide +kernel) ?_
  refine l_if (p' := 2309) true rfl rfl (by decide +kernel) rfl ?_
  refine l_goto (p' := 2541) rfl rfl rfl ?_
  refine l_incz (p' := 2544) (w := (nI (i + 4))) (ls' := [_, _, _, _, _, _, _, _, _, _]) rfl rfl rfl rfl (mI_add _ _) rfl rfl ?_
  refine l_goto (p' := 28) rfl rfl rfl ?_
  exact hn _ _ _ _ _ ⟨(rd_ss rfl (rd_sn rfl H400)), ⟨t1, (rd_sn rfl (rd_ss rfl H399))⟩, (mz_fr.s (by decide) (mz_fr.s (by decide) (mz_fr.rf _ h))), (Nat.le_trans (Nat.le_of_eq (len_s (len_s HL))) (by omega)), (Nat.le_trans (sz_s rfl (rd_sn rfl H400) rfl (sz_sA rfl H399 (Nat.le_refl (mj_sz h)))) (by omega))⟩
