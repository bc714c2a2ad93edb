/-! One call on fresh objects. -/
theorem p1_1 {xs : Nat → Int32} {h : mj_H} (hk : xs 0 &&& nI 63 = nI 1)   (HL : h.length = 414) (HZ : mj_sz h ≤ 20000) (H0 : mj_rd h 0 = some (.inr (0, [.ref 1, .ref 38, .ref 299, .ref 336, .ref 373, .ref 375, .ref 378, .ref 381, .ref 387, .ref 393, .null, .null, .ref 397, .ref 398, .ref 399, .long (lN 0), .long (lN 0)]))) (H1 : mj_rd h 1 = some (.inr (1, [.ref 2, .ref 4, .ref 37]))) (H2 : mj_rd h 2 = some (.inr (2, [.ref 3, .int (nI 0)]))) (H400 : mj_rd h 400 = some (.inr (17, [.int (nI 0), .ref 401, .ref 402, .ref 1000300, .long (lN 0), .long (lN 0), .ref 410, .null, .null, .null, .ref 411]))) : mj_fin 4 xs h := by
  unfold mj_fin
  refine l_ild (p' := 30) rfl rfl rfl rfl ?_
  refine l_alds (p' := 31) rfl rfl rfl rfl ?_
  refine l_lens (p' := 32) rfl rfl rfl ?_
  refine l_con (p' := 33) rfl rfl rfl ?_
  refine l_bz (p' := 34) (z := (nI 0)) rfl rfl rfl rfl rfl (by decide +kernel) ?_
  refine l_icmp (p' := 37) false rfl rfl (by decide +kernel) rfl ?_
  refine l_alds (p' := 38) rfl rfl rfl rfl ?_
  refine l_ild (p' := 40) rfl rfl rfl rfl ?_
  refine l_ialz (p' := 41) (m := 0) (z := (xs 0)) rfl rfl (by decide +kernel) rfl rfl rfl ?_
  refine l_bip (p' := 43) rfl rfl rfl ?_
  refine l_bz (p' := 44) (z := (nI 1)) rfl rfl rfl rfl rfl hk ?_
  refine l_sp (p' := 318) (ls' := _) rfl rfl rfl rfl rfl ?_
  refine l_aldn (p' := 319) rfl rfl rfl rfl ?_
  refine l_call (p' := 322) (kc := 99) (ls0 := [_, _]) rfl rfl rfl rfl rfl rfl (mj_rcv_is H0) rfl rfl rfl ?_
  refine s_aldn (p' := 1) rfl rfl rfl ?_
  refine s_gf (p' := 4) rfl H0 rfl rfl ?_
  refine s_gf (p' := 7) rfl H1 rfl rfl ?_
  refine c_call (p' := 10) (kc := 98) (ls0 := [_]) rfl rfl rfl rfl rfl (mj_rcv_is H2) rfl rfl rfl ?_
  refine s_aldn (p' := 1) rfl rfl rfl ?_
  refine s_gf (p' := 4) rfl H2 rfl rfl ?_
  refine c_iret rfl rfl ?_
  refine s_istn (p' := 11) (ls' := [_, _]) rfl rfl rfl rfl ?_
  refine s_aldn (p' := 12) rfl rfl rfl ?_
  refine s_gf (p' := 15) rfl H0 rfl rfl ?_
  refine s_gf (p' := 18) rfl H1 rfl rfl ?_
  refine c_call (p' := 21) (kc := 98) (ls0 := [_]) rfl rfl rfl rfl rfl (mj_rcv_is H2) rfl rfl rfl ?_
  refine s_aldn (p' := 1) rfl rfl rfl ?_
  refine s_con (p' := 2) rfl rfl ?_
  refine s_pfz (p' := 5) (fs' := [_, _]) rfl rfl H2 rfl rfl rfl rfl ?_
  refine c_ret rfl ?_
  refine s_ildn (p' := 22) rfl rfl rfl ?_
  refine k_iret rfl rfl ?_
  refine l_aldn (p' := 323) rfl rfl rfl rfl ?_
  refine l_call (p' := 326) (kc := 99) (ls0 := [_, _]) rfl rfl rfl rfl rfl rfl (mj_rcv_is (rd_sn rfl H400)) rfl rfl rfl ?_
  refine s_aldn (p' := 1) rfl rfl rfl ?_
  refine s_con (p' := 2) rfl rfl ?_
  refine s_pfz (p' := 5) (fs' := [_, _, _, _, _, _, _, _, _, _, _]) rfl rfl (rd_sn rfl H400) rfl rfl rfl rfl ?_
  refine s_aldn (p' := 6) rfl rfl rfl ?_
  refine s_gf (p' := 9) rfl (rd_ss rfl (rd_sn rfl H400)) rfl rfl ?_
  refine c_call (p' := 12) (kc := 98) (ls0 := [_]) rfl rfl rfl rfl rfl (mj_rcv_is (k_300 _)) rfl rfl rfl ?_
  refine s_aldn (p' := 1) rfl rfl rfl ?_
  refine s_gf (p' := 4) rfl (k_300 _) rfl rfl ?_
  refine s_lenz (p' := 5) rfl (mj_rdA_cst (k_301 _) (by decide)) rfl rfl ?_
  refine s_aldn (p' := 6) rfl rfl rfl ?_
  refine c_call (p' := 9) (kc := 97) (ls0 := [_]) rfl rfl rfl rfl rfl (mj_rcv_is (k_300 _)) rfl rfl rfl ?_
  refine s_sh (p' := 3) (ls' := _) (st' := .int (nI 1) :: _) (h' := _) rfl rfl rfl rfl ?_
  refine s_if (p' := 6) false rfl (by decide +kernel) rfl ?_
  refine s_aldn (p' := 7) rfl rfl rfl ?_
  refine s_gf (p' := 10) rfl (k_300 _) rfl rfl ?_
  refine s_goto (p' := 14) rfl rfl ?_
  refine c_iret rfl (by decide +kernel) ?_
  refine s_bz (p' := 10) (z := (nI 0)) rfl rfl rfl (by decide +kernel) ?_
  refine c_iret rfl rfl ?_
  refine s_istn (p' := 13) (ls' := [_, _]) rfl rfl rfl rfl ?_
  refine s_aldn (p' := 14) rfl rfl rfl ?_
  refine s_sh (p' := 16) (ls' := _) (st' := .ref 1000300 :: _) (h' := _) rfl rfl rfl rfl ?_
  refine s_pfz (p' := 19) (fs' := [_, _, _, _, _, _, _, _, _, _, _]) rfl rfl (rd_ss rfl (rd_sn rfl H400)) rfl rfl rfl rfl ?_
  refine s_ildn (p' := 20) rfl rfl rfl ?_
  refine k_iret rfl rfl ?_
  refine l_icmp (p' := 2541) true rfl rfl (by decide +kernel) rfl ?_
  refine l_incz (p' := 2544) (w := (nI 4)) (ls' := [_, _, _, _, _, _, _, _, _, _]) rfl rfl rfl rfl (by decide +kernel) rfl rfl ?_
  refine l_goto (p' := 28) rfl rfl rfl ?_
  refine l_ild (p' := 30) rfl rfl rfl rfl ?_
  refine l_alds (p' := 31) rfl rfl rfl rfl ?_
  refine l_lens (p' := 32) rfl rfl rfl ?_
  refine l_con (p' := 33) rfl rfl rfl ?_
  refine l_bz (p' := 34) (z := (nI 0)) rfl rfl rfl rfl rfl (by decide +kernel) ?_
  refine l_icmp (p' := 2547) true rfl rfl (by decide +kernel) rfl ?_
  refine l_con (p' := 2548) rfl rfl rfl ?_
  refine l_end rfl rfl ?_
  exact ⟨Nat.le_trans (Nat.le_of_eq (len_s (len_s (len_s HL)))) (Nat.le_of_ble_eq_true rfl), Nat.le_trans (sz_s rfl (rd_ss rfl (rd_sn rfl H400)) rfl (sz_s rfl (rd_sn rfl H400) rfl (sz_s rfl H2 rfl HZ))) (Nat.le_of_ble_eq_true rfl)⟩
theorem p1_2 {xs : Nat → Int32} {h : mj_H} (hk : xs 0 &&& nI 63 = nI 2)   (HL : h.length = 414) (HZ : mj_sz h ≤ 20000) (H0 : mj_rd h 0 = some (.inr (0, [.ref 1, .ref 38, .ref 299, .ref 336, .ref 373, .ref 375, .ref 378, .ref 381, .ref 387, .ref 393, .null, .null, .ref 397, .ref 398, .ref 399, .long (lN 0), .long (lN 0)]))) (H1 : mj_rd h 1 = some (.inr (1, [.ref 2, .ref 4, .ref 37]))) (H2 : mj_rd h 2 = some (.inr (2, [.ref 3, .int (nI 0)]))) (H4 : mj_rd h 4 = some (.inr (3, [.ref 5, .ref 6, .int (nI 0)]))) (H37 : mj_rd h 37 = some (.inr (5, [.ref 2, .ref 4, .int (nI 0), .int (nI 0), .int (nI 32), .int (nI 0)]))) (H400 : mj_rd h 400 = some (.inr (17, [.int (nI 0), .ref 401, .ref 402, .ref 1000300, .long (lN 0), .long (lN 0), .ref 410, .null, .null, .null, .ref 411]))) : mj_fin 4 xs h := by
  unfold mj_fin
  refine l_ild (p' := 30) rfl rfl rfl rfl ?_
  refine l_alds (p' := 31) rfl rfl rfl rfl ?_
  refine l_lens (p' := 32) rfl rfl rfl ?_
  refine l_con (p' := 33) rfl rfl rfl ?_
  refine l_bz (p' := 34) (z := (nI 0)) rfl rfl rfl rfl rfl (by decide +kernel) ?_
  refine l_icmp (p' := 37) false rfl rfl (by decide +kernel) rfl ?_
  refine l_alds (p' := 38) rfl rfl rfl rfl ?_
  refine l_ild (p' := 40) rfl rfl rfl rfl ?_
  refine l_ialz (p' := 41) (m := 0) (z := (xs 0)) rfl rfl (by decide +kernel) rfl rfl rfl ?_
  refine l_bip (p' := 43) rfl rfl rfl ?_
  refine l_bz (p' := 44) (z := (nI 2)) rfl rfl rfl rfl rfl hk ?_
  refine l_sp (p' := 331) (ls' := _) rfl rfl rfl rfl rfl ?_
  refine l_aldn (p' := 332) rfl rfl rfl rfl ?_
  refine l_aldn (p' := 333) rfl rfl rfl rfl ?_
  refine l_call (p' := 336) (kc := 99) (ls0 := [_, _, _]) rfl rfl rfl rfl rfl rfl rfl rfl rfl rfl ?_
  refine s_aldn (p' := 1) rfl rfl rfl ?_
  refine s_con (p' := 2) rfl rfl ?_
  refine s_aldn (p' := 3) rfl rfl rfl ?_
  refine c_call (p' := 6) (kc := 98) (ls0 := [_]) rfl rfl rfl rfl rfl (mj_rcv_is H0) rfl rfl rfl ?_
  refine s_aldn (p' := 1) rfl rfl rfl ?_
  refine s_gf (p' := 4) rfl H0 rfl rfl ?_
  refine s_gf (p' := 7) rfl H1 rfl rfl ?_
  refine c_call (p' := 10) (kc := 97) (ls0 := [_]) rfl rfl rfl rfl rfl (mj_rcv_is H37) rfl rfl rfl ?_
  refine s_aldn (p' := 1) rfl rfl rfl ?_
  refine s_con (p' := 2) rfl rfl ?_
  refine s_pfz (p' := 5) (fs' := [_, _, _, _, _, _]) rfl rfl H37 rfl rfl rfl rfl ?_
  refine s_aldn (p' := 6) rfl rfl rfl ?_
  refine s_gf (p' := 9) rfl (rd_ss rfl H37) rfl rfl ?_
  refine c_call (p' := 12) (kc := 96) (ls0 := [_]) rfl rfl rfl rfl rfl (mj_rcv_is (rd_sn rfl H4)) rfl rfl rfl ?_
  refine s_aldn (p' := 1) rfl rfl rfl ?_
  refine s_con (p' := 2) rfl rfl ?_
  refine s_pfz (p' := 5) (fs' := [_, _, _]) rfl rfl (rd_sn rfl H4) rfl rfl rfl rfl ?_
  refine c_ret rfl ?_
  refine s_aldn (p' := 13) rfl rfl rfl ?_
  refine s_con (p' := 14) rfl rfl ?_
  refine s_con (p' := 15) rfl rfl ?_
  refine c_call (p' := 18) (kc := 96) (ls0 := [_, _, _, _]) rfl rfl rfl rfl rfl (mj_rcv_is (rd_sn rfl (rd_ss rfl H37))) rfl rfl rfl ?_
  refine s_aldn (p' := 1) rfl rfl rfl ?_
  refine c_call (p' := 4) (kc := 95) (ls0 := [_]) rfl rfl rfl rfl rfl (mj_rcv_is (rd_sn rfl (rd_ss rfl H37))) rfl rfl rfl ?_
  refine s_aldn (p' := 1) rfl rfl rfl ?_
  refine s_gf (p' := 4) rfl (rd_sn rfl (rd_ss rfl H37)) rfl rfl ?_
  refine s_if (p' := 7) false rfl (by decide +kernel) rfl ?_
  refine s_aldn (p' := 8) rfl rfl rfl ?_
  refine s_gf (p' := 11) rfl (rd_sn rfl (rd_ss rfl H37)) rfl rfl ?_
  refine s_aldn (p' := 12) rfl rfl rfl ?_
  refine s_gf (p' := 15) rfl (rd_sn rfl (rd_ss rfl H37)) rfl rfl ?_
  refine s_gf (p' := 18) rfl (rd_sn rfl (rd_sn rfl H2)) rfl rfl ?_
  refine s_icmp (p' := 51) true rfl (by decide +kernel) rfl ?_
  refine s_con (p' := 52) rfl rfl ?_
  refine c_iret rfl rfl ?_
  refine s_ildn (p' := 5) rfl rfl rfl ?_
  refine s_icmp (p' := 8) false rfl (by decide +kernel) rfl ?_
  refine s_con (p' := 9) rfl rfl ?_
  refine c_iret rfl (by decide +kernel) ?_
  refine c_iret rfl (by decide +kernel) ?_
  refine s_if (p' := 13) false rfl (by decide +kernel) rfl ?_
  refine s_thrz (q := 414) rfl (len_s (len_s HL)) rfl ?_
  refine K_c (hp := 11) rfl (mj_ocl_is (rd_nw rfl (len_s (len_s HL)))) rfl ?_
  refine s_astn (p' := 12) (ls' := [_, _, _]) rfl rfl rfl rfl ?_
  refine s_con (p' := 13) rfl rfl ?_
  refine k_iret rfl rfl ?_
  refine l_ist (p' := 338) (ls' := [_, _, _, _, _, _, _, _, _, _]) rfl rfl rfl rfl rfl ?_
  refine l_aldn (p' := 339) rfl rfl rfl rfl ?_
  refine l_call (p' := 342) (kc := 99) (ls0 := [_, _]) rfl rfl rfl rfl rfl rfl (mj_rcv_is (rd_app (rd_sn rfl (rd_sn rfl H400)))) rfl rfl rfl ?_
  refine s_aldn (p' := 1) rfl rfl rfl ?_
  refine s_aldn (p' := 2) rfl rfl rfl ?_
  refine s_gf (p' := 5) rfl (rd_app (rd_sn rfl (rd_sn rfl H400))) rfl rfl ?_
  refine c_call (p' := 8) (kc := 98) (ls0 := [_, _, _]) rfl rfl rfl rfl rfl (mj_rcv_is (rd_app (rd_sn rfl (rd_sn rfl H400)))) rfl rfl rfl ?_
  refine s_newz (p' := 3) (a := 415) rfl (len_a (len_s (len_s HL)) rfl) rfl rfl ?_
  refine s_dupr (p' := 4) rfl rfl ?_
  refine s_aldn (p' := 5) rfl rfl rfl ?_
  refine c_call (p' := 8) (kc := 97) (ls0 := [_, _]) rfl rfl rfl rfl rfl (mj_rcv_is (rd_nw rfl (len_a (len_s (len_s HL)) rfl))) rfl rfl rfl ?_
  refine s_aldn (p' := 1) rfl rfl rfl ?_
  refine s_primN (p' := 4) (q := 3) rfl rfl rfl rfl rfl rfl rfl rfl ?_
  refine s_aldn (p' := 5) rfl rfl rfl ?_
  refine s_aldn (p' := 6) rfl rfl rfl ?_
  refine s_pfz (p' := 9) (fs' := [_, _, _]) rfl rfl (rd_nw rfl (len_a (len_s (len_s HL)) rfl)) rfl rfl rfl rfl ?_
  refine c_ret rfl ?_
  refine c_call (p' := 11) (kc := 97) (ls0 := [_]) rfl rfl rfl rfl rfl (mj_rcv_is (rd_ss rfl (rd_nw rfl (len_a (len_s (len_s HL)) rfl)))) rfl rfl rfl ?_
  refine s_aldn (p' := 1) rfl rfl rfl ?_
  refine s_con (p' := 2) rfl rfl ?_
  refine c_call (p' := 5) (kc := 96) (ls0 := [_, _, _]) rfl rfl rfl rfl rfl (mj_rcv_is (rd_ss rfl (rd_nw rfl (len_a (len_s (len_s HL)) rfl)))) rfl rfl rfl ?_
  refine s_newz (p' := 3) (a := 416) rfl (len_s (len_a (len_a (len_s (len_s HL)) rfl) rfl)) rfl rfl ?_
  refine s_dupr (p' := 4) rfl rfl ?_
  refine c_call (p' := 7) (kc := 95) (ls0 := [_]) rfl rfl rfl rfl rfl (mj_rcv_is (rd_nw rfl (len_s (len_a (len_a (len_s (len_s HL)) rfl) rfl)))) rfl rfl rfl ?_
  refine s_aldn (p' := 1) rfl rfl rfl ?_
  refine c_call (p' := 4) (kc := 94) (ls0 := [_]) rfl rfl rfl rfl rfl (mj_rcv_is (rd_nw rfl (len_s (len_a (len_a (len_s (len_s HL)) rfl) rfl)))) rfl rfl rfl ?_
  refine s_aldn (p' := 1) rfl rfl rfl ?_
  refine c_call (p' := 4) (kc := 93) (ls0 := [_]) rfl rfl rfl rfl rfl (mj_rcv_is (rd_nw rfl (len_s (len_a (len_a (len_s (len_s HL)) rfl) rfl)))) rfl rfl rfl ?_
  refine s_aldn (p' := 1) rfl rfl rfl ?_
  refine s_primN (p' := 4) (q := 3) rfl rfl rfl rfl rfl rfl rfl rfl ?_
  refine c_ret rfl ?_
  refine s_aldn (p' := 5) rfl rfl rfl ?_
  refine s_con (p' := 6) rfl rfl ?_
  refine s_pfz (p' := 9) (fs' := [_, _, _]) rfl rfl (rd_nw rfl (len_s (len_a (len_a (len_s (len_s HL)) rfl) rfl))) rfl rfl rfl rfl ?_
  refine c_ret rfl ?_
  refine s_aldn (p' := 5) rfl rfl rfl ?_
  refine s_sh (p' := 8) (ls' := _) (st' := .ref 1000000 :: _) (h' := _) rfl rfl rfl rfl ?_
  refine s_pfz (p' := 11) (fs' := [_, _, _]) rfl rfl (rd_ss rfl (rd_nw rfl (len_s (len_a (len_a (len_s (len_s HL)) rfl) rfl)))) rfl rfl rfl rfl ?_
  refine c_ret rfl ?_
  refine s_astn (p' := 8) (ls' := [_, _, _]) rfl rfl rfl rfl ?_
  refine s_aldn (p' := 9) rfl rfl rfl ?_
  refine s_ildn (p' := 10) rfl rfl rfl ?_
  refine c_call (p' := 13) (kc := 95) (ls0 := [_, _]) rfl rfl rfl rfl rfl (mj_rcv_is (rd_sn rfl (rd_sn rfl (rd_app (rd_ss rfl (rd_nw rfl (len_a (len_s (len_s HL)) rfl))))))) rfl rfl rfl ?_
  refine s_ildn (p' := 1) rfl rfl rfl ?_
  refine s_if (p' := 4) false rfl (by decide +kernel) rfl ?_
  refine s_aldn (p' := 5) rfl rfl rfl ?_
  refine s_gf (p' := 8) rfl (rd_sn rfl (rd_sn rfl (rd_app (rd_ss rfl (rd_nw rfl (len_a (len_s (len_s HL)) rfl)))))) rfl rfl ?_
  refine s_aldn (p' := 9) rfl rfl rfl ?_
  refine s_gf (p' := 12) rfl (rd_sn rfl (rd_sn rfl (rd_app (rd_ss rfl (rd_nw rfl (len_a (len_s (len_s HL)) rfl)))))) rfl rfl ?_
  refine c_call (p' := 15) (kc := 94) (ls0 := [_]) rfl rfl rfl rfl rfl (mj_rcv_is (k_300 _)) rfl rfl rfl ?_
  refine s_aldn (p' := 1) rfl rfl rfl ?_
  refine s_gf (p' := 4) rfl (k_300 _) rfl rfl ?_
  refine s_lenz (p' := 5) rfl (mj_rdA_cst (k_301 _) (by decide)) rfl rfl ?_
  refine s_aldn (p' := 6) rfl rfl rfl ?_
  refine c_call (p' := 9) (kc := 93) (ls0 := [_]) rfl rfl rfl rfl rfl (mj_rcv_is (k_300 _)) rfl rfl rfl ?_
  refine s_sh (p' := 3) (ls' := _) (st' := .int (nI 1) :: _) (h' := _) rfl rfl rfl rfl ?_
  refine s_if (p' := 6) false rfl (by decide +kernel) rfl ?_
  refine s_aldn (p' := 7) rfl rfl rfl ?_
  refine s_gf (p' := 10) rfl (k_300 _) rfl rfl ?_
  refine s_goto (p' := 14) rfl rfl ?_
  refine c_iret rfl (by decide +kernel) ?_
  refine s_bz (p' := 10) (z := (nI 0)) rfl rfl rfl (by decide +kernel) ?_
  refine c_iret rfl rfl ?_
  refine s_icmp (p' := 18) false rfl (by decide +kernel) rfl ?_
  refine s_con (p' := 19) rfl rfl ?_
  refine s_goto (p' := 39) rfl rfl ?_
  refine c_iret rfl (by decide +kernel) ?_
  refine s_if (p' := 16) false rfl (by decide +kernel) rfl ?_
  refine s_aldn (p' := 17) rfl rfl rfl ?_
  refine c_aret rfl ?_
  refine c_aret rfl ?_
  refine s_sp (p' := 12) (ls' := _) rfl rfl rfl ?_
  refine s_sp (p' := 13) (ls' := _) rfl rfl rfl ?_
  refine c_aretN rfl ?_
  refine s_astnN (p' := 9) (ls' := [_, _]) rfl rfl rfl rfl ?_
  refine s_aldn (p' := 10) rfl rfl rfl ?_
  refine s_aldnN (p' := 11) rfl rfl rfl ?_
  refine s_nonnull (p' := 14) (x := none) false rfl rfl rfl ?_
  refine s_con (p' := 15) rfl rfl ?_
  refine s_goto (p' := 19) rfl rfl ?_
  refine c_call (p' := 22) (kc := 98) (ls0 := [_, _]) rfl rfl rfl rfl rfl (mj_rcv_is (rd_sn rfl (rd_sn rfl (rd_app (rd_sn rfl (rd_app (rd_app (rd_sn rfl (rd_sn rfl H400))))))))) rfl rfl rfl ?_
  refine s_aldn (p' := 1) rfl rfl rfl ?_
  refine s_ildn (p' := 2) rfl rfl rfl ?_
  refine s_pfz (p' := 5) (fs' := [_, _, _, _, _, _, _, _, _, _, _]) rfl rfl (rd_sn rfl (rd_sn rfl (rd_app (rd_sn rfl (rd_app (rd_app (rd_sn rfl (rd_sn rfl H400)))))))) rfl rfl rfl rfl ?_
  refine s_ildn (p' := 6) rfl rfl rfl ?_
  refine s_if (p' := 9) false rfl (by decide +kernel) rfl ?_
  refine s_con (p' := 10) rfl rfl ?_
  refine s_goto (p' := 14) rfl rfl ?_
  refine c_iret rfl (by decide +kernel) ?_
  refine s_if (p' := 25) false rfl (by decide +kernel) rfl ?_
  refine s_con (p' := 26) rfl rfl ?_
  refine s_goto (p' := 33) rfl rfl ?_
  refine k_iret rfl rfl ?_
  refine l_ist (p' := 344) (ls' := [_, _, _, _, _, _, _, _, _, _]) rfl rfl rfl rfl rfl ?_
  refine l_aldn (p' := 345) rfl rfl rfl rfl ?_
  refine l_call (p' := 348) (kc := 99) (ls0 := [_]) rfl rfl rfl rfl rfl rfl (mj_rcv_is (rd_ss rfl (rd_sn rfl (rd_sn rfl (rd_app (rd_sn rfl (rd_app (rd_app (rd_sn rfl (rd_sn rfl H400)))))))))) rfl rfl rfl ?_
  refine s_aldn (p' := 1) rfl rfl rfl ?_
  refine s_gf (p' := 4) rfl (rd_ss rfl (rd_sn rfl (rd_sn rfl (rd_app (rd_sn rfl (rd_app (rd_app (rd_sn rfl (rd_sn rfl H400))))))))) rfl rfl ?_
  refine k_iret rfl rfl ?_
  refine l_ild (p' := 350) rfl rfl rfl rfl ?_
  refine l_icmp (p' := 355) true rfl rfl (by decide +kernel) rfl ?_
  refine l_ild (p' := 357) rfl rfl rfl rfl ?_
  refine l_if (p' := 372) true rfl rfl (by decide +kernel) rfl ?_
  refine l_goto (p' := 2541) rfl rfl rfl ?_
  refine l_incz (p' := 2544) (w := (nI 4)) (ls' := [_, _, _, _, _, _, _, _, _, _]) rfl rfl rfl rfl (by decide +kernel) rfl rfl ?_
  refine l_goto (p' := 28) rfl rfl rfl ?_
  refine l_ild (p' := 30) rfl rfl rfl rfl ?_
  refine l_alds (p' := 31) rfl rfl rfl rfl ?_
  refine l_lens (p' := 32) rfl rfl rfl ?_
  refine l_con (p' := 33) rfl rfl rfl ?_
  refine l_bz (p' := 34) (z := (nI 0)) rfl rfl rfl rfl rfl (by decide +kernel) ?_
  refine l_icmp (p' := 2547) true rfl rfl (by decide +kernel) rfl ?_
  refine l_con (p' := 2548) rfl rfl rfl ?_
  refine l_end rfl rfl ?_
  exact ⟨Nat.le_trans (Nat.le_of_eq (len_s (len_s (len_s (len_a (len_s (len_a (len_a (len_s (len_s HL)) rfl) rfl)) rfl))))) (Nat.le_of_ble_eq_true rfl), Nat.le_trans (sz_s rfl (rd_sn rfl (rd_sn rfl (rd_app (rd_sn rfl (rd_app (rd_app (rd_sn rfl (rd_sn rfl H400)))))))) rfl (sz_s rfl (rd_ss rfl (rd_nw rfl (len_s (len_a (len_a (len_s (len_s HL)) rfl) rfl)))) rfl (sz_s rfl (rd_nw rfl (len_s (len_a (len_a (len_s (len_s HL)) rfl) rfl))) rfl (sz_aa (k := 3) (m := 20012) rfl rfl (sz_s rfl (rd_nw rfl (len_a (len_s (len_s HL)) rfl)) rfl (sz_aa (k := 3) (m := 20009) rfl rfl (sz_aa (k := 6) (m := 20006) rfl rfl (sz_s rfl (rd_sn rfl H4) rfl (sz_s rfl H37 rfl HZ))))))))) (Nat.le_of_ble_eq_true rfl)⟩
theorem p1_3 {xs : Nat → Int32} {h : mj_H} (hk : xs 0 &&& nI 63 = nI 3)   (HL : h.length = 414) (HZ : mj_sz h ≤ 20000) (H0 : mj_rd h 0 = some (.inr (0, [.ref 1, .ref 38, .ref 299, .ref 336, .ref 373, .ref 375, .ref 378, .ref 381, .ref 387, .ref 393, .null, .null, .ref 397, .ref 398, .ref 399, .long (lN 0), .long (lN 0)]))) (H1 : mj_rd h 1 = some (.inr (1, [.ref 2, .ref 4, .ref 37]))) (H2 : mj_rd h 2 = some (.inr (2, [.ref 3, .int (nI 0)]))) (H4 : mj_rd h 4 = some (.inr (3, [.ref 5, .ref 6, .int (nI 0)]))) (H37 : mj_rd h 37 = some (.inr (5, [.ref 2, .ref 4, .int (nI 0), .int (nI 0), .int (nI 32), .int (nI 0)]))) (H400 : mj_rd h 400 = some (.inr (17, [.int (nI 0), .ref 401, .ref 402, .ref 1000300, .long (lN 0), .long (lN 0), .ref 410, .null, .null, .null, .ref 411]))) : mj_fin 4 xs h := by
  unfold mj_fin
  refine l_ild (p' := 30) rfl rfl rfl rfl ?_
  refine l_alds (p' := 31) rfl rfl rfl rfl ?_
  refine l_lens (p' := 32) rfl rfl rfl ?_
  refine l_con (p' := 33) rfl rfl rfl ?_
  refine l_bz (p' := 34) (z := (nI 0)) rfl rfl rfl rfl rfl (by decide +kernel) ?_
  refine l_icmp (p' := 37) false rfl rfl (by decide +kernel) rfl ?_
  refine l_alds (p' := 38) rfl rfl rfl rfl ?_
  refine l_ild (p' := 40) rfl rfl rfl rfl ?_
  refine l_ialz (p' := 41) (m := 0) (z := (xs 0)) rfl rfl (by decide +kernel) rfl rfl rfl ?_
  refine l_bip (p' := 43) rfl rfl rfl ?_
  refine l_bz (p' := 44) (z := (nI 3)) rfl rfl rfl rfl rfl hk ?_
  refine l_sp (p' := 375) (ls' := _) rfl rfl rfl rfl rfl ?_
  refine l_aldn (p' := 376) rfl rfl rfl rfl ?_
  refine l_aldn (p' := 377) rfl rfl rfl rfl ?_
  refine l_call (p' := 380) (kc := 99) (ls0 := [_, _, _]) rfl rfl rfl rfl rfl rfl rfl rfl rfl rfl ?_
  refine s_aldn (p' := 1) rfl rfl rfl ?_
  refine s_con (p' := 2) rfl rfl ?_
  refine s_aldn (p' := 3) rfl rfl rfl ?_
  refine c_call (p' := 6) (kc := 98) (ls0 := [_]) rfl rfl rfl rfl rfl (mj_rcv_is H0) rfl rfl rfl ?_
  refine s_aldn (p' := 1) rfl rfl rfl ?_
  refine s_gf (p' := 4) rfl H0 rfl rfl ?_
  refine s_gf (p' := 7) rfl H1 rfl rfl ?_
  refine c_call (p' := 10) (kc := 97) (ls0 := [_]) rfl rfl rfl rfl rfl (mj_rcv_is H37) rfl rfl rfl ?_
  refine s_aldn (p' := 1) rfl rfl rfl ?_
  refine s_con (p' := 2) rfl rfl ?_
  refine s_pfz (p' := 5) (fs' := [_, _, _, _, _, _]) rfl rfl H37 rfl rfl rfl rfl ?_
  refine s_aldn (p' := 6) rfl rfl rfl ?_
  refine s_gf (p' := 9) rfl (rd_ss rfl H37) rfl rfl ?_
  refine c_call (p' := 12) (kc := 96) (ls0 := [_]) rfl rfl rfl rfl rfl (mj_rcv_is (rd_sn rfl H4)) rfl rfl rfl ?_
  refine s_aldn (p' := 1) rfl rfl rfl ?_
  refine s_con (p' := 2) rfl rfl ?_
  refine s_pfz (p' := 5) (fs' := [_, _, _]) rfl rfl (rd_sn rfl H4) rfl rfl rfl rfl ?_
  refine c_ret rfl ?_
  refine s_aldn (p' := 13) rfl rfl rfl ?_
  refine s_con (p' := 14) rfl rfl ?_
  refine s_con (p' := 15) rfl rfl ?_
  refine c_call (p' := 18) (kc := 96) (ls0 := [_, _, _, _]) rfl rfl rfl rfl rfl (mj_rcv_is (rd_sn rfl (rd_ss rfl H37))) rfl rfl rfl ?_
  refine s_aldn (p' := 1) rfl rfl rfl ?_
  refine c_call (p' := 4) (kc := 95) (ls0 := [_]) rfl rfl rfl rfl rfl (mj_rcv_is (rd_sn rfl (rd_ss rfl H37))) rfl rfl rfl ?_
  refine s_aldn (p' := 1) rfl rfl rfl ?_
  refine s_gf (p' := 4) rfl (rd_sn rfl (rd_ss rfl H37)) rfl rfl ?_
  refine s_if (p' := 7) false rfl (by decide +kernel) rfl ?_
  refine s_aldn (p' := 8) rfl rfl rfl ?_
  refine s_gf (p' := 11) rfl (rd_sn rfl (rd_ss rfl H37)) rfl rfl ?_
  refine s_aldn (p' := 12) rfl rfl rfl ?_
  refine s_gf (p' := 15) rfl (rd_sn rfl (rd_ss rfl H37)) rfl rfl ?_
  refine s_gf (p' := 18) rfl (rd_sn rfl (rd_sn rfl H2)) rfl rfl ?_
  refine s_icmp (p' := 51) true rfl (by decide +kernel) rfl ?_
  refine s_con (p' := 52) rfl rfl ?_
  refine c_iret rfl rfl ?_
  refine s_ildn (p' := 5) rfl rfl rfl ?_
  refine s_icmp (p' := 8) false rfl (by decide +kernel) rfl ?_
  refine s_con (p' := 9) rfl rfl ?_
  refine c_iret rfl (by decide +kernel) ?_
  refine c_iret rfl (by decide +kernel) ?_
  refine s_if (p' := 13) false rfl (by decide +kernel) rfl ?_
  refine s_thrz (q := 414) rfl (len_s (len_s HL)) rfl ?_
  refine K_c (hp := 11) rfl (mj_ocl_is (rd_nw rfl (len_s (len_s HL)))) rfl ?_
  refine s_astn (p' := 12) (ls' := [_, _, _]) rfl rfl rfl rfl ?_
  refine s_con (p' := 13) rfl rfl ?_
  refine k_iret rfl rfl ?_
  refine l_ist (p' := 382) (ls' := [_, _, _, _, _, _, _, _, _, _]) rfl rfl rfl rfl rfl ?_
  refine l_aldn (p' := 383) rfl rfl rfl rfl ?_
  refine l_call (p' := 386) (kc := 99) (ls0 := [_, _]) rfl rfl rfl rfl rfl rfl (mj_rcv_is (rd_app (rd_sn rfl (rd_sn rfl H400)))) rfl rfl rfl ?_
  refine s_aldn (p' := 1) rfl rfl rfl ?_
  refine s_aldn (p' := 2) rfl rfl rfl ?_
  refine s_gf (p' := 5) rfl (rd_app (rd_sn rfl (rd_sn rfl H400))) rfl rfl ?_
  refine c_call (p' := 8) (kc := 98) (ls0 := [_, _, _]) rfl rfl rfl rfl rfl (mj_rcv_is (rd_app (rd_sn rfl (rd_sn rfl H400)))) rfl rfl rfl ?_
  refine s_newz (p' := 3) (a := 415) rfl (len_a (len_s (len_s HL)) rfl) rfl rfl ?_
  refine s_dupr (p' := 4) rfl rfl ?_
  refine s_aldn (p' := 5) rfl rfl rfl ?_
  refine c_call (p' := 8) (kc := 97) (ls0 := [_, _]) rfl rfl rfl rfl rfl (mj_rcv_is (rd_nw rfl (len_a (len_s (len_s HL)) rfl))) rfl rfl rfl ?_
  refine s_aldn (p' := 1) rfl rfl rfl ?_
  refine s_primN (p' := 4) (q := 3) rfl rfl rfl rfl rfl rfl rfl rfl ?_
  refine s_aldn (p' := 5) rfl rfl rfl ?_
  refine s_aldn (p' := 6) rfl rfl rfl ?_
  refine s_pfz (p' := 9) (fs' := [_, _, _]) rfl rfl (rd_nw rfl (len_a (len_s (len_s HL)) rfl)) rfl rfl rfl rfl ?_
  refine c_ret rfl ?_
  refine c_call (p' := 11) (kc := 97) (ls0 := [_]) rfl rfl rfl rfl rfl (mj_rcv_is (rd_ss rfl (rd_nw rfl (len_a (len_s (len_s HL)) rfl)))) rfl rfl rfl ?_
  refine s_aldn (p' := 1) rfl rfl rfl ?_
  refine s_con (p' := 2) rfl rfl ?_
  refine c_call (p' := 5) (kc := 96) (ls0 := [_, _, _]) rfl rfl rfl rfl rfl (mj_rcv_is (rd_ss rfl (rd_nw rfl (len_a (len_s (len_s HL)) rfl)))) rfl rfl rfl ?_
  refine s_newz (p' := 3) (a := 416) rfl (len_s (len_a (len_a (len_s (len_s HL)) rfl) rfl)) rfl rfl ?_
  refine s_dupr (p' := 4) rfl rfl ?_
  refine c_call (p' := 7) (kc := 95) (ls0 := [_]) rfl rfl rfl rfl rfl (mj_rcv_is (rd_nw rfl (len_s (len_a (len_a (len_s (len_s HL)) rfl) rfl)))) rfl rfl rfl ?_
  refine s_aldn (p' := 1) rfl rfl rfl ?_
  refine c_call (p' := 4) (kc := 94) (ls0 := [_]) rfl rfl rfl rfl rfl (mj_rcv_is (rd_nw rfl (len_s (len_a (len_a (len_s (len_s HL)) rfl) rfl)))) rfl rfl rfl ?_
  refine s_aldn (p' := 1) rfl rfl rfl ?_
  refine c_call (p' := 4) (kc := 93) (ls0 := [_]) rfl rfl rfl rfl rfl (mj_rcv_is (rd_nw rfl (len_s (len_a (len_a (len_s (len_s HL)) rfl) rfl)))) rfl rfl rfl ?_
  refine s_aldn (p' := 1) rfl rfl rfl ?_
  refine s_primN (p' := 4) (q := 3) rfl rfl rfl rfl rfl rfl rfl rfl ?_
  refine c_ret rfl ?_
  refine s_aldn (p' := 5) rfl rfl rfl ?_
  refine s_con (p' := 6) rfl rfl ?_
  refine s_pfz (p' := 9) (fs' := [_, _, _]) rfl rfl (rd_nw rfl (len_s (len_a (len_a (len_s (len_s HL)) rfl) rfl))) rfl rfl rfl rfl ?_
  refine c_ret rfl ?_
  refine s_aldn (p' := 5) rfl rfl rfl ?_
  refine s_sh (p' := 8) (ls' := _) (st' := .ref 1000000 :: _) (h' := _) rfl rfl rfl rfl ?_
  refine s_pfz (p' := 11) (fs' := [_, _, _]) rfl rfl (rd_ss rfl (rd_nw rfl (len_s (len_a (len_a (len_s (len_s HL)) rfl) rfl)))) rfl rfl rfl rfl ?_
  refine c_ret rfl ?_
  refine s_astn (p' := 8) (ls' := [_, _, _]) rfl rfl rfl rfl ?_
  refine s_aldn (p' := 9) rfl rfl rfl ?_
  refine s_ildn (p' := 10) rfl rfl rfl ?_
  refine c_call (p' := 13) (kc := 95) (ls0 := [_, _]) rfl rfl rfl rfl rfl (mj_rcv_is (rd_sn rfl (rd_sn rfl (rd_app (rd_ss rfl (rd_nw rfl (len_a (len_s (len_s HL)) rfl))))))) rfl rfl rfl ?_
  refine s_ildn (p' := 1) rfl rfl rfl ?_
  refine s_if (p' := 4) false rfl (by decide +kernel) rfl ?_
  refine s_aldn (p' := 5) rfl rfl rfl ?_
  refine s_gf (p' := 8) rfl (rd_sn rfl (rd_sn rfl (rd_app (rd_ss rfl (rd_nw rfl (len_a (len_s (len_s HL)) rfl)))))) rfl rfl ?_
  refine s_aldn (p' := 9) rfl rfl rfl ?_
  refine s_gf (p' := 12) rfl (rd_sn rfl (rd_sn rfl (rd_app (rd_ss rfl (rd_nw rfl (len_a (len_s (len_s HL)) rfl)))))) rfl rfl ?_
  refine c_call (p' := 15) (kc := 94) (ls0 := [_]) rfl rfl rfl rfl rfl (mj_rcv_is (k_300 _)) rfl rfl rfl ?_
  refine s_aldn (p' := 1) rfl rfl rfl ?_
  refine s_gf (p' := 4) rfl (k_300 _) rfl rfl ?_
  refine s_lenz (p' := 5) rfl (mj_rdA_cst (k_301 _) (by decide)) rfl rfl ?_
  refine s_aldn (p' := 6) rfl rfl rfl ?_
  refine c_call (p' := 9) (kc := 93) (ls0 := [_]) rfl rfl rfl rfl rfl (mj_rcv_is (k_300 _)) rfl rfl rfl ?_
  refine s_sh (p' := 3) (ls' := _) (st' := .int (nI 1) :: _) (h' := _) rfl rfl rfl rfl ?_
  refine s_if (p' := 6) false rfl (by decide +kernel) rfl ?_
  refine s_aldn (p' := 7) rfl rfl rfl ?_
  refine s_gf (p' := 10) rfl (k_300 _) rfl rfl ?_
  refine s_goto (p' := 14) rfl rfl ?_
  refine c_iret rfl (by decide +kernel) ?_
  refine s_bz (p' := 10) (z := (nI 0)) rfl rfl rfl (by decide +kernel) ?_
  refine c_iret rfl rfl ?_
  refine s_icmp (p' := 18) false rfl (by decide +kernel) rfl ?_
  refine s_con (p' := 19) rfl rfl ?_
  refine s_goto (p' := 39) rfl rfl ?_
  refine c_iret rfl (by decide +kernel) ?_
  refine s_if (p' := 16) false rfl (by decide +kernel) rfl ?_
  refine s_aldn (p' := 17) rfl rfl rfl ?_
  refine c_aret rfl ?_
  refine c_aret rfl ?_
  refine s_sp (p' := 12) (ls' := _) rfl rfl rfl ?_
  refine s_sp (p' := 13) (ls' := _) rfl rfl rfl ?_
  refine c_aretN rfl ?_
  refine s_astnN (p' := 9) (ls' := [_, _]) rfl rfl rfl rfl ?_
  refine s_aldn (p' := 10) rfl rfl rfl ?_
  refine s_aldnN (p' := 11) rfl rfl rfl ?_
  refine s_nonnull (p' := 14) (x := none) false rfl rfl rfl ?_
  refine s_con (p' := 15) rfl rfl ?_
  refine s_goto (p' := 19) rfl rfl ?_
  refine c_call (p' := 22) (kc := 98) (ls0 := [_, _]) rfl rfl rfl rfl rfl (mj_rcv_is (rd_sn rfl (rd_sn rfl (rd_app (rd_sn rfl (rd_app (rd_app (rd_sn rfl (rd_sn rfl H400))))))))) rfl rfl rfl ?_
  refine s_aldn (p' := 1) rfl rfl rfl ?_
  refine s_ildn (p' := 2) rfl rfl rfl ?_
  refine s_pfz (p' := 5) (fs' := [_, _, _, _, _, _, _, _, _, _, _]) rfl rfl (rd_sn rfl (rd_sn rfl (rd_app (rd_sn rfl (rd_app (rd_app (rd_sn rfl (rd_sn rfl H400)))))))) rfl rfl rfl rfl ?_
  refine s_ildn (p' := 6) rfl rfl rfl ?_
  refine s_if (p' := 9) false rfl (by decide +kernel) rfl ?_
  refine s_con (p' := 10) rfl rfl ?_
  refine s_goto (p' := 14) rfl rfl ?_
  refine c_iret rfl (by decide +kernel) ?_
  refine s_if (p' := 25) false rfl (by decide +kernel) rfl ?_
  refine s_con (p' := 26) rfl rfl ?_
  refine s_goto (p' := 33) rfl rfl ?_
  refine k_iret rfl (by decide +kernel) ?_
  refine l_ist (p' := 388) (ls' := [_, _, _, _, _, _, _, _, _, _]) rfl rfl rfl rfl rfl ?_
  refine l_aldn (p' := 389) rfl rfl rfl rfl ?_
  refine l_call (p' := 392) (kc := 99) (ls0 := [_]) rfl rfl rfl rfl rfl rfl (mj_rcv_is (rd_ss rfl (rd_sn rfl (rd_sn rfl (rd_app (rd_sn rfl (rd_app (rd_app (rd_sn rfl (rd_sn rfl H400)))))))))) rfl rfl rfl ?_
  refine s_aldn (p' := 1) rfl rfl rfl ?_
  refine s_gf (p' := 4) rfl (rd_ss rfl (rd_sn rfl (rd_sn rfl (rd_app (rd_sn rfl (rd_app (rd_app (rd_sn rfl (rd_sn rfl H400))))))))) rfl rfl ?_
  refine k_iret rfl rfl ?_
  refine l_ild (p' := 394) rfl rfl rfl rfl ?_
  refine l_icmp (p' := 399) true rfl rfl (by decide +kernel) rfl ?_
  refine l_ild (p' := 401) rfl rfl rfl rfl ?_
  refine l_if (p' := 416) true rfl rfl (by decide +kernel) rfl ?_
  refine l_goto (p' := 2541) rfl rfl rfl ?_
  refine l_incz (p' := 2544) (w := (nI 4)) (ls' := [_, _, _, _, _, _, _, _, _, _]) rfl rfl rfl rfl (by decide +kernel) rfl rfl ?_
  refine l_goto (p' := 28) rfl rfl rfl ?_
  refine l_ild (p' := 30) rfl rfl rfl rfl ?_
  refine l_alds (p' := 31) rfl rfl rfl rfl ?_
  refine l_lens (p' := 32) rfl rfl rfl ?_
  refine l_con (p' := 33) rfl rfl rfl ?_
  refine l_bz (p' := 34) (z := (nI 0)) rfl rfl rfl rfl rfl (by decide +kernel) ?_
  refine l_icmp (p' := 2547) true rfl rfl (by decide +kernel) rfl ?_
  refine l_con (p' := 2548) rfl rfl rfl ?_
  refine l_end rfl rfl ?_
  exact ⟨Nat.le_trans (Nat.le_of_eq (len_s (len_s (len_s (len_a (len_s (len_a (len_a (len_s (len_s HL)) rfl) rfl)) rfl))))) (Nat.le_of_ble_eq_true rfl), Nat.le_trans (sz_s rfl (rd_sn rfl (rd_sn rfl (rd_app (rd_sn rfl (rd_app (rd_app (rd_sn rfl (rd_sn rfl H400)))))))) rfl (sz_s rfl (rd_ss rfl (rd_nw rfl (len_s (len_a (len_a (len_s (len_s HL)) rfl) rfl)))) rfl (sz_s rfl (rd_nw rfl (len_s (len_a (len_a (len_s (len_s HL)) rfl) rfl))) rfl (sz_aa (k := 3) (m := 20012) rfl rfl (sz_s rfl (rd_nw rfl (len_a (len_s (len_s HL)) rfl)) rfl (sz_aa (k := 3) (m := 20009) rfl rfl (sz_aa (k := 6) (m := 20006) rfl rfl (sz_s rfl (rd_sn rfl H4) rfl (sz_s rfl H37 rfl HZ))))))))) (Nat.le_of_ble_eq_true rfl)⟩
theorem p1_4 {xs : Nat → Int32} {h : mj_H} (hk : xs 0 &&& nI 63 = nI 4)   (HL : h.length = 414) (HZ : mj_sz h ≤ 20000) (H0 : mj_rd h 0 = some (.inr (0, [.ref 1, .ref 38, .ref 299, .ref 336, .ref 373, .ref 375, .ref 378, .ref 381, .ref 387, .ref 393, .null, .null, .ref 397, .ref 398, .ref 399, .long (lN 0), .long (lN 0)]))) (H1 : mj_rd h 1 = some (.inr (1, [.ref 2, .ref 4, .ref 37]))) (H2 : mj_rd h 2 = some (.inr (2, [.ref 3, .int (nI 0)]))) (H4 : mj_rd h 4 = some (.inr (3, [.ref 5, .ref 6, .int (nI 0)]))) (H37 : mj_rd h 37 = some (.inr (5, [.ref 2, .ref 4, .int (nI 0), .int (nI 0), .int (nI 32), .int (nI 0)]))) (H38 : mj_rd h 38 = some (.inr (6, [.ref 39, .ref 40, .int (nI 0)]))) (H39 : mj_rd h 39 = some (.inl (8, (6, .inr (.inr (.inr (.inr (fun j => if j < 6 then some (77 + 37 * j) else none)))))))) (H77 : mj_rd h 77 = some (.inr (1, [.ref 78, .ref 80, .ref 113]))) (H78 : mj_rd h 78 = some (.inr (2, [.ref 79, .int (nI 0)]))) (H80 : mj_rd h 80 = some (.inr (3, [.ref 81, .ref 82, .int (nI 0)]))) (H113 : mj_rd h 113 = some (.inr (5, [.ref 78, .ref 80, .int (nI 0), .int (nI 0), .int (nI 32), .int (nI 0)]))) (H400 : mj_rd h 400 = some (.inr (17, [.int (nI 0), .ref 401, .ref 402, .ref 1000300, .long (lN 0), .long (lN 0), .ref 410, .null, .null, .null, .ref 411]))) (H401 : mj_rd h 401 = some (.inr (18, [.ref 1000000, .int (nI 0), .int (nI 0)]))) (H412 : mj_rd h 412 = some (.inl (4, (1, .inr (.inl (fun _ => 0)))))) : mj_fin 4 xs h := by
  unfold mj_fin
  refine l_ild (p' := 30) rfl rfl rfl rfl ?_
  refine l_alds (p' := 31) rfl rfl rfl rfl ?_
  refine l_lens (p' := 32) rfl rfl rfl ?_
  refine l_con (p' := 33) rfl rfl rfl ?_
  refine l_bz (p' := 34) (z := (nI 0)) rfl rfl rfl rfl rfl (by decide +kernel) ?_
  refine l_icmp (p' := 37) false rfl rfl (by decide +kernel) rfl ?_
  refine l_alds (p' := 38) rfl rfl rfl rfl ?_
  refine l_ild (p' := 40) rfl rfl rfl rfl ?_
  refine l_ialz (p' := 41) (m := 0) (z := (xs 0)) rfl rfl (by decide +kernel) rfl rfl rfl ?_
  refine l_bip (p' := 43) rfl rfl rfl ?_
  refine l_bz (p' := 44) (z := (nI 4)) rfl rfl rfl rfl rfl hk ?_
  refine l_sp (p' := 419) (ls' := _) rfl rfl rfl rfl rfl ?_
  refine l_aldn (p' := 420) rfl rfl rfl rfl ?_
  refine l_aldn (p' := 421) rfl rfl rfl rfl ?_
  refine l_call (p' := 424) (kc := 99) (ls0 := [_, _, _]) rfl rfl rfl rfl rfl rfl rfl rfl rfl rfl ?_
  refine s_aldn (p' := 1) rfl rfl rfl ?_
  refine s_con (p' := 2) rfl rfl ?_
  refine s_aldn (p' := 3) rfl rfl rfl ?_
  refine c_call (p' := 6) (kc := 98) (ls0 := [_, _]) rfl rfl rfl rfl rfl (mj_rcv_is H0) rfl rfl rfl ?_
  refine s_aldn (p' := 1) rfl rfl rfl ?_
  refine s_gf (p' := 4) rfl H0 rfl rfl ?_
  refine s_gf (p' := 7) rfl H1 rfl rfl ?_
  refine c_call (p' := 10) (kc := 97) (ls0 := [_]) rfl rfl rfl rfl rfl (mj_rcv_is H37) rfl rfl rfl ?_
  refine s_aldn (p' := 1) rfl rfl rfl ?_
  refine s_con (p' := 2) rfl rfl ?_
  refine s_pfz (p' := 5) (fs' := [_, _, _, _, _, _]) rfl rfl H37 rfl rfl rfl rfl ?_
  refine s_aldn (p' := 6) rfl rfl rfl ?_
  refine s_gf (p' := 9) rfl (rd_ss rfl H37) rfl rfl ?_
  refine c_call (p' := 12) (kc := 96) (ls0 := [_]) rfl rfl rfl rfl rfl (mj_rcv_is (rd_sn rfl H4)) rfl rfl rfl ?_
  refine s_aldn (p' := 1) rfl rfl rfl ?_
  refine s_con (p' := 2) rfl rfl ?_
  refine s_pfz (p' := 5) (fs' := [_, _, _]) rfl rfl (rd_sn rfl H4) rfl rfl rfl rfl ?_
  refine c_ret rfl ?_
  refine s_aldn (p' := 13) rfl rfl rfl ?_
  refine s_con (p' := 14) rfl rfl ?_
  refine s_con (p' := 15) rfl rfl ?_
  refine c_call (p' := 18) (kc := 96) (ls0 := [_, _, _, _]) rfl rfl rfl rfl rfl (mj_rcv_is (rd_sn rfl (rd_ss rfl H37))) rfl rfl rfl ?_
  refine s_aldn (p' := 1) rfl rfl rfl ?_
  refine c_call (p' := 4) (kc := 95) (ls0 := [_]) rfl rfl rfl rfl rfl (mj_rcv_is (rd_sn rfl (rd_ss rfl H37))) rfl rfl rfl ?_
  refine s_aldn (p' := 1) rfl rfl rfl ?_
  refine s_gf (p' := 4) rfl (rd_sn rfl (rd_ss rfl H37)) rfl rfl ?_
  refine s_if (p' := 7) false rfl (by decide +kernel) rfl ?_
  refine s_aldn (p' := 8) rfl rfl rfl ?_
  refine s_gf (p' := 11) rfl (rd_sn rfl (rd_ss rfl H37)) rfl rfl ?_
  refine s_aldn (p' := 12) rfl rfl rfl ?_
  refine s_gf (p' := 15) rfl (rd_sn rfl (rd_ss rfl H37)) rfl rfl ?_
  refine s_gf (p' := 18) rfl (rd_sn rfl (rd_sn rfl H2)) rfl rfl ?_
  refine s_icmp (p' := 51) true rfl (by decide +kernel) rfl ?_
  refine s_con (p' := 52) rfl rfl ?_
  refine c_iret rfl rfl ?_
  refine s_ildn (p' := 5) rfl rfl rfl ?_
  refine s_icmp (p' := 8) false rfl (by decide +kernel) rfl ?_
  refine s_con (p' := 9) rfl rfl ?_
  refine c_iret rfl (by decide +kernel) ?_
  refine c_iret rfl (by decide +kernel) ?_
  refine s_if (p' := 23) true rfl (by decide +kernel) rfl ?_
  refine s_aldn (p' := 24) rfl rfl rfl ?_
  refine s_gf (p' := 27) rfl (rd_sn rfl (rd_sn rfl H0)) rfl rfl ?_
  refine c_call (p' := 30) (kc := 97) (ls0 := [_]) rfl rfl rfl rfl rfl (mj_rcv_is (rd_sn rfl (rd_sn rfl H38))) rfl rfl rfl ?_
  refine s_aldn (p' := 1) rfl rfl rfl ?_
  refine s_gf (p' := 4) rfl (rd_sn rfl (rd_sn rfl H38)) rfl rfl ?_
  refine s_bip (p' := 6) rfl rfl ?_
  refine s_icmp (p' := 13) true rfl (by decide +kernel) rfl ?_
  refine s_con (p' := 14) rfl rfl ?_
  refine c_iret rfl (by decide +kernel) ?_
  refine s_if (p' := 43) true rfl (by decide +kernel) rfl ?_
  refine s_aldn (p' := 44) rfl rfl rfl ?_
  refine s_gf (p' := 47) rfl (rd_sn rfl (rd_sn rfl H0)) rfl rfl ?_
  refine c_call (p' := 50) (kc := 97) (ls0 := [_]) rfl rfl rfl rfl rfl (mj_rcv_is (rd_sn rfl (rd_sn rfl H38))) rfl rfl rfl ?_
  refine s_aldn (p' := 1) rfl rfl rfl ?_
  refine s_gf (p' := 4) rfl (rd_sn rfl (rd_sn rfl H38)) rfl rfl ?_
  refine s_if (p' := 7) false rfl (by decide +kernel) rfl ?_
  refine s_aldn (p' := 8) rfl rfl rfl ?_
  refine s_gf (p' := 11) rfl (rd_sn rfl (rd_sn rfl H38)) rfl rfl ?_
  refine s_aldn (p' := 12) rfl rfl rfl ?_
  refine s_gf (p' := 15) rfl (rd_sn rfl (rd_sn rfl H38)) rfl rfl ?_
  refine s_lenz (p' := 16) rfl (mj_rdA_is (rd_sn rfl (rd_sn rfl H39)) (by decide)) rfl rfl ?_
  refine s_icmp (p' := 19) false rfl (by decide +kernel) rfl ?_
  refine s_aldn (p' := 20) rfl rfl rfl ?_
  refine s_gf (p' := 23) rfl (rd_sn rfl (rd_sn rfl H38)) rfl rfl ?_
  refine s_aldn (p' := 24) rfl rfl rfl ?_
  refine s_gf (p' := 27) rfl (rd_sn rfl (rd_sn rfl H38)) rfl rfl ?_
  refine s_aalz (p' := 28) (m := 0) (q := (some 77)) (v := .ref 77) rfl (mj_rdA_is (rd_sn rfl (rd_sn rfl H39)) (by decide)) rfl (by decide +kernel) rfl rfl rfl rfl ?_
  refine s_goto (p' := 35) rfl rfl ?_
  refine c_aret rfl ?_
  refine s_astn (p' := 51) (ls' := [_, _]) rfl rfl rfl rfl ?_
  refine s_aldn (p' := 52) rfl rfl rfl ?_
  refine s_gf (p' := 55) rfl (rd_sn rfl (rd_sn rfl H77)) rfl rfl ?_
  refine s_aldn (p' := 56) rfl rfl rfl ?_
  refine s_gf (p' := 59) rfl (rd_sn rfl (rd_sn rfl H0)) rfl rfl ?_
  refine s_gf (p' := 62) rfl (rd_sn rfl (rd_sn rfl H1)) rfl rfl ?_
  refine c_call (p' := 65) (kc := 97) (ls0 := [_, _, _]) rfl rfl rfl rfl rfl (mj_rcv_is (rd_sn rfl (rd_sn rfl H78))) rfl rfl rfl ?_
  refine s_aldn (p' := 1) rfl rfl rfl ?_
  refine c_call (p' := 4) (kc := 96) (ls0 := [_]) rfl rfl rfl rfl rfl (mj_rcv_is (rd_sn rfl (rd_sn rfl H78))) rfl rfl rfl ?_
  refine s_aldn (p' := 1) rfl rfl rfl ?_
  refine s_con (p' := 2) rfl rfl ?_
  refine s_pfz (p' := 5) (fs' := [_, _]) rfl rfl (rd_sn rfl (rd_sn rfl H78)) rfl rfl rfl rfl ?_
  refine c_ret rfl ?_
  refine s_con (p' := 5) rfl rfl ?_
  refine s_istn (p' := 6) (ls' := [_, _, _]) rfl rfl rfl rfl ?_
  refine s_ildn (p' := 7) rfl rfl rfl ?_
  refine s_aldn (p' := 8) rfl rfl rfl ?_
  refine s_gf (p' := 11) rfl (rd_sn rfl (rd_sn rfl (rd_sn rfl H2))) rfl rfl ?_
  refine s_icmp (p' := 36) true rfl (by decide +kernel) rfl ?_
  refine c_ret rfl ?_
  refine s_aldn (p' := 66) rfl rfl rfl ?_
  refine s_gf (p' := 69) rfl (rd_sn rfl (rd_sn rfl (rd_sn rfl H77))) rfl rfl ?_
  refine c_call (p' := 72) (kc := 97) (ls0 := [_]) rfl rfl rfl rfl rfl (mj_rcv_is (rd_sn rfl (rd_sn rfl (rd_sn rfl H113)))) rfl rfl rfl ?_
  refine s_aldn (p' := 1) rfl rfl rfl ?_
  refine s_con (p' := 2) rfl rfl ?_
  refine s_pfz (p' := 5) (fs' := [_, _, _, _, _, _]) rfl rfl (rd_sn rfl (rd_sn rfl (rd_sn rfl H113))) rfl rfl rfl rfl ?_
  refine s_aldn (p' := 6) rfl rfl rfl ?_
  refine s_gf (p' := 9) rfl (rd_ss rfl (rd_sn rfl (rd_sn rfl (rd_sn rfl H113)))) rfl rfl ?_
  refine c_call (p' := 12) (kc := 96) (ls0 := [_]) rfl rfl rfl rfl rfl (mj_rcv_is (rd_sn rfl (rd_sn rfl (rd_sn rfl (rd_sn rfl H80))))) rfl rfl rfl ?_
  refine s_aldn (p' := 1) rfl rfl rfl ?_
  refine s_con (p' := 2) rfl rfl ?_
  refine s_pfz (p' := 5) (fs' := [_, _, _]) rfl rfl (rd_sn rfl (rd_sn rfl (rd_sn rfl (rd_sn rfl H80)))) rfl rfl rfl rfl ?_
  refine c_ret rfl ?_
  refine s_aldn (p' := 13) rfl rfl rfl ?_
  refine s_con (p' := 14) rfl rfl ?_
  refine s_con (p' := 15) rfl rfl ?_
  refine c_call (p' := 18) (kc := 96) (ls0 := [_, _, _, _]) rfl rfl rfl rfl rfl (mj_rcv_is (rd_sn rfl (rd_ss rfl (rd_sn rfl (rd_sn rfl (rd_sn rfl H113)))))) rfl rfl rfl ?_
  refine s_aldn (p' := 1) rfl rfl rfl ?_
  refine c_call (p' := 4) (kc := 95) (ls0 := [_]) rfl rfl rfl rfl rfl (mj_rcv_is (rd_sn rfl (rd_ss rfl (rd_sn rfl (rd_sn rfl (rd_sn rfl H113)))))) rfl rfl rfl ?_
  refine s_aldn (p' := 1) rfl rfl rfl ?_
  refine s_gf (p' := 4) rfl (rd_sn rfl (rd_ss rfl (rd_sn rfl (rd_sn rfl (rd_sn rfl H113))))) rfl rfl ?_
  refine s_if (p' := 7) false rfl (by decide +kernel) rfl ?_
  refine s_aldn (p' := 8) rfl rfl rfl ?_
  refine s_gf (p' := 11) rfl (rd_sn rfl (rd_ss rfl (rd_sn rfl (rd_sn rfl (rd_sn rfl H113))))) rfl rfl ?_
  refine s_aldn (p' := 12) rfl rfl rfl ?_
  refine s_gf (p' := 15) rfl (rd_sn rfl (rd_ss rfl (rd_sn rfl (rd_sn rfl (rd_sn rfl H113))))) rfl rfl ?_
  refine s_gf (p' := 18) rfl (rd_sn rfl (rd_sn rfl (rd_ss rfl (rd_sn rfl (rd_sn rfl H78))))) rfl rfl ?_
  refine s_icmp (p' := 51) true rfl (by decide +kernel) rfl ?_
  refine s_con (p' := 52) rfl rfl ?_
  refine c_iret rfl rfl ?_
  refine s_ildn (p' := 5) rfl rfl rfl ?_
  refine s_icmp (p' := 8) false rfl (by decide +kernel) rfl ?_
  refine s_con (p' := 9) rfl rfl ?_
  refine c_iret rfl (by decide +kernel) ?_
  refine c_iret rfl (by decide +kernel) ?_
  refine s_sp (p' := 73) (ls' := _) rfl rfl rfl ?_
  refine s_aldn (p' := 74) rfl rfl rfl ?_
  refine s_gf (p' := 77) rfl (rd_sn rfl (rd_sn rfl (rd_sn rfl (rd_sn rfl (rd_sn rfl H0))))) rfl rfl ?_
  refine s_gf (p' := 80) rfl (rd_sn rfl (rd_sn rfl (rd_sn rfl (rd_sn rfl (rd_sn rfl H1))))) rfl rfl ?_
  refine c_call (p' := 83) (kc := 97) (ls0 := [_]) rfl rfl rfl rfl rfl (mj_rcv_is (rd_sn rfl (rd_sn rfl (rd_sn rfl (rd_sn rfl (rd_sn rfl H2)))))) rfl rfl rfl ?_
  refine s_aldn (p' := 1) rfl rfl rfl ?_
  refine s_con (p' := 2) rfl rfl ?_
  refine s_pfz (p' := 5) (fs' := [_, _]) rfl rfl (rd_sn rfl (rd_sn rfl (rd_sn rfl (rd_sn rfl (rd_sn rfl H2))))) rfl rfl rfl rfl ?_
  refine c_ret rfl ?_
  refine s_aldn (p' := 84) rfl rfl rfl ?_
  refine s_gf (p' := 87) rfl (rd_sn rfl (rd_sn rfl (rd_sn rfl (rd_sn rfl (rd_sn rfl (rd_sn rfl H0)))))) rfl rfl ?_
  refine c_call (p' := 90) (kc := 97) (ls0 := [_]) rfl rfl rfl rfl rfl (mj_rcv_is (rd_sn rfl (rd_sn rfl (rd_sn rfl (rd_sn rfl (rd_sn rfl (rd_sn rfl H38))))))) rfl rfl rfl ?_
  refine s_aldn (p' := 1) rfl rfl rfl ?_
  refine s_dupr (p' := 2) rfl rfl ?_
  refine s_gf (p' := 5) rfl (rd_sn rfl (rd_sn rfl (rd_sn rfl (rd_sn rfl (rd_sn rfl (rd_sn rfl H38)))))) rfl rfl ?_
  refine s_con (p' := 6) rfl rfl ?_
  refine s_bz (p' := 7) (z := (nI 1)) rfl rfl rfl (by decide +kernel) ?_
  refine s_pfz (p' := 10) (fs' := [_, _, _]) rfl rfl (rd_sn rfl (rd_sn rfl (rd_sn rfl (rd_sn rfl (rd_sn rfl (rd_sn rfl H38)))))) rfl rfl rfl rfl ?_
  refine s_aldn (p' := 11) rfl rfl rfl ?_
  refine s_gf (p' := 14) rfl (rd_ss rfl (rd_sn rfl (rd_sn rfl (rd_sn rfl (rd_sn rfl (rd_sn rfl (rd_sn rfl H38))))))) rfl rfl ?_
  refine s_con (p' := 15) rfl rfl ?_
  refine s_bz (p' := 16) (z := (nI 0)) rfl rfl rfl (by decide +kernel) ?_
  refine c_iret rfl rfl ?_
  refine c_iret rfl rfl ?_
  refine s_bzL (p' := 7) (z := (lN 0)) rfl rfl rfl (by decide +kernel) ?_
  refine s_lasz (p' := 8) (m := 0) rfl rfl (rd_sn rfl (rd_sn rfl (rd_sn rfl (rd_sn rfl (rd_sn rfl (rd_sn rfl (rd_sn rfl H412))))))) (by decide +kernel) rfl rfl rfl ?_
  refine s_goto (p' := 17) rfl rfl ?_
  refine s_con (p' := 18) rfl rfl ?_
  refine k_iret rfl rfl ?_
  refine l_ist (p' := 426) (ls' := [_, _, _, _, _, _, _, _, _, _]) rfl rfl rfl rfl rfl ?_
  refine l_aldn (p' := 427) rfl rfl rfl rfl ?_
  refine l_call (p' := 430) (kc := 99) (ls0 := [_, _]) rfl rfl rfl rfl rfl rfl (mj_rcv_is (rd_sn rfl (rd_sn rfl (rd_sn rfl (rd_sn rfl (rd_sn rfl (rd_sn rfl (rd_sn rfl (rd_sn rfl H400))))))))) rfl rfl rfl ?_
  refine s_newz (p' := 3) (a := 414) rfl (len_s (len_s (len_s (len_s (len_s (len_s (len_s (len_s HL)))))))) rfl rfl ?_
  refine s_dupr (p' := 4) rfl rfl ?_
  refine s_aldn (p' := 5) rfl rfl rfl ?_
  refine s_gf (p' := 8) rfl (rd_app (rd_sn rfl (rd_sn rfl (rd_sn rfl (rd_sn rfl (rd_sn rfl (rd_sn rfl (rd_sn rfl (rd_sn rfl H400))))))))) rfl rfl ?_
  refine c_call (p' := 11) (kc := 98) (ls0 := [_, _]) rfl rfl rfl rfl rfl (mj_rcv_is (rd_nw rfl (len_s (len_s (len_s (len_s (len_s (len_s (len_s (len_s HL)))))))))) rfl rfl rfl ?_
  refine s_aldn (p' := 1) rfl rfl rfl ?_
  refine s_primN (p' := 4) (q := 3) rfl rfl rfl rfl rfl rfl rfl rfl ?_
  refine s_aldn (p' := 5) rfl rfl rfl ?_
  refine s_aldn (p' := 6) rfl rfl rfl ?_
  refine s_pfz (p' := 9) (fs' := [_, _, _]) rfl rfl (rd_nw rfl (len_s (len_s (len_s (len_s (len_s (len_s (len_s (len_s HL))))))))) rfl rfl rfl rfl ?_
  refine c_ret rfl ?_
  refine c_call (p' := 14) (kc := 98) (ls0 := [_]) rfl rfl rfl rfl rfl (mj_rcv_is (rd_ss rfl (rd_nw rfl (len_s (len_s (len_s (len_s (len_s (len_s (len_s (len_s HL))))))))))) rfl rfl rfl ?_
  refine s_aldn (p' := 1) rfl rfl rfl ?_
  refine s_con (p' := 2) rfl rfl ?_
  refine c_call (p' := 5) (kc := 97) (ls0 := [_, _, _]) rfl rfl rfl rfl rfl (mj_rcv_is (rd_ss rfl (rd_nw rfl (len_s (len_s (len_s (len_s (len_s (len_s (len_s (len_s HL))))))))))) rfl rfl rfl ?_
  refine s_newz (p' := 3) (a := 415) rfl (len_s (len_a (len_s (len_s (len_s (len_s (len_s (len_s (len_s (len_s HL)))))))) rfl)) rfl rfl ?_
  refine s_dupr (p' := 4) rfl rfl ?_
  refine c_call (p' := 7) (kc := 96) (ls0 := [_]) rfl rfl rfl rfl rfl (mj_rcv_is (rd_nw rfl (len_s (len_a (len_s (len_s (len_s (len_s (len_s (len_s (len_s (len_s HL)))))))) rfl)))) rfl rfl rfl ?_
  refine s_aldn (p' := 1) rfl rfl rfl ?_
  refine c_call (p' := 4) (kc := 95) (ls0 := [_]) rfl rfl rfl rfl rfl (mj_rcv_is (rd_nw rfl (len_s (len_a (len_s (len_s (len_s (len_s (len_s (len_s (len_s (len_s HL)))))))) rfl)))) rfl rfl rfl ?_
  refine s_aldn (p' := 1) rfl rfl rfl ?_
  refine c_call (p' := 4) (kc := 94) (ls0 := [_]) rfl rfl rfl rfl rfl (mj_rcv_is (rd_nw rfl (len_s (len_a (len_s (len_s (len_s (len_s (len_s (len_s (len_s (len_s HL)))))))) rfl)))) rfl rfl rfl ?_
  refine s_aldn (p' := 1) rfl rfl rfl ?_
  refine s_primN (p' := 4) (q := 3) rfl rfl rfl rfl rfl rfl rfl rfl ?_
  refine c_ret rfl ?_
  refine s_aldn (p' := 5) rfl rfl rfl ?_
  refine s_con (p' := 6) rfl rfl ?_
  refine s_pfz (p' := 9) (fs' := [_, _, _]) rfl rfl (rd_nw rfl (len_s (len_a (len_s (len_s (len_s (len_s (len_s (len_s (len_s (len_s HL)))))))) rfl))) rfl rfl rfl rfl ?_
  refine c_ret rfl ?_
  refine s_aldn (p' := 5) rfl rfl rfl ?_
  refine s_sh (p' := 8) (ls' := _) (st' := .ref 1000000 :: _) (h' := _) rfl rfl rfl rfl ?_
  refine s_pfz (p' := 11) (fs' := [_, _, _]) rfl rfl (rd_ss rfl (rd_nw rfl (len_s (len_a (len_s (len_s (len_s (len_s (len_s (len_s (len_s (len_s HL)))))))) rfl)))) rfl rfl rfl rfl ?_
  refine c_ret rfl ?_
  refine s_astn (p' := 8) (ls' := [_, _, _]) rfl rfl rfl rfl ?_
  refine s_aldn (p' := 9) rfl rfl rfl ?_
  refine s_ildn (p' := 10) rfl rfl rfl ?_
  refine c_call (p' := 13) (kc := 96) (ls0 := [_, _]) rfl rfl rfl rfl rfl (mj_rcv_is (rd_sn rfl (rd_sn rfl (rd_app (rd_ss rfl (rd_nw rfl (len_s (len_s (len_s (len_s (len_s (len_s (len_s (len_s HL)))))))))))))) rfl rfl rfl ?_
  refine s_ildn (p' := 1) rfl rfl rfl ?_
  refine s_if (p' := 4) false rfl (by decide +kernel) rfl ?_
  refine s_aldn (p' := 5) rfl rfl rfl ?_
  refine s_gf (p' := 8) rfl (rd_sn rfl (rd_sn rfl (rd_app (rd_ss rfl (rd_nw rfl (len_s (len_s (len_s (len_s (len_s (len_s (len_s (len_s HL))))))))))))) rfl rfl ?_
  refine s_aldn (p' := 9) rfl rfl rfl ?_
  refine s_gf (p' := 12) rfl (rd_sn rfl (rd_sn rfl (rd_app (rd_ss rfl (rd_nw rfl (len_s (len_s (len_s (len_s (len_s (len_s (len_s (len_s HL))))))))))))) rfl rfl ?_
  refine c_call (p' := 15) (kc := 95) (ls0 := [_]) rfl rfl rfl rfl rfl (mj_rcv_is (k_300 _)) rfl rfl rfl ?_
  refine s_aldn (p' := 1) rfl rfl rfl ?_
  refine s_gf (p' := 4) rfl (k_300 _) rfl rfl ?_
  refine s_lenz (p' := 5) rfl (mj_rdA_cst (k_301 _) (by decide)) rfl rfl ?_
  refine s_aldn (p' := 6) rfl rfl rfl ?_
  refine c_call (p' := 9) (kc := 94) (ls0 := [_]) rfl rfl rfl rfl rfl (mj_rcv_is (k_300 _)) rfl rfl rfl ?_
  refine s_sh (p' := 3) (ls' := _) (st' := .int (nI 1) :: _) (h' := _) rfl rfl rfl rfl ?_
  refine s_if (p' := 6) false rfl (by decide +kernel) rfl ?_
  refine s_aldn (p' := 7) rfl rfl rfl ?_
  refine s_gf (p' := 10) rfl (k_300 _) rfl rfl ?_
  refine s_goto (p' := 14) rfl rfl ?_
  refine c_iret rfl (by decide +kernel) ?_
  refine s_bz (p' := 10) (z := (nI 0)) rfl rfl rfl (by decide +kernel) ?_
  refine c_iret rfl rfl ?_
  refine s_icmp (p' := 18) false rfl (by decide +kernel) rfl ?_
  refine s_con (p' := 19) rfl rfl ?_
  refine s_goto (p' := 39) rfl rfl ?_
  refine c_iret rfl (by decide +kernel) ?_
  refine s_if (p' := 16) false rfl (by decide +kernel) rfl ?_
  refine s_aldn (p' := 17) rfl rfl rfl ?_
  refine c_aret rfl ?_
  refine c_aret rfl ?_
  refine s_astn (p' := 15) (ls' := [_, _]) rfl rfl rfl rfl ?_
  refine s_aldn (p' := 16) rfl rfl rfl ?_
  refine s_aldn (p' := 17) rfl rfl rfl ?_
  refine s_gf (p' := 20) rfl (rd_sn rfl (rd_sn rfl (rd_app (rd_sn rfl (rd_app (rd_sn rfl (rd_sn rfl (rd_sn rfl (rd_sn rfl (rd_sn rfl (rd_sn rfl (rd_sn rfl (rd_sn rfl H400))))))))))))) rfl rfl ?_
  refine c_call (p' := 25) (kc := 98) (ls0 := [_]) rfl rfl rfl rfl rfl (mj_rcv_is (rd_sn rfl (rd_sn rfl (rd_app (rd_sn rfl (rd_app (rd_sn rfl (rd_sn rfl (rd_sn rfl (rd_sn rfl (rd_sn rfl (rd_sn rfl (rd_sn rfl (rd_sn rfl H401)))))))))))))) rfl rfl rfl ?_
  refine s_aldn (p' := 1) rfl rfl rfl ?_
  refine s_gf (p' := 4) rfl (rd_sn rfl (rd_sn rfl (rd_app (rd_sn rfl (rd_app (rd_sn rfl (rd_sn rfl (rd_sn rfl (rd_sn rfl (rd_sn rfl (rd_sn rfl (rd_sn rfl (rd_sn rfl H401))))))))))))) rfl rfl ?_
  refine c_iret rfl rfl ?_
  refine s_bip (p' := 27) rfl rfl ?_
  refine s_icmp (p' := 34) true rfl (by decide +kernel) rfl ?_
  refine s_con (p' := 35) rfl rfl ?_
  refine c_call (p' := 38) (kc := 98) (ls0 := [_, _]) rfl rfl rfl rfl rfl (mj_rcv_is (rd_sn rfl (rd_sn rfl (rd_app (rd_sn rfl (rd_app (rd_sn rfl (rd_sn rfl (rd_sn rfl (rd_sn rfl (rd_sn rfl (rd_sn rfl (rd_sn rfl (rd_sn rfl H400)))))))))))))) rfl rfl rfl ?_
  refine s_aldn (p' := 1) rfl rfl rfl ?_
  refine s_ildn (p' := 2) rfl rfl rfl ?_
  refine s_pfz (p' := 5) (fs' := [_, _, _, _, _, _, _, _, _, _, _]) rfl rfl (rd_sn rfl (rd_sn rfl (rd_app (rd_sn rfl (rd_app (rd_sn rfl (rd_sn rfl (rd_sn rfl (rd_sn rfl (rd_sn rfl (rd_sn rfl (rd_sn rfl (rd_sn rfl H400))))))))))))) rfl rfl rfl rfl ?_
  refine s_ildn (p' := 6) rfl rfl rfl ?_
  refine s_if (p' := 13) true rfl (by decide +kernel) rfl ?_
  refine s_con (p' := 14) rfl rfl ?_
  refine c_iret rfl (by decide +kernel) ?_
  refine s_if (p' := 43) true rfl (by decide +kernel) rfl ?_
  refine s_aldn (p' := 44) rfl rfl rfl ?_
  refine s_gf (p' := 47) rfl (rd_ss rfl (rd_sn rfl (rd_sn rfl (rd_app (rd_sn rfl (rd_app (rd_sn rfl (rd_sn rfl (rd_sn rfl (rd_sn rfl (rd_sn rfl (rd_sn rfl (rd_sn rfl (rd_sn rfl H400)))))))))))))) rfl rfl ?_
  refine s_newz (p' := 50) (a := 416) rfl (len_s (len_s (len_s (len_a (len_s (len_a (len_s (len_s (len_s (len_s (len_s (len_s (len_s (len_s HL)))))))) rfl)) rfl)))) rfl rfl ?_
  refine s_dupr (p' := 51) rfl rfl ?_
  refine s_aldn (p' := 52) rfl rfl rfl ?_
  refine s_aldn (p' := 53) rfl rfl rfl ?_
  refine s_gf (p' := 56) rfl (rd_app (rd_ss rfl (rd_sn rfl (rd_sn rfl (rd_app (rd_sn rfl (rd_app (rd_sn rfl (rd_sn rfl (rd_sn rfl (rd_sn rfl (rd_sn rfl (rd_sn rfl (rd_sn rfl (rd_sn rfl H400))))))))))))))) rfl rfl ?_
  refine c_call (p' := 59) (kc := 98) (ls0 := [_, _, _]) rfl rfl rfl rfl rfl (mj_rcv_is (rd_nw rfl (len_s (len_s (len_s (len_a (len_s (len_a (len_s (len_s (len_s (len_s (len_s (len_s (len_s (len_s HL)))))))) rfl)) rfl)))))) rfl rfl rfl ?_
  refine s_aldn (p' := 1) rfl rfl rfl ?_
  refine s_primN (p' := 4) (q := 3) rfl rfl rfl rfl rfl rfl rfl rfl ?_
  refine s_aldn (p' := 5) rfl rfl rfl ?_
  refine s_newz (p' := 8) (a := 417) rfl (len_a (len_s (len_s (len_s (len_a (len_s (len_a (len_s (len_s (len_s (len_s (len_s (len_s (len_s (len_s HL)))))))) rfl)) rfl)))) rfl) rfl rfl ?_
  refine s_dupr (p' := 9) rfl rfl ?_
  refine c_call (p' := 12) (kc := 97) (ls0 := [_]) rfl rfl rfl rfl rfl (mj_rcv_is (rd_nw rfl (len_a (len_s (len_s (len_s (len_a (len_s (len_a (len_s (len_s (len_s (len_s (len_s (len_s (len_s (len_s HL)))))))) rfl)) rfl)))) rfl))) rfl rfl rfl ?_
  refine s_aldn (p' := 1) rfl rfl rfl ?_
  refine c_call (p' := 4) (kc := 96) (ls0 := [_]) rfl rfl rfl rfl rfl (mj_rcv_is (rd_nw rfl (len_a (len_s (len_s (len_s (len_a (len_s (len_a (len_s (len_s (len_s (len_s (len_s (len_s (len_s (len_s HL)))))))) rfl)) rfl)))) rfl))) rfl rfl rfl ?_
  refine s_aldn (p' := 1) rfl rfl rfl ?_
  refine c_call (p' := 4) (kc := 95) (ls0 := [_]) rfl rfl rfl rfl rfl (mj_rcv_is (rd_nw rfl (len_a (len_s (len_s (len_s (len_a (len_s (len_a (len_s (len_s (len_s (len_s (len_s (len_s (len_s (len_s HL)))))))) rfl)) rfl)))) rfl))) rfl rfl rfl ?_
  refine s_aldn (p' := 1) rfl rfl rfl ?_
  refine s_primN (p' := 4) (q := 3) rfl rfl rfl rfl rfl rfl rfl rfl ?_
  refine c_ret rfl ?_
  refine s_aldn (p' := 5) rfl rfl rfl ?_
  refine s_con (p' := 6) rfl rfl ?_
  refine s_pfz (p' := 9) (fs' := [_, _, _]) rfl rfl (rd_nw rfl (len_a (len_s (len_s (len_s (len_a (len_s (len_a (len_s (len_s (len_s (len_s (len_s (len_s (len_s (len_s HL)))))))) rfl)) rfl)))) rfl)) rfl rfl rfl rfl ?_
  refine c_ret rfl ?_
  refine s_aldn (p' := 5) rfl rfl rfl ?_
  refine s_sh (p' := 8) (ls' := _) (st' := .ref 1000000 :: _) (h' := _) rfl rfl rfl rfl ?_
  refine s_pfz (p' := 11) (fs' := [_, _, _]) rfl rfl (rd_ss rfl (rd_nw rfl (len_a (len_s (len_s (len_s (len_a (len_s (len_a (len_s (len_s (len_s (len_s (len_s (len_s (len_s (len_s HL)))))))) rfl)) rfl)))) rfl))) rfl rfl rfl rfl ?_
  refine c_ret rfl ?_
  refine s_pfz (p' := 15) (fs' := [_, _, _]) rfl rfl (rd_sn rfl (rd_sn rfl (rd_app (rd_nw rfl (len_s (len_s (len_s (len_a (len_s (len_a (len_s (len_s (len_s (len_s (len_s (len_s (len_s (len_s HL)))))))) rfl)) rfl)))))))) rfl rfl rfl rfl ?_
  refine s_aldn (p' := 16) rfl rfl rfl ?_
  refine s_aldn (p' := 17) rfl rfl rfl ?_
  refine s_pfz (p' := 20) (fs' := [_, _, _]) rfl rfl (rd_ss rfl (rd_sn rfl (rd_sn rfl (rd_app (rd_nw rfl (len_s (len_s (len_s (len_a (len_s (len_a (len_s (len_s (len_s (len_s (len_s (len_s (len_s (len_s HL)))))))) rfl)) rfl))))))))) rfl rfl rfl rfl ?_
  refine s_aldn (p' := 21) rfl rfl rfl ?_
  refine s_aldn (p' := 22) rfl rfl rfl ?_
  refine s_pfz (p' := 25) (fs' := [_, _, _]) rfl rfl (rd_ss rfl (rd_ss rfl (rd_sn rfl (rd_sn rfl (rd_app (rd_nw rfl (len_s (len_s (len_s (len_a (len_s (len_a (len_s (len_s (len_s (len_s (len_s (len_s (len_s (len_s HL)))))))) rfl)) rfl)))))))))) rfl rfl rfl rfl ?_
  refine s_aldn (p' := 26) rfl rfl rfl ?_
  refine s_aldn (p' := 27) rfl rfl rfl ?_
  refine c_call (p' := 30) (kc := 97) (ls0 := [_, _, _, _, _, _, _, _, _, _, _, _]) rfl rfl rfl rfl rfl (mj_rcv_is (rd_ss rfl (rd_ss rfl (rd_ss rfl (rd_sn rfl (rd_sn rfl (rd_app (rd_nw rfl (len_s (len_s (len_s (len_a (len_s (len_a (len_s (len_s (len_s (len_s (len_s (len_s (len_s (len_s HL)))))))) rfl)) rfl)))))))))))) rfl rfl rfl ?_
  refine s_aldn (p' := 1) rfl rfl rfl ?_
  refine c_call (p' := 6) (kc := 96) (ls0 := [_]) rfl rfl rfl rfl rfl (mj_rcv_is (rd_sn rfl (rd_sn rfl (rd_sn rfl (rd_sn rfl (rd_sn rfl (rd_app (rd_app (rd_sn rfl (rd_ss rfl (rd_ss rfl (rd_nw rfl (len_s (len_a (len_s (len_s (len_s (len_s (len_s (len_s (len_s (len_s HL)))))))) rfl)))))))))))))) rfl rfl rfl ?_
  refine s_newz (p' := 3) (a := 418) rfl (len_s (len_s (len_s (len_s (len_s (len_a (len_a (len_s (len_s (len_s (len_a (len_s (len_a (len_s (len_s (len_s (len_s (len_s (len_s (len_s (len_s HL)))))))) rfl)) rfl)))) rfl) rfl)))))) rfl rfl ?_
  refine s_dupr (p' := 4) rfl rfl ?_
  refine s_aldn (p' := 5) rfl rfl rfl ?_
  refine c_call (p' := 8) (kc := 95) (ls0 := [_, _]) rfl rfl rfl rfl rfl (mj_rcv_is (rd_nw rfl (len_s (len_s (len_s (len_s (len_s (len_a (len_a (len_s (len_s (len_s (len_a (len_s (len_a (len_s (len_s (len_s (len_s (len_s (len_s (len_s (len_s HL)))))))) rfl)) rfl)))) rfl) rfl)))))))) rfl rfl rfl ?_
  refine s_aldn (p' := 1) rfl rfl rfl ?_
  refine s_aldn (p' := 2) rfl rfl rfl ?_
  refine s_pfz (p' := 5) (fs' := [_, _, _, _]) rfl rfl (rd_nw rfl (len_s (len_s (len_s (len_s (len_s (len_a (len_a (len_s (len_s (len_s (len_a (len_s (len_a (len_s (len_s (len_s (len_s (len_s (len_s (len_s (len_s HL)))))))) rfl)) rfl)))) rfl) rfl))))))) rfl rfl rfl rfl ?_
  refine s_aldn (p' := 6) rfl rfl rfl ?_
  refine s_primN (p' := 9) (q := 3) rfl rfl rfl rfl rfl rfl rfl rfl ?_
  refine s_aldn (p' := 10) rfl rfl rfl ?_
  refine s_con (p' := 11) rfl rfl ?_
  refine s_pfz (p' := 14) (fs' := [_, _, _, _]) rfl rfl (rd_ss rfl (rd_nw rfl (len_s (len_s (len_s (len_s (len_s (len_a (len_a (len_s (len_s (len_s (len_a (len_s (len_a (len_s (len_s (len_s (len_s (len_s (len_s (len_s (len_s HL)))))))) rfl)) rfl)))) rfl) rfl)))))))) rfl rfl rfl rfl ?_
  refine s_aldn (p' := 15) rfl rfl rfl ?_
  refine s_aldn (p' := 16) rfl rfl rfl ?_
  refine s_gf (p' := 19) rfl (rd_ss rfl (rd_ss rfl (rd_nw rfl (len_s (len_s (len_s (len_s (len_s (len_a (len_a (len_s (len_s (len_s (len_a (len_s (len_a (len_s (len_s (len_s (len_s (len_s (len_s (len_s (len_s HL)))))))) rfl)) rfl)))) rfl) rfl))))))))) rfl rfl ?_
  refine s_gf (p' := 22) rfl (rd_sn rfl (rd_sn rfl (rd_app (rd_sn rfl (rd_sn rfl (rd_sn rfl (rd_sn rfl (rd_sn rfl (rd_app (rd_app (rd_sn rfl (rd_ss rfl (rd_ss rfl (rd_nw rfl (len_s (len_a (len_s (len_s (len_s (len_s (len_s (len_s (len_s (len_s HL)))))))) rfl)))))))))))))))) rfl rfl ?_
  refine s_pfz (p' := 25) (fs' := [_, _, _, _]) rfl rfl (rd_ss rfl (rd_ss rfl (rd_nw rfl (len_s (len_s (len_s (len_s (len_s (len_a (len_a (len_s (len_s (len_s (len_a (len_s (len_a (len_s (len_s (len_s (len_s (len_s (len_s (len_s (len_s HL)))))))) rfl)) rfl)))) rfl) rfl))))))))) rfl rfl rfl rfl ?_
  refine c_ret rfl ?_
  refine c_aret rfl ?_
  refine s_astn (p' := 7) (ls' := [_, _, _, _, _, _, _, _, _, _, _, _]) rfl rfl rfl rfl ?_
  refine s_aldn (p' := 8) rfl rfl rfl ?_
  refine c_call (p' := 13) (kc := 96) (ls0 := [_]) rfl rfl rfl rfl rfl (mj_rcv_is (rd_ss rfl (rd_ss rfl (rd_ss rfl (rd_nw rfl (len_s (len_s (len_s (len_s (len_s (len_a (len_a (len_s (len_s (len_s (len_a (len_s (len_a (len_s (len_s (len_s (len_s (len_s (len_s (len_s (len_s HL)))))))) rfl)) rfl)))) rfl) rfl))))))))))) rfl rfl rfl ?_
  refine s_aldn (p' := 1) rfl rfl rfl ?_
  refine s_gf (p' := 4) rfl (rd_ss rfl (rd_ss rfl (rd_ss rfl (rd_nw rfl (len_s (len_s (len_s (len_s (len_s (len_a (len_a (len_s (len_s (len_s (len_a (len_s (len_a (len_s (len_s (len_s (len_s (len_s (len_s (len_s (len_s HL)))))))) rfl)) rfl)))) rfl) rfl)))))))))) rfl rfl ?_
  refine s_aldn (p' := 5) rfl rfl rfl ?_
  refine s_gf (p' := 8) rfl (rd_ss rfl (rd_ss rfl (rd_ss rfl (rd_nw rfl (len_s (len_s (len_s (len_s (len_s (len_a (len_a (len_s (len_s (len_s (len_a (len_s (len_a (len_s (len_s (len_s (len_s (len_s (len_s (len_s (len_s HL)))))))) rfl)) rfl)))) rfl) rfl)))))))))) rfl rfl ?_
  refine s_gf (p' := 11) rfl (rd_sn rfl (rd_sn rfl (rd_sn rfl (rd_app (rd_sn rfl (rd_sn rfl (rd_sn rfl (rd_sn rfl (rd_sn rfl (rd_app (rd_app (rd_sn rfl (rd_ss rfl (rd_ss rfl (rd_nw rfl (len_s (len_a (len_s (len_s (len_s (len_s (len_s (len_s (len_s (len_s HL)))))))) rfl))))))))))))))))) rfl rfl ?_
  refine s_icmp (p' := 18) true rfl (by decide +kernel) rfl ?_
  refine s_con (p' := 19) rfl rfl ?_
  refine c_iret rfl (by decide +kernel) ?_
  refine s_if (p' := 283) true rfl (by decide +kernel) rfl ?_
  refine c_ret rfl ?_
  refine c_ret rfl ?_
  refine c_call (p' := 64) (kc := 98) (ls0 := [_, _]) rfl rfl rfl rfl rfl (mj_rcv_is (rd_sn rfl (rd_sn rfl (rd_sn rfl (rd_app (rd_sn rfl (rd_sn rfl (rd_sn rfl (rd_sn rfl (rd_sn rfl (rd_app (rd_app (rd_sn rfl (rd_sn rfl (rd_sn rfl (rd_app (rd_sn rfl (rd_app (rd_sn rfl (rd_sn rfl (rd_sn rfl (rd_sn rfl (rd_sn rfl (rd_sn rfl (rd_sn rfl (rd_sn rfl H401)))))))))))))))))))))))))) rfl rfl rfl ?_
  refine s_aldn (p' := 1) rfl rfl rfl ?_
  refine s_dupr (p' := 2) rfl rfl ?_
  refine s_gf (p' := 5) rfl (rd_sn rfl (rd_sn rfl (rd_sn rfl (rd_app (rd_sn rfl (rd_sn rfl (rd_sn rfl (rd_sn rfl (rd_sn rfl (rd_app (rd_app (rd_sn rfl (rd_sn rfl (rd_sn rfl (rd_app (rd_sn rfl (rd_app (rd_sn rfl (rd_sn rfl (rd_sn rfl (rd_sn rfl (rd_sn rfl (rd_sn rfl (rd_sn rfl (rd_sn rfl H401))))))))))))))))))))))))) rfl rfl ?_
  refine s_con (p' := 6) rfl rfl ?_
  refine s_bz (p' := 7) (z := (nI 1)) rfl rfl rfl (by decide +kernel) ?_
  refine s_pfz (p' := 10) (fs' := [_, _, _]) rfl rfl (rd_sn rfl (rd_sn rfl (rd_sn rfl (rd_app (rd_sn rfl (rd_sn rfl (rd_sn rfl (rd_sn rfl (rd_sn rfl (rd_app (rd_app (rd_sn rfl (rd_sn rfl (rd_sn rfl (rd_app (rd_sn rfl (rd_app (rd_sn rfl (rd_sn rfl (rd_sn rfl (rd_sn rfl (rd_sn rfl (rd_sn rfl (rd_sn rfl (rd_sn rfl H401))))))))))))))))))))))))) rfl rfl rfl rfl ?_
  refine s_aldn (p' := 11) rfl rfl rfl ?_
  refine s_aldn (p' := 12) rfl rfl rfl ?_
  refine s_aldn (p' := 13) rfl rfl rfl ?_
  refine s_gf (p' := 16) rfl (rd_ss rfl (rd_sn rfl (rd_sn rfl (rd_sn rfl (rd_app (rd_sn rfl (rd_sn rfl (rd_sn rfl (rd_sn rfl (rd_sn rfl (rd_app (rd_app (rd_sn rfl (rd_sn rfl (rd_sn rfl (rd_app (rd_sn rfl (rd_app (rd_sn rfl (rd_sn rfl (rd_sn rfl (rd_sn rfl (rd_sn rfl (rd_sn rfl (rd_sn rfl (rd_sn rfl H401)))))))))))))))))))))))))) rfl rfl ?_
  refine s_aldn (p' := 17) rfl rfl rfl ?_
  refine s_gf (p' := 20) rfl (rd_ss rfl (rd_sn rfl (rd_sn rfl (rd_sn rfl (rd_app (rd_sn rfl (rd_sn rfl (rd_sn rfl (rd_sn rfl (rd_sn rfl (rd_app (rd_app (rd_sn rfl (rd_sn rfl (rd_sn rfl (rd_app (rd_sn rfl (rd_app (rd_sn rfl (rd_sn rfl (rd_sn rfl (rd_sn rfl (rd_sn rfl (rd_sn rfl (rd_sn rfl (rd_sn rfl H401)))))))))))))))))))))))))) rfl rfl ?_
  refine c_call (p' := 23) (kc := 97) (ls0 := [_, _, _, _]) rfl rfl rfl rfl rfl (mj_rcv_is (rd_ss rfl (rd_sn rfl (rd_sn rfl (rd_sn rfl (rd_app (rd_sn rfl (rd_sn rfl (rd_sn rfl (rd_sn rfl (rd_sn rfl (rd_app (rd_app (rd_sn rfl (rd_sn rfl (rd_sn rfl (rd_app (rd_sn rfl (rd_app (rd_sn rfl (rd_sn rfl (rd_sn rfl (rd_sn rfl (rd_sn rfl (rd_sn rfl (rd_sn rfl (rd_sn rfl H401))))))))))))))))))))))))))) rfl rfl rfl ?_
  refine s_ildn (p' := 1) rfl rfl rfl ?_
  refine s_aldn (p' := 2) rfl rfl rfl ?_
  refine s_lenz (p' := 3) rfl (mj_rdA_cst (k_0 _) (by decide)) rfl rfl ?_
  refine s_icmp (p' := 6) false rfl (by decide +kernel) rfl ?_
  refine s_aldn (p' := 7) rfl rfl rfl ?_
  refine c_call (p' := 10) (kc := 96) (ls0 := [_]) rfl rfl rfl rfl rfl (mj_rcv_is (rd_ss rfl (rd_sn rfl (rd_sn rfl (rd_sn rfl (rd_app (rd_sn rfl (rd_sn rfl (rd_sn rfl (rd_sn rfl (rd_sn rfl (rd_app (rd_app (rd_sn rfl (rd_sn rfl (rd_sn rfl (rd_app (rd_sn rfl (rd_app (rd_sn rfl (rd_sn rfl (rd_sn rfl (rd_sn rfl (rd_sn rfl (rd_sn rfl (rd_sn rfl (rd_sn rfl H401))))))))))))))))))))))))))) rfl rfl rfl ?_
  refine s_aldn (p' := 1) rfl rfl rfl ?_
  refine s_aldn (p' := 2) rfl rfl rfl ?_
  refine s_gf (p' := 5) rfl (rd_ss rfl (rd_sn rfl (rd_sn rfl (rd_sn rfl (rd_app (rd_sn rfl (rd_sn rfl (rd_sn rfl (rd_sn rfl (rd_sn rfl (rd_app (rd_app (rd_sn rfl (rd_sn rfl (rd_sn rfl (rd_app (rd_sn rfl (rd_app (rd_sn rfl (rd_sn rfl (rd_sn rfl (rd_sn rfl (rd_sn rfl (rd_sn rfl (rd_sn rfl (rd_sn rfl H401)))))))))))))))))))))))))) rfl rfl ?_
  refine s_con (p' := 6) rfl rfl ?_
  refine s_bz (p' := 7) (z := (nI 1)) rfl rfl rfl (by decide +kernel) ?_
  refine c_call (p' := 10) (kc := 95) (ls0 := [_, _, _, _]) rfl rfl rfl rfl rfl (mj_rcv_is (rd_ss rfl (rd_sn rfl (rd_sn rfl (rd_sn rfl (rd_app (rd_sn rfl (rd_sn rfl (rd_sn rfl (rd_sn rfl (rd_sn rfl (rd_app (rd_app (rd_sn rfl (rd_sn rfl (rd_sn rfl (rd_app (rd_sn rfl (rd_app (rd_sn rfl (rd_sn rfl (rd_sn rfl (rd_sn rfl (rd_sn rfl (rd_sn rfl (rd_sn rfl (rd_sn rfl H401))))))))))))))))))))))))))) rfl rfl rfl ?_
  refine s_aldn (p' := 1) rfl rfl rfl ?_
  refine s_gf (p' := 4) rfl (rd_ss rfl (rd_sn rfl (rd_sn rfl (rd_sn rfl (rd_app (rd_sn rfl (rd_sn rfl (rd_sn rfl (rd_sn rfl (rd_sn rfl (rd_app (rd_app (rd_sn rfl (rd_sn rfl (rd_sn rfl (rd_app (rd_sn rfl (rd_app (rd_sn rfl (rd_sn rfl (rd_sn rfl (rd_sn rfl (rd_sn rfl (rd_sn rfl (rd_sn rfl (rd_sn rfl H401)))))))))))))))))))))))))) rfl rfl ?_
  refine s_lenz (p' := 5) rfl (mj_rdA_cst (k_0 _) (by decide)) rfl rfl ?_
  refine s_istn (p' := 6) (ls' := [_, _, _, _]) rfl rfl rfl rfl ?_
  refine s_ildn (p' := 7) rfl rfl rfl ?_
  refine s_if (p' := 10) false rfl (by decide +kernel) rfl ?_
  refine s_aldn (p' := 11) rfl rfl rfl ?_
  refine s_gf (p' := 14) rfl (rd_ss rfl (rd_sn rfl (rd_sn rfl (rd_sn rfl (rd_app (rd_sn rfl (rd_sn rfl (rd_sn rfl (rd_sn rfl (rd_sn rfl (rd_app (rd_app (rd_sn rfl (rd_sn rfl (rd_sn rfl (rd_app (rd_sn rfl (rd_app (rd_sn rfl (rd_sn rfl (rd_sn rfl (rd_sn rfl (rd_sn rfl (rd_sn rfl (rd_sn rfl (rd_sn rfl H401)))))))))))))))))))))))))) rfl rfl ?_
  refine s_sh (p' := 17) (ls' := _) (st' := .ref 1000000 :: _) (h' := _) rfl rfl rfl rfl ?_
  refine s_sp (p' := 45) (ls' := _) rfl rfl rfl ?_
  refine s_aldn (p' := 46) rfl rfl rfl ?_
  refine s_bip (p' := 48) rfl rfl ?_
  refine s_ildn (p' := 49) rfl rfl rfl ?_
  refine s_primV (p' := 52) (q := 4) rfl rfl rfl rfl rfl rfl (p_max (x := (nI 10)) (y := (nI 1)) (z := (nI 10)) (by decide +kernel)) rfl ?_
  refine s_anaz (p' := 55) (a := 419) (n := 10) rfl (len_s (len_s (len_s (len_s (len_a (len_s (len_s (len_s (len_s (len_s (len_a (len_a (len_s (len_s (len_s (len_a (len_s (len_a (len_s (len_s (len_s (len_s (len_s (len_s (len_s (len_s HL)))))))) rfl)) rfl)))) rfl) rfl)))))) rfl))))) rfl rfl ?_
  refine s_sp (p' := 56) (ls' := _) rfl rfl rfl ?_
  refine s_pfz (p' := 59) (fs' := [_, _, _]) rfl rfl (rd_app (rd_ss rfl (rd_sn rfl (rd_sn rfl (rd_sn rfl (rd_app (rd_sn rfl (rd_sn rfl (rd_sn rfl (rd_sn rfl (rd_sn rfl (rd_app (rd_app (rd_sn rfl (rd_sn rfl (rd_sn rfl (rd_app (rd_sn rfl (rd_app (rd_sn rfl (rd_sn rfl (rd_sn rfl (rd_sn rfl (rd_sn rfl (rd_sn rfl (rd_sn rfl (rd_sn rfl H401))))))))))))))))))))))))))) rfl rfl rfl rfl ?_
  refine c_aret rfl ?_
  refine c_aret rfl ?_
  refine s_astn (p' := 11) (ls' := [_, _, _, _]) rfl rfl rfl rfl ?_
  refine s_aldn (p' := 12) rfl rfl rfl ?_
  refine s_ildn (p' := 13) rfl rfl rfl ?_
  refine s_aldn (p' := 14) rfl rfl rfl ?_
  refine s_aasz (p' := 15) (m := 0) rfl rfl (rd_sn rfl (rd_nw rfl (len_s (len_s (len_s (len_s (len_a (len_s (len_s (len_s (len_s (len_s (len_a (len_a (len_s (len_s (len_s (len_a (len_s (len_a (len_s (len_s (len_s (len_s (len_s (len_s (len_s (len_s HL)))))))) rfl)) rfl)))) rfl) rfl)))))) rfl))))))) rfl (by decide +kernel) rfl (rd_sn rfl (rd_app (rd_sn rfl (rd_sn rfl (rd_sn rfl (rd_sn rfl (rd_app (rd_ss rfl (rd_ss rfl (rd_ss rfl (rd_sn rfl (rd_sn rfl (rd_app (rd_nw rfl (len_s (len_s (len_s (len_a (len_s (len_a (len_s (len_s (len_s (len_s (len_s (len_s (len_s (len_s HL)))))))) rfl)) rfl)))))))))))))))))) rfl rfl ?_
  refine s_aldn (p' := 16) rfl rfl rfl ?_
  refine s_ildn (p' := 17) rfl rfl rfl ?_
  refine s_con (p' := 18) rfl rfl ?_
  refine s_bz (p' := 19) (z := (nI 1)) rfl rfl rfl (by decide +kernel) ?_
  refine s_pfz (p' := 22) (fs' := [_, _, _]) rfl rfl (rd_sn rfl (rd_ss rfl (rd_app (rd_ss rfl (rd_sn rfl (rd_sn rfl (rd_sn rfl (rd_app (rd_sn rfl (rd_sn rfl (rd_sn rfl (rd_sn rfl (rd_sn rfl (rd_app (rd_app (rd_sn rfl (rd_sn rfl (rd_sn rfl (rd_app (rd_sn rfl (rd_app (rd_sn rfl (rd_sn rfl (rd_sn rfl (rd_sn rfl (rd_sn rfl (rd_sn rfl (rd_sn rfl (rd_sn rfl H401))))))))))))))))))))))))))))) rfl rfl rfl rfl ?_
  refine c_ret rfl ?_
  refine s_con (p' := 24) rfl rfl ?_
  refine c_iret rfl (by decide +kernel) ?_
  refine s_sp (p' := 65) (ls' := _) rfl rfl rfl ?_
  refine s_aldn (p' := 66) rfl rfl rfl ?_
  refine s_sh (p' := 68) (ls' := _) (st' := .ref 1000300 :: _) (h' := _) rfl rfl rfl rfl ?_
  refine s_pfz (p' := 71) (fs' := [_, _, _, _, _, _, _, _, _, _, _]) rfl rfl (rd_sn rfl (rd_sn rfl (rd_sn rfl (rd_app (rd_sn rfl (rd_sn rfl (rd_sn rfl (rd_sn rfl (rd_app (rd_sn rfl (rd_sn rfl (rd_sn rfl (rd_sn rfl (rd_sn rfl (rd_app (rd_app (rd_ss rfl (rd_sn rfl (rd_sn rfl (rd_app (rd_sn rfl (rd_app (rd_sn rfl (rd_sn rfl (rd_sn rfl (rd_sn rfl (rd_sn rfl (rd_sn rfl (rd_sn rfl (rd_sn rfl H400)))))))))))))))))))))))))))))) rfl rfl rfl rfl ?_
  refine s_aldn (p' := 72) rfl rfl rfl ?_
  refine s_gf (p' := 75) rfl (rd_ss rfl (rd_sn rfl (rd_sn rfl (rd_sn rfl (rd_app (rd_sn rfl (rd_sn rfl (rd_sn rfl (rd_sn rfl (rd_app (rd_sn rfl (rd_sn rfl (rd_sn rfl (rd_sn rfl (rd_sn rfl (rd_app (rd_app (rd_ss rfl (rd_sn rfl (rd_sn rfl (rd_app (rd_sn rfl (rd_app (rd_sn rfl (rd_sn rfl (rd_sn rfl (rd_sn rfl (rd_sn rfl (rd_sn rfl (rd_sn rfl (rd_sn rfl H400))))))))))))))))))))))))))))))) rfl rfl ?_
  refine c_call (p' := 80) (kc := 98) (ls0 := [_]) rfl rfl rfl rfl rfl (mj_rcv_is (rd_sn rfl (rd_ss rfl (rd_sn rfl (rd_ss rfl (rd_app (rd_ss rfl (rd_sn rfl (rd_sn rfl (rd_sn rfl (rd_app (rd_sn rfl (rd_sn rfl (rd_sn rfl (rd_sn rfl (rd_sn rfl (rd_app (rd_app (rd_sn rfl (rd_sn rfl (rd_sn rfl (rd_app (rd_sn rfl (rd_app (rd_sn rfl (rd_sn rfl (rd_sn rfl (rd_sn rfl (rd_sn rfl (rd_sn rfl (rd_sn rfl (rd_sn rfl H401)))))))))))))))))))))))))))))))) rfl rfl rfl ?_
  refine s_aldn (p' := 1) rfl rfl rfl ?_
  refine s_gf (p' := 4) rfl (rd_sn rfl (rd_ss rfl (rd_sn rfl (rd_ss rfl (rd_app (rd_ss rfl (rd_sn rfl (rd_sn rfl (rd_sn rfl (rd_app (rd_sn rfl (rd_sn rfl (rd_sn rfl (rd_sn rfl (rd_sn rfl (rd_app (rd_app (rd_sn rfl (rd_sn rfl (rd_sn rfl (rd_app (rd_sn rfl (rd_app (rd_sn rfl (rd_sn rfl (rd_sn rfl (rd_sn rfl (rd_sn rfl (rd_sn rfl (rd_sn rfl (rd_sn rfl H401))))))))))))))))))))))))))))))) rfl rfl ?_
  refine c_iret rfl rfl ?_
  refine s_con (p' := 81) rfl rfl ?_
  refine s_bz (p' := 82) (z := (nI 0)) rfl rfl rfl (by decide +kernel) ?_
  refine k_iret rfl rfl ?_
  refine l_ist (p' := 432) (ls' := [_, _, _, _, _, _, _, _, _, _]) rfl rfl rfl rfl rfl ?_
  refine l_aldn (p' := 433) rfl rfl rfl rfl ?_
  refine l_call (p' := 436) (kc := 99) (ls0 := [_]) rfl rfl rfl rfl rfl rfl (mj_rcv_is (rd_ss rfl (rd_sn rfl (rd_sn rfl (rd_sn rfl (rd_app (rd_sn rfl (rd_sn rfl (rd_sn rfl (rd_sn rfl (rd_app (rd_sn rfl (rd_sn rfl (rd_sn rfl (rd_sn rfl (rd_sn rfl (rd_app (rd_app (rd_ss rfl (rd_sn rfl (rd_sn rfl (rd_app (rd_sn rfl (rd_app (rd_sn rfl (rd_sn rfl (rd_sn rfl (rd_sn rfl (rd_sn rfl (rd_sn rfl (rd_sn rfl (rd_sn rfl H400)))))))))))))))))))))))))))))))) rfl rfl rfl ?_
  refine s_aldn (p' := 1) rfl rfl rfl ?_
  refine s_gf (p' := 4) rfl (rd_ss rfl (rd_sn rfl (rd_sn rfl (rd_sn rfl (rd_app (rd_sn rfl (rd_sn rfl (rd_sn rfl (rd_sn rfl (rd_app (rd_sn rfl (rd_sn rfl (rd_sn rfl (rd_sn rfl (rd_sn rfl (rd_app (rd_app (rd_ss rfl (rd_sn rfl (rd_sn rfl (rd_app (rd_sn rfl (rd_app (rd_sn rfl (rd_sn rfl (rd_sn rfl (rd_sn rfl (rd_sn rfl (rd_sn rfl (rd_sn rfl (rd_sn rfl H400))))))))))))))))))))))))))))))) rfl rfl ?_
  refine k_iret rfl rfl ?_
  refine l_ild (p' := 438) rfl rfl rfl rfl ?_
  refine l_icmp (p' := 443) true rfl rfl (by decide +kernel) rfl ?_
  refine l_ild (p' := 445) rfl rfl rfl rfl ?_
  refine l_if (p' := 448) false rfl rfl (by decide +kernel) rfl ?_
  refine l_aldn (p' := 449) rfl rfl rfl rfl ?_
  refine l_con (p' := 450) rfl rfl rfl ?_
  refine l_lalz (p' := 451) (m := 0) (v := (lN 0)) rfl rfl (rd_sn rfl (rd_sn rfl (rd_sn rfl (rd_sn rfl (rd_app (rd_sn rfl (rd_sn rfl (rd_sn rfl (rd_sn rfl (rd_app (rd_sn rfl (rd_sn rfl (rd_sn rfl (rd_sn rfl (rd_sn rfl (rd_app (rd_app (rd_sn rfl (rd_sn rfl (rd_sn rfl (rd_app (rd_sn rfl (rd_app (rd_ss rfl (rd_sn rfl (rd_sn rfl (rd_sn rfl (rd_sn rfl (rd_sn rfl (rd_sn rfl (rd_sn rfl H412))))))))))))))))))))))))))))))) (by decide +kernel) rfl (by decide +kernel) rfl ?_
  refine l_ild (p' := 453) rfl rfl rfl rfl ?_
  refine l_bzL (p' := 454) (z := (lN 0)) rfl rfl rfl rfl rfl (by decide +kernel) ?_
  refine l_bz (p' := 455) (z := (nI 0)) rfl rfl rfl rfl rfl (by decide +kernel) ?_
  refine l_if (p' := 460) true rfl rfl (by decide +kernel) rfl ?_
  refine l_goto (p' := 2541) rfl rfl rfl ?_
  refine l_incz (p' := 2544) (w := (nI 4)) (ls' := [_, _, _, _, _, _, _, _, _, _]) rfl rfl rfl rfl (by decide +kernel) rfl rfl ?_
  refine l_goto (p' := 28) rfl rfl rfl ?_
  refine l_ild (p' := 30) rfl rfl rfl rfl ?_
  refine l_alds (p' := 31) rfl rfl rfl rfl ?_
  refine l_lens (p' := 32) rfl rfl rfl ?_
  refine l_con (p' := 33) rfl rfl rfl ?_
  refine l_bz (p' := 34) (z := (nI 0)) rfl rfl rfl rfl rfl (by decide +kernel) ?_
  refine l_icmp (p' := 2547) true rfl rfl (by decide +kernel) rfl ?_
  refine l_con (p' := 2548) rfl rfl rfl ?_
  refine l_end rfl rfl ?_
  exact ⟨Nat.le_trans (Nat.le_of_eq (len_s (len_s (len_s (len_s (len_a (len_s (len_s (len_s (len_s (len_a (len_s (len_s (len_s (len_s (len_s (len_a (len_a (len_s (len_s (len_s (len_a (len_s (len_a (len_s (len_s (len_s (len_s (len_s (len_s (len_s (len_s HL)))))))) rfl)) rfl)))) rfl) rfl)))))) rfl))))) rfl)))))) (Nat.le_of_ble_eq_true rfl), Nat.le_trans (sz_s rfl (rd_sn rfl (rd_sn rfl (rd_sn rfl (rd_app (rd_sn rfl (rd_sn rfl (rd_sn rfl (rd_sn rfl (rd_app (rd_sn rfl (rd_sn rfl (rd_sn rfl (rd_sn rfl (rd_sn rfl (rd_app (rd_app (rd_ss rfl (rd_sn rfl (rd_sn rfl (rd_app (rd_sn rfl (rd_app (rd_sn rfl (rd_sn rfl (rd_sn rfl (rd_sn rfl (rd_sn rfl (rd_sn rfl (rd_sn rfl (rd_sn rfl H400)))))))))))))))))))))))))))))) rfl (sz_s rfl (rd_sn rfl (rd_ss rfl (rd_app (rd_ss rfl (rd_sn rfl (rd_sn rfl (rd_sn rfl (rd_app (rd_sn rfl (rd_sn rfl (rd_sn rfl (rd_sn rfl (rd_sn rfl (rd_app (rd_app (rd_sn rfl (rd_sn rfl (rd_sn rfl (rd_app (rd_sn rfl (rd_app (rd_sn rfl (rd_sn rfl (rd_sn rfl (rd_sn rfl (rd_sn rfl (rd_sn rfl (rd_sn rfl (rd_sn rfl H401))))))))))))))))))))))))))))) rfl (sz_sA rfl (rd_sn rfl (rd_nw rfl (len_s (len_s (len_s (len_s (len_a (len_s (len_s (len_s (len_s (len_s (len_a (len_a (len_s (len_s (len_s (len_a (len_s (len_a (len_s (len_s (len_s (len_s (len_s (len_s (len_s (len_s HL)))))))) rfl)) rfl)))) rfl) rfl)))))) rfl))))))) (sz_s rfl (rd_app (rd_ss rfl (rd_sn rfl (rd_sn rfl (rd_sn rfl (rd_app (rd_sn rfl (rd_sn rfl (rd_sn rfl (rd_sn rfl (rd_sn rfl (rd_app (rd_app (rd_sn rfl (rd_sn rfl (rd_sn rfl (rd_app (rd_sn rfl (rd_app (rd_sn rfl (rd_sn rfl (rd_sn rfl (rd_sn rfl (rd_sn rfl (rd_sn rfl (rd_sn rfl (rd_sn rfl H401))))))))))))))))))))))))))) rfl (sz_aa (k := 10) (m := 20026) rfl rfl (sz_s rfl (rd_sn rfl (rd_sn rfl (rd_sn rfl (rd_app (rd_sn rfl (rd_sn rfl (rd_sn rfl (rd_sn rfl (rd_sn rfl (rd_app (rd_app (rd_sn rfl (rd_sn rfl (rd_sn rfl (rd_app (rd_sn rfl (rd_app (rd_sn rfl (rd_sn rfl (rd_sn rfl (rd_sn rfl (rd_sn rfl (rd_sn rfl (rd_sn rfl (rd_sn rfl H401))))))))))))))))))))))))) rfl (sz_s rfl (rd_ss rfl (rd_ss rfl (rd_nw rfl (len_s (len_s (len_s (len_s (len_s (len_a (len_a (len_s (len_s (len_s (len_a (len_s (len_a (len_s (len_s (len_s (len_s (len_s (len_s (len_s (len_s HL)))))))) rfl)) rfl)))) rfl) rfl))))))))) rfl (sz_s rfl (rd_ss rfl (rd_nw rfl (len_s (len_s (len_s (len_s (len_s (len_a (len_a (len_s (len_s (len_s (len_a (len_s (len_a (len_s (len_s (len_s (len_s (len_s (len_s (len_s (len_s HL)))))))) rfl)) rfl)))) rfl) rfl)))))))) rfl (sz_s rfl (rd_nw rfl (len_s (len_s (len_s (len_s (len_s (len_a (len_a (len_s (len_s (len_s (len_a (len_s (len_a (len_s (len_s (len_s (len_s (len_s (len_s (len_s (len_s HL)))))))) rfl)) rfl)))) rfl) rfl))))))) rfl (sz_aa (k := 4) (m := 20016) rfl rfl (sz_s rfl (rd_ss rfl (rd_ss rfl (rd_sn rfl (rd_sn rfl (rd_app (rd_nw rfl (len_s (len_s (len_s (len_a (len_s (len_a (len_s (len_s (len_s (len_s (len_s (len_s (len_s (len_s HL)))))))) rfl)) rfl)))))))))) rfl (sz_s rfl (rd_ss rfl (rd_sn rfl (rd_sn rfl (rd_app (rd_nw rfl (len_s (len_s (len_s (len_a (len_s (len_a (len_s (len_s (len_s (len_s (len_s (len_s (len_s (len_s HL)))))))) rfl)) rfl))))))))) rfl (sz_s rfl (rd_sn rfl (rd_sn rfl (rd_app (rd_nw rfl (len_s (len_s (len_s (len_a (len_s (len_a (len_s (len_s (len_s (len_s (len_s (len_s (len_s (len_s HL)))))))) rfl)) rfl)))))))) rfl (sz_s rfl (rd_ss rfl (rd_nw rfl (len_a (len_s (len_s (len_s (len_a (len_s (len_a (len_s (len_s (len_s (len_s (len_s (len_s (len_s (len_s HL)))))))) rfl)) rfl)))) rfl))) rfl (sz_s rfl (rd_nw rfl (len_a (len_s (len_s (len_s (len_a (len_s (len_a (len_s (len_s (len_s (len_s (len_s (len_s (len_s (len_s HL)))))))) rfl)) rfl)))) rfl)) rfl (sz_aa (k := 3) (m := 20012) rfl rfl (sz_aa (k := 3) (m := 20009) rfl rfl (sz_s rfl (rd_sn rfl (rd_sn rfl (rd_app (rd_sn rfl (rd_app (rd_sn rfl (rd_sn rfl (rd_sn rfl (rd_sn rfl (rd_sn rfl (rd_sn rfl (rd_sn rfl (rd_sn rfl H400))))))))))))) rfl (sz_s rfl (rd_ss rfl (rd_nw rfl (len_s (len_a (len_s (len_s (len_s (len_s (len_s (len_s (len_s (len_s HL)))))))) rfl)))) rfl (sz_s rfl (rd_nw rfl (len_s (len_a (len_s (len_s (len_s (len_s (len_s (len_s (len_s (len_s HL)))))))) rfl))) rfl (sz_aa (k := 3) (m := 20006) rfl rfl (sz_s rfl (rd_nw rfl (len_s (len_s (len_s (len_s (len_s (len_s (len_s (len_s HL))))))))) rfl (sz_aa (k := 3) (m := 20003) rfl rfl (sz_sA rfl (rd_sn rfl (rd_sn rfl (rd_sn rfl (rd_sn rfl (rd_sn rfl (rd_sn rfl (rd_sn rfl H412))))))) (sz_s rfl (rd_sn rfl (rd_sn rfl (rd_sn rfl (rd_sn rfl (rd_sn rfl (rd_sn rfl H38)))))) rfl (sz_s rfl (rd_sn rfl (rd_sn rfl (rd_sn rfl (rd_sn rfl (rd_sn rfl H2))))) rfl (sz_s rfl (rd_sn rfl (rd_sn rfl (rd_sn rfl (rd_sn rfl H80)))) rfl (sz_s rfl (rd_sn rfl (rd_sn rfl (rd_sn rfl H113))) rfl (sz_s rfl (rd_sn rfl (rd_sn rfl H78)) rfl (sz_s rfl (rd_sn rfl H4) rfl (sz_s rfl H37 rfl HZ))))))))))))))))))))))))))))))) (Nat.le_of_ble_eq_true rfl)⟩
theorem p1_12 {xs : Nat → Int32} {h : mj_H} (hk : xs 0 &&& nI 63 = nI 12)   (HL : h.length = 414) (HZ : mj_sz h ≤ 20000) (H0 : mj_rd h 0 = some (.inr (0, [.ref 1, .ref 38, .ref 299, .ref 336, .ref 373, .ref 375, .ref 378, .ref 381, .ref 387, .ref 393, .null, .null, .ref 397, .ref 398, .ref 399, .long (lN 0), .long (lN 0)]))) (H375 : mj_rd h 375 = some (.inr (7, [.ref 376, .ref 377, .int (nI 0)]))) (H400 : mj_rd h 400 = some (.inr (17, [.int (nI 0), .ref 401, .ref 402, .ref 1000300, .long (lN 0), .long (lN 0), .ref 410, .null, .null, .null, .ref 411]))) (H402 : mj_rd h 402 = some (.inr (19, [.ref 403, .ref 404, .ref 405, .ref 406, .ref 407, .ref 408, .ref 409, .int (nI 0), .int (nI 4294967295), .int (nI 0), .ref 400]))) : mj_fin 4 xs h := by
  unfold mj_fin
  refine l_ild (p' := 30) rfl rfl rfl rfl ?_
  refine l_alds (p' := 31) rfl rfl rfl rfl ?_
  refine l_lens (p' := 32) rfl rfl rfl ?_
  refine l_con (p' := 33) rfl rfl rfl ?_
  refine l_bz (p' := 34) (z := (nI 0)) rfl rfl rfl rfl rfl (by decide +kernel) ?_
  refine l_icmp (p' := 37) false rfl rfl (by decide +kernel) rfl ?_
  refine l_alds (p' := 38) rfl rfl rfl rfl ?_
  refine l_ild (p' := 40) rfl rfl rfl rfl ?_
  refine l_ialz (p' := 41) (m := 0) (z := (xs 0)) rfl rfl (by decide +kernel) rfl rfl rfl ?_
  refine l_bip (p' := 43) rfl rfl rfl ?_
  refine l_bz (p' := 44) (z := (nI 12)) rfl rfl rfl rfl rfl hk ?_
  refine l_sp (p' := 895) (ls' := _) rfl rfl rfl rfl rfl ?_
  refine l_aldn (p' := 896) rfl rfl rfl rfl ?_
  refine l_call (p' := 899) (kc := 99) (ls0 := [_]) rfl rfl rfl rfl rfl rfl (mj_rcv_is H0) rfl rfl rfl ?_
  refine s_aldn (p' := 1) rfl rfl rfl ?_
  refine s_gf (p' := 4) rfl H0 rfl rfl ?_
  refine c_call (p' := 7) (kc := 98) (ls0 := [_]) rfl rfl rfl rfl rfl (mj_rcv_is H375) rfl rfl rfl ?_
  refine s_aldn (p' := 1) rfl rfl rfl ?_
  refine s_gf (p' := 4) rfl H375 rfl rfl ?_
  refine c_iret rfl rfl ?_
  refine k_iret rfl rfl ?_
  refine l_aldn (p' := 900) rfl rfl rfl rfl ?_
  refine l_call (p' := 903) (kc := 99) (ls0 := [_]) rfl rfl rfl rfl rfl rfl (mj_rcv_is H400) rfl rfl rfl ?_
  refine s_aldn (p' := 1) rfl rfl rfl ?_
  refine s_con (p' := 2) rfl rfl ?_
  refine s_pfz (p' := 5) (fs' := [_, _, _, _, _, _, _, _, _, _, _]) rfl rfl H400 rfl rfl rfl rfl ?_
  refine s_aldn (p' := 6) rfl rfl rfl ?_
  refine s_gf (p' := 9) rfl (rd_ss rfl H400) rfl rfl ?_
  refine s_gf (p' := 12) rfl (rd_sn rfl H402) rfl rfl ?_
  refine k_iret rfl rfl ?_
  refine l_icmp (p' := 2541) true rfl rfl (by decide +kernel) rfl ?_
  refine l_incz (p' := 2544) (w := (nI 4)) (ls' := [_, _, _, _, _, _, _, _, _, _]) rfl rfl rfl rfl (by decide +kernel) rfl rfl ?_
  refine l_goto (p' := 28) rfl rfl rfl ?_
  refine l_ild (p' := 30) rfl rfl rfl rfl ?_
  refine l_alds (p' := 31) rfl rfl rfl rfl ?_
  refine l_lens (p' := 32) rfl rfl rfl ?_
  refine l_con (p' := 33) rfl rfl rfl ?_
  refine l_bz (p' := 34) (z := (nI 0)) rfl rfl rfl rfl rfl (by decide +kernel) ?_
  refine l_icmp (p' := 2547) true rfl rfl (by decide +kernel) rfl ?_
  refine l_con (p' := 2548) rfl rfl rfl ?_
  refine l_end rfl rfl ?_
  exact ⟨Nat.le_trans (Nat.le_of_eq (len_s HL)) (Nat.le_of_ble_eq_true rfl), Nat.le_trans (sz_s rfl H400 rfl HZ) (Nat.le_of_ble_eq_true rfl)⟩
theorem p1_16 {xs : Nat → Int32} {h : mj_H} (hk : xs 0 &&& nI 63 = nI 16)   (HL : h.length = 414) (HZ : mj_sz h ≤ 20000) (H0 : mj_rd h 0 = some (.inr (0, [.ref 1, .ref 38, .ref 299, .ref 336, .ref 373, .ref 375, .ref 378, .ref 381, .ref 387, .ref 393, .null, .null, .ref 397, .ref 398, .ref 399, .long (lN 0), .long (lN 0)]))) (H381 : mj_rd h 381 = some (.inr (8, [.ref 38, .ref 375, .ref 382, .ref 383, .ref 384, .ref 385, .ref 386, .int (nI 0), .int (nI 0), .int (nI 0), .int (nI 0), .int (nI 0), .int (nI 0)]))) (H400 : mj_rd h 400 = some (.inr (17, [.int (nI 0), .ref 401, .ref 402, .ref 1000300, .long (lN 0), .long (lN 0), .ref 410, .null, .null, .null, .ref 411]))) (H402 : mj_rd h 402 = some (.inr (19, [.ref 403, .ref 404, .ref 405, .ref 406, .ref 407, .ref 408, .ref 409, .int (nI 0), .int (nI 4294967295), .int (nI 0), .ref 400]))) : mj_fin 4 xs h := by
  unfold mj_fin
  refine l_ild (p' := 30) rfl rfl rfl rfl ?_
  refine l_alds (p' := 31) rfl rfl rfl rfl ?_
  refine l_lens (p' := 32) rfl rfl rfl ?_
  refine l_con (p' := 33) rfl rfl rfl ?_
  refine l_bz (p' := 34) (z := (nI 0)) rfl rfl rfl rfl rfl (by decide +kernel) ?_
  refine l_icmp (p' := 37) false rfl rfl (by decide +kernel) rfl ?_
  refine l_alds (p' := 38) rfl rfl rfl rfl ?_
  refine l_ild (p' := 40) rfl rfl rfl rfl ?_
  refine l_ialz (p' := 41) (m := 0) (z := (xs 0)) rfl rfl (by decide +kernel) rfl rfl rfl ?_
  refine l_bip (p' := 43) rfl rfl rfl ?_
  refine l_bz (p' := 44) (z := (nI 16)) rfl rfl rfl rfl rfl hk ?_
  refine l_sp (p' := 1132) (ls' := _) rfl rfl rfl rfl rfl ?_
  refine l_aldn (p' := 1133) rfl rfl rfl rfl ?_
  refine l_call (p' := 1136) (kc := 99) (ls0 := [_]) rfl rfl rfl rfl rfl rfl (mj_rcv_is H0) rfl rfl rfl ?_
  refine s_aldn (p' := 1) rfl rfl rfl ?_
  refine s_gf (p' := 4) rfl H0 rfl rfl ?_
  refine s_gf (p' := 7) rfl H381 rfl rfl ?_
  refine s_if (p' := 10) false rfl (by decide +kernel) rfl ?_
  refine s_bip (p' := 12) rfl rfl ?_
  refine k_iret rfl (by decide +kernel) ?_
  refine l_aldn (p' := 1137) rfl rfl rfl rfl ?_
  refine l_call (p' := 1140) (kc := 99) (ls0 := [_]) rfl rfl rfl rfl rfl rfl (mj_rcv_is H400) rfl rfl rfl ?_
  refine s_aldn (p' := 1) rfl rfl rfl ?_
  refine s_con (p' := 2) rfl rfl ?_
  refine s_pfz (p' := 5) (fs' := [_, _, _, _, _, _, _, _, _, _, _]) rfl rfl H400 rfl rfl rfl rfl ?_
  refine s_aldn (p' := 6) rfl rfl rfl ?_
  refine s_gf (p' := 9) rfl (rd_ss rfl H400) rfl rfl ?_
  refine s_gf (p' := 12) rfl (rd_sn rfl H402) rfl rfl ?_
  refine s_con (p' := 13) rfl rfl ?_
  refine s_icmp (p' := 16) false rfl (by decide +kernel) rfl ?_
  refine s_bip (p' := 18) rfl rfl ?_
  refine s_goto (p' := 53) rfl rfl ?_
  refine k_iret rfl (by decide +kernel) ?_
  refine l_icmp (p' := 2541) true rfl rfl (by decide +kernel) rfl ?_
  refine l_incz (p' := 2544) (w := (nI 4)) (ls' := [_, _, _, _, _, _, _, _, _, _]) rfl rfl rfl rfl (by decide +kernel) rfl rfl ?_
  refine l_goto (p' := 28) rfl rfl rfl ?_
  refine l_ild (p' := 30) rfl rfl rfl rfl ?_
  refine l_alds (p' := 31) rfl rfl rfl rfl ?_
  refine l_lens (p' := 32) rfl rfl rfl ?_
  refine l_con (p' := 33) rfl rfl rfl ?_
  refine l_bz (p' := 34) (z := (nI 0)) rfl rfl rfl rfl rfl (by decide +kernel) ?_
  refine l_icmp (p' := 2547) true rfl rfl (by decide +kernel) rfl ?_
  refine l_con (p' := 2548) rfl rfl rfl ?_
  refine l_end rfl rfl ?_
  exact ⟨Nat.le_trans (Nat.le_of_eq (len_s HL)) (Nat.le_of_ble_eq_true rfl), Nat.le_trans (sz_s rfl H400 rfl HZ) (Nat.le_of_ble_eq_true rfl)⟩
theorem p1_17 {xs : Nat → Int32} {h : mj_H} (hk : xs 0 &&& nI 63 = nI 17)   (HL : h.length = 414) (HZ : mj_sz h ≤ 20000) (H0 : mj_rd h 0 = some (.inr (0, [.ref 1, .ref 38, .ref 299, .ref 336, .ref 373, .ref 375, .ref 378, .ref 381, .ref 387, .ref 393, .null, .null, .ref 397, .ref 398, .ref 399, .long (lN 0), .long (lN 0)]))) (H381 : mj_rd h 381 = some (.inr (8, [.ref 38, .ref 375, .ref 382, .ref 383, .ref 384, .ref 385, .ref 386, .int (nI 0), .int (nI 0), .int (nI 0), .int (nI 0), .int (nI 0), .int (nI 0)]))) (H400 : mj_rd h 400 = some (.inr (17, [.int (nI 0), .ref 401, .ref 402, .ref 1000300, .long (lN 0), .long (lN 0), .ref 410, .null, .null, .null, .ref 411]))) (H402 : mj_rd h 402 = some (.inr (19, [.ref 403, .ref 404, .ref 405, .ref 406, .ref 407, .ref 408, .ref 409, .int (nI 0), .int (nI 4294967295), .int (nI 0), .ref 400]))) : mj_fin 4 xs h := by
  unfold mj_fin
  refine l_ild (p' := 30) rfl rfl rfl rfl ?_
  refine l_alds (p' := 31) rfl rfl rfl rfl ?_
  refine l_lens (p' := 32) rfl rfl rfl ?_
  refine l_con (p' := 33) rfl rfl rfl ?_
  refine l_bz (p' := 34) (z := (nI 0)) rfl rfl rfl rfl rfl (by decide +kernel) ?_
  refine l_icmp (p' := 37) false rfl rfl (by decide +kernel) rfl ?_
  refine l_alds (p' := 38) rfl rfl rfl rfl ?_
  refine l_ild (p' := 40) rfl rfl rfl rfl ?_
  refine l_ialz (p' := 41) (m := 0) (z := (xs 0)) rfl rfl (by decide +kernel) rfl rfl rfl ?_
  refine l_bip (p' := 43) rfl rfl rfl ?_
  refine l_bz (p' := 44) (z := (nI 17)) rfl rfl rfl rfl rfl hk ?_
  refine l_sp (p' := 1145) (ls' := _) rfl rfl rfl rfl rfl ?_
  refine l_aldn (p' := 1146) rfl rfl rfl rfl ?_
  refine l_aldn (p' := 1147) rfl rfl rfl rfl ?_
  refine l_call (p' := 1150) (kc := 99) (ls0 := [_, _, _]) rfl rfl rfl rfl rfl rfl rfl rfl rfl rfl ?_
  refine s_aldn (p' := 1) rfl rfl rfl ?_
  refine s_con (p' := 2) rfl rfl ?_
  refine s_aldn (p' := 3) rfl rfl rfl ?_
  refine c_call (p' := 6) (kc := 98) (ls0 := [_]) rfl rfl rfl rfl rfl (mj_rcv_is H0) rfl rfl rfl ?_
  refine s_aldn (p' := 1) rfl rfl rfl ?_
  refine s_gf (p' := 4) rfl H0 rfl rfl ?_
  refine s_gf (p' := 7) rfl H381 rfl rfl ?_
  refine s_if (p' := 10) false rfl (by decide +kernel) rfl ?_
  refine s_thrz (q := 414) rfl HL rfl ?_
  refine K_c (hp := 11) rfl (mj_ocl_is (rd_nw rfl HL)) rfl ?_
  refine s_astn (p' := 12) (ls' := [_, _, _]) rfl rfl rfl rfl ?_
  refine s_con (p' := 13) rfl rfl ?_
  refine k_iret rfl rfl ?_
  refine l_ist (p' := 1152) (ls' := [_, _, _, _, _, _, _, _, _, _]) rfl rfl rfl rfl rfl ?_
  refine l_aldn (p' := 1153) rfl rfl rfl rfl ?_
  refine l_call (p' := 1156) (kc := 99) (ls0 := [_]) rfl rfl rfl rfl rfl rfl (mj_rcv_is (rd_app H400)) rfl rfl rfl ?_
  refine s_aldn (p' := 1) rfl rfl rfl ?_
  refine c_call (p' := 4) (kc := 98) (ls0 := [_]) rfl rfl rfl rfl rfl (mj_rcv_is (rd_app H400)) rfl rfl rfl ?_
  refine s_aldn (p' := 1) rfl rfl rfl ?_
  refine s_aldn (p' := 2) rfl rfl rfl ?_
  refine s_gf (p' := 5) rfl (rd_app H400) rfl rfl ?_
  refine s_gf (p' := 8) rfl (rd_app H402) rfl rfl ?_
  refine s_con (p' := 9) rfl rfl ?_
  refine s_icmp (p' := 12) false rfl (by decide +kernel) rfl ?_
  refine s_con (p' := 13) rfl rfl ?_
  refine s_goto (p' := 17) rfl rfl ?_
  refine c_call (p' := 20) (kc := 97) (ls0 := [_, _]) rfl rfl rfl rfl rfl (mj_rcv_is (rd_app H400)) rfl rfl rfl ?_
  refine s_aldn (p' := 1) rfl rfl rfl ?_
  refine s_ildn (p' := 2) rfl rfl rfl ?_
  refine s_pfz (p' := 5) (fs' := [_, _, _, _, _, _, _, _, _, _, _]) rfl rfl (rd_app H400) rfl rfl rfl rfl ?_
  refine s_ildn (p' := 6) rfl rfl rfl ?_
  refine s_if (p' := 9) false rfl (by decide +kernel) rfl ?_
  refine s_con (p' := 10) rfl rfl ?_
  refine s_goto (p' := 14) rfl rfl ?_
  refine c_iret rfl (by decide +kernel) ?_
  refine c_iret rfl (by decide +kernel) ?_
  refine s_if (p' := 7) false rfl (by decide +kernel) rfl ?_
  refine s_con (p' := 8) rfl rfl ?_
  refine s_goto (p' := 26) rfl rfl ?_
  refine k_iret rfl rfl ?_
  refine l_ist (p' := 1158) (ls' := [_, _, _, _, _, _, _, _, _, _]) rfl rfl rfl rfl rfl ?_
  refine l_aldn (p' := 1159) rfl rfl rfl rfl ?_
  refine l_call (p' := 1162) (kc := 99) (ls0 := [_]) rfl rfl rfl rfl rfl rfl (mj_rcv_is (rd_ss rfl (rd_app H400))) rfl rfl rfl ?_
  refine s_aldn (p' := 1) rfl rfl rfl ?_
  refine s_gf (p' := 4) rfl (rd_ss rfl (rd_app H400)) rfl rfl ?_
  refine k_iret rfl rfl ?_
  refine l_ild (p' := 1164) rfl rfl rfl rfl ?_
  refine l_icmp (p' := 1169) true rfl rfl (by decide +kernel) rfl ?_
  refine l_ild (p' := 1171) rfl rfl rfl rfl ?_
  refine l_if (p' := 1186) true rfl rfl (by decide +kernel) rfl ?_
  refine l_goto (p' := 2541) rfl rfl rfl ?_
  refine l_incz (p' := 2544) (w := (nI 4)) (ls' := [_, _, _, _, _, _, _, _, _, _]) rfl rfl rfl rfl (by decide +kernel) rfl rfl ?_
  refine l_goto (p' := 28) rfl rfl rfl ?_
  refine l_ild (p' := 30) rfl rfl rfl rfl ?_
  refine l_alds (p' := 31) rfl rfl rfl rfl ?_
  refine l_lens (p' := 32) rfl rfl rfl ?_
  refine l_con (p' := 33) rfl rfl rfl ?_
  refine l_bz (p' := 34) (z := (nI 0)) rfl rfl rfl rfl rfl (by decide +kernel) ?_
  refine l_icmp (p' := 2547) true rfl rfl (by decide +kernel) rfl ?_
  refine l_con (p' := 2548) rfl rfl rfl ?_
  refine l_end rfl rfl ?_
  exact ⟨Nat.le_trans (Nat.le_of_eq (len_s (len_a HL rfl))) (Nat.le_of_ble_eq_true rfl), Nat.le_trans (sz_s rfl (rd_app H400) rfl (sz_aa (k := 6) (m := 20006) rfl rfl HZ)) (Nat.le_of_ble_eq_true rfl)⟩
theorem p1_18 {xs : Nat → Int32} {h : mj_H} (hk : xs 0 &&& nI 63 = nI 18)   (HL : h.length = 414) (HZ : mj_sz h ≤ 20000) (H0 : mj_rd h 0 = some (.inr (0, [.ref 1, .ref 38, .ref 299, .ref 336, .ref 373, .ref 375, .ref 378, .ref 381, .ref 387, .ref 393, .null, .null, .ref 397, .ref 398, .ref 399, .long (lN 0), .long (lN 0)]))) (H381 : mj_rd h 381 = some (.inr (8, [.ref 38, .ref 375, .ref 382, .ref 383, .ref 384, .ref 385, .ref 386, .int (nI 0), .int (nI 0), .int (nI 0), .int (nI 0), .int (nI 0), .int (nI 0)]))) (H400 : mj_rd h 400 = some (.inr (17, [.int (nI 0), .ref 401, .ref 402, .ref 1000300, .long (lN 0), .long (lN 0), .ref 410, .null, .null, .null, .ref 411]))) (H402 : mj_rd h 402 = some (.inr (19, [.ref 403, .ref 404, .ref 405, .ref 406, .ref 407, .ref 408, .ref 409, .int (nI 0), .int (nI 4294967295), .int (nI 0), .ref 400]))) : mj_fin 4 xs h := by
  unfold mj_fin
  refine l_ild (p' := 30) rfl rfl rfl rfl ?_
  refine l_alds (p' := 31) rfl rfl rfl rfl ?_
  refine l_lens (p' := 32) rfl rfl rfl ?_
  refine l_con (p' := 33) rfl rfl rfl ?_
  refine l_bz (p' := 34) (z := (nI 0)) rfl rfl rfl rfl rfl (by decide +kernel) ?_
  refine l_icmp (p' := 37) false rfl rfl (by decide +kernel) rfl ?_
  refine l_alds (p' := 38) rfl rfl rfl rfl ?_
  refine l_ild (p' := 40) rfl rfl rfl rfl ?_
  refine l_ialz (p' := 41) (m := 0) (z := (xs 0)) rfl rfl (by decide +kernel) rfl rfl rfl ?_
  refine l_bip (p' := 43) rfl rfl rfl ?_
  refine l_bz (p' := 44) (z := (nI 18)) rfl rfl rfl rfl rfl hk ?_
  refine l_sp (p' := 1189) (ls' := _) rfl rfl rfl rfl rfl ?_
  refine l_aldn (p' := 1190) rfl rfl rfl rfl ?_
  refine l_aldn (p' := 1191) rfl rfl rfl rfl ?_
  refine l_call (p' := 1194) (kc := 99) (ls0 := [_, _, _]) rfl rfl rfl rfl rfl rfl rfl rfl rfl rfl ?_
  refine s_aldn (p' := 1) rfl rfl rfl ?_
  refine s_con (p' := 2) rfl rfl ?_
  refine s_aldn (p' := 3) rfl rfl rfl ?_
  refine c_call (p' := 6) (kc := 98) (ls0 := [_]) rfl rfl rfl rfl rfl (mj_rcv_is H0) rfl rfl rfl ?_
  refine s_aldn (p' := 1) rfl rfl rfl ?_
  refine s_gf (p' := 4) rfl H0 rfl rfl ?_
  refine s_gf (p' := 7) rfl H381 rfl rfl ?_
  refine s_if (p' := 10) false rfl (by decide +kernel) rfl ?_
  refine s_thrz (q := 414) rfl HL rfl ?_
  refine K_c (hp := 11) rfl (mj_ocl_is (rd_nw rfl HL)) rfl ?_
  refine s_astn (p' := 12) (ls' := [_, _, _]) rfl rfl rfl rfl ?_
  refine s_con (p' := 13) rfl rfl ?_
  refine k_iret rfl rfl ?_
  refine l_ist (p' := 1196) (ls' := [_, _, _, _, _, _, _, _, _, _]) rfl rfl rfl rfl rfl ?_
  refine l_aldn (p' := 1197) rfl rfl rfl rfl ?_
  refine l_call (p' := 1200) (kc := 99) (ls0 := [_]) rfl rfl rfl rfl rfl rfl (mj_rcv_is (rd_app H400)) rfl rfl rfl ?_
  refine s_aldn (p' := 1) rfl rfl rfl ?_
  refine c_call (p' := 4) (kc := 98) (ls0 := [_]) rfl rfl rfl rfl rfl (mj_rcv_is (rd_app H400)) rfl rfl rfl ?_
  refine s_aldn (p' := 1) rfl rfl rfl ?_
  refine s_aldn (p' := 2) rfl rfl rfl ?_
  refine s_gf (p' := 5) rfl (rd_app H400) rfl rfl ?_
  refine s_gf (p' := 8) rfl (rd_app H402) rfl rfl ?_
  refine s_con (p' := 9) rfl rfl ?_
  refine s_icmp (p' := 12) false rfl (by decide +kernel) rfl ?_
  refine s_con (p' := 13) rfl rfl ?_
  refine s_goto (p' := 17) rfl rfl ?_
  refine c_call (p' := 20) (kc := 97) (ls0 := [_, _]) rfl rfl rfl rfl rfl (mj_rcv_is (rd_app H400)) rfl rfl rfl ?_
  refine s_aldn (p' := 1) rfl rfl rfl ?_
  refine s_ildn (p' := 2) rfl rfl rfl ?_
  refine s_pfz (p' := 5) (fs' := [_, _, _, _, _, _, _, _, _, _, _]) rfl rfl (rd_app H400) rfl rfl rfl rfl ?_
  refine s_ildn (p' := 6) rfl rfl rfl ?_
  refine s_if (p' := 9) false rfl (by decide +kernel) rfl ?_
  refine s_con (p' := 10) rfl rfl ?_
  refine s_goto (p' := 14) rfl rfl ?_
  refine c_iret rfl (by decide +kernel) ?_
  refine c_iret rfl (by decide +kernel) ?_
  refine s_if (p' := 7) false rfl (by decide +kernel) rfl ?_
  refine s_con (p' := 8) rfl rfl ?_
  refine s_goto (p' := 26) rfl rfl ?_
  refine k_iret rfl rfl ?_
  refine l_ist (p' := 1202) (ls' := [_, _, _, _, _, _, _, _, _, _]) rfl rfl rfl rfl rfl ?_
  refine l_aldn (p' := 1203) rfl rfl rfl rfl ?_
  refine l_call (p' := 1206) (kc := 99) (ls0 := [_]) rfl rfl rfl rfl rfl rfl (mj_rcv_is (rd_ss rfl (rd_app H400))) rfl rfl rfl ?_
  refine s_aldn (p' := 1) rfl rfl rfl ?_
  refine s_gf (p' := 4) rfl (rd_ss rfl (rd_app H400)) rfl rfl ?_
  refine k_iret rfl rfl ?_
  refine l_ild (p' := 1208) rfl rfl rfl rfl ?_
  refine l_icmp (p' := 1213) true rfl rfl (by decide +kernel) rfl ?_
  refine l_ild (p' := 1215) rfl rfl rfl rfl ?_
  refine l_if (p' := 1230) true rfl rfl (by decide +kernel) rfl ?_
  refine l_goto (p' := 2541) rfl rfl rfl ?_
  refine l_incz (p' := 2544) (w := (nI 4)) (ls' := [_, _, _, _, _, _, _, _, _, _]) rfl rfl rfl rfl (by decide +kernel) rfl rfl ?_
  refine l_goto (p' := 28) rfl rfl rfl ?_
  refine l_ild (p' := 30) rfl rfl rfl rfl ?_
  refine l_alds (p' := 31) rfl rfl rfl rfl ?_
  refine l_lens (p' := 32) rfl rfl rfl ?_
  refine l_con (p' := 33) rfl rfl rfl ?_
  refine l_bz (p' := 34) (z := (nI 0)) rfl rfl rfl rfl rfl (by decide +kernel) ?_
  refine l_icmp (p' := 2547) true rfl rfl (by decide +kernel) rfl ?_
  refine l_con (p' := 2548) rfl rfl rfl ?_
  refine l_end rfl rfl ?_
  exact ⟨Nat.le_trans (Nat.le_of_eq (len_s (len_a HL rfl))) (Nat.le_of_ble_eq_true rfl), Nat.le_trans (sz_s rfl (rd_app H400) rfl (sz_aa (k := 6) (m := 20006) rfl rfl HZ)) (Nat.le_of_ble_eq_true rfl)⟩
theorem p1_19 {xs : Nat → Int32} {h : mj_H} (hk : xs 0 &&& nI 63 = nI 19)   (HL : h.length = 414) (HZ : mj_sz h ≤ 20000) (H0 : mj_rd h 0 = some (.inr (0, [.ref 1, .ref 38, .ref 299, .ref 336, .ref 373, .ref 375, .ref 378, .ref 381, .ref 387, .ref 393, .null, .null, .ref 397, .ref 398, .ref 399, .long (lN 0), .long (lN 0)]))) (H381 : mj_rd h 381 = some (.inr (8, [.ref 38, .ref 375, .ref 382, .ref 383, .ref 384, .ref 385, .ref 386, .int (nI 0), .int (nI 0), .int (nI 0), .int (nI 0), .int (nI 0), .int (nI 0)]))) (H400 : mj_rd h 400 = some (.inr (17, [.int (nI 0), .ref 401, .ref 402, .ref 1000300, .long (lN 0), .long (lN 0), .ref 410, .null, .null, .null, .ref 411]))) (H402 : mj_rd h 402 = some (.inr (19, [.ref 403, .ref 404, .ref 405, .ref 406, .ref 407, .ref 408, .ref 409, .int (nI 0), .int (nI 4294967295), .int (nI 0), .ref 400]))) : mj_fin 4 xs h := by
  unfold mj_fin
  refine l_ild (p' := 30) rfl rfl rfl rfl ?_
  refine l_alds (p' := 31) rfl rfl rfl rfl ?_
  refine l_lens (p' := 32) rfl rfl rfl ?_
  refine l_con (p' := 33) rfl rfl rfl ?_
  refine l_bz (p' := 34) (z := (nI 0)) rfl rfl rfl rfl rfl (by decide +kernel) ?_
  refine l_icmp (p' := 37) false rfl rfl (by decide +kernel) rfl ?_
  refine l_alds (p' := 38) rfl rfl rfl rfl ?_
  refine l_ild (p' := 40) rfl rfl rfl rfl ?_
  refine l_ialz (p' := 41) (m := 0) (z := (xs 0)) rfl rfl (by decide +kernel) rfl rfl rfl ?_
  refine l_bip (p' := 43) rfl rfl rfl ?_
  refine l_bz (p' := 44) (z := (nI 19)) rfl rfl rfl rfl rfl hk ?_
  refine l_sp (p' := 1233) (ls' := _) rfl rfl rfl rfl rfl ?_
  refine l_aldn (p' := 1234) rfl rfl rfl rfl ?_
  refine l_aldn (p' := 1235) rfl rfl rfl rfl ?_
  refine l_call (p' := 1238) (kc := 99) (ls0 := [_, _, _]) rfl rfl rfl rfl rfl rfl rfl rfl rfl rfl ?_
  refine s_aldn (p' := 1) rfl rfl rfl ?_
  refine s_con (p' := 2) rfl rfl ?_
  refine s_aldn (p' := 3) rfl rfl rfl ?_
  refine c_call (p' := 6) (kc := 98) (ls0 := [_]) rfl rfl rfl rfl rfl (mj_rcv_is H0) rfl rfl rfl ?_
  refine s_aldn (p' := 1) rfl rfl rfl ?_
  refine s_gf (p' := 4) rfl H0 rfl rfl ?_
  refine s_gf (p' := 7) rfl H381 rfl rfl ?_
  refine s_if (p' := 10) false rfl (by decide +kernel) rfl ?_
  refine s_thrz (q := 414) rfl HL rfl ?_
  refine K_c (hp := 11) rfl (mj_ocl_is (rd_nw rfl HL)) rfl ?_
  refine s_astn (p' := 12) (ls' := [_, _, _]) rfl rfl rfl rfl ?_
  refine s_con (p' := 13) rfl rfl ?_
  refine k_iret rfl rfl ?_
  refine l_ist (p' := 1240) (ls' := [_, _, _, _, _, _, _, _, _, _]) rfl rfl rfl rfl rfl ?_
  refine l_aldn (p' := 1241) rfl rfl rfl rfl ?_
  refine l_call (p' := 1244) (kc := 99) (ls0 := [_]) rfl rfl rfl rfl rfl rfl (mj_rcv_is (rd_app H400)) rfl rfl rfl ?_
  refine s_aldn (p' := 1) rfl rfl rfl ?_
  refine c_call (p' := 4) (kc := 98) (ls0 := [_]) rfl rfl rfl rfl rfl (mj_rcv_is (rd_app H400)) rfl rfl rfl ?_
  refine s_aldn (p' := 1) rfl rfl rfl ?_
  refine s_aldn (p' := 2) rfl rfl rfl ?_
  refine s_gf (p' := 5) rfl (rd_app H400) rfl rfl ?_
  refine s_gf (p' := 8) rfl (rd_app H402) rfl rfl ?_
  refine s_con (p' := 9) rfl rfl ?_
  refine s_icmp (p' := 12) false rfl (by decide +kernel) rfl ?_
  refine s_con (p' := 13) rfl rfl ?_
  refine s_goto (p' := 17) rfl rfl ?_
  refine c_call (p' := 20) (kc := 97) (ls0 := [_, _]) rfl rfl rfl rfl rfl (mj_rcv_is (rd_app H400)) rfl rfl rfl ?_
  refine s_aldn (p' := 1) rfl rfl rfl ?_
  refine s_ildn (p' := 2) rfl rfl rfl ?_
  refine s_pfz (p' := 5) (fs' := [_, _, _, _, _, _, _, _, _, _, _]) rfl rfl (rd_app H400) rfl rfl rfl rfl ?_
  refine s_ildn (p' := 6) rfl rfl rfl ?_
  refine s_if (p' := 9) false rfl (by decide +kernel) rfl ?_
  refine s_con (p' := 10) rfl rfl ?_
  refine s_goto (p' := 14) rfl rfl ?_
  refine c_iret rfl (by decide +kernel) ?_
  refine c_iret rfl (by decide +kernel) ?_
  refine s_if (p' := 7) false rfl (by decide +kernel) rfl ?_
  refine s_con (p' := 8) rfl rfl ?_
  refine s_goto (p' := 18) rfl rfl ?_
  refine k_iret rfl rfl ?_
  refine l_ist (p' := 1246) (ls' := [_, _, _, _, _, _, _, _, _, _]) rfl rfl rfl rfl rfl ?_
  refine l_aldn (p' := 1247) rfl rfl rfl rfl ?_
  refine l_call (p' := 1250) (kc := 99) (ls0 := [_]) rfl rfl rfl rfl rfl rfl (mj_rcv_is (rd_ss rfl (rd_app H400))) rfl rfl rfl ?_
  refine s_aldn (p' := 1) rfl rfl rfl ?_
  refine s_gf (p' := 4) rfl (rd_ss rfl (rd_app H400)) rfl rfl ?_
  refine k_iret rfl rfl ?_
  refine l_ild (p' := 1252) rfl rfl rfl rfl ?_
  refine l_icmp (p' := 1257) true rfl rfl (by decide +kernel) rfl ?_
  refine l_ild (p' := 1259) rfl rfl rfl rfl ?_
  refine l_if (p' := 1274) true rfl rfl (by decide +kernel) rfl ?_
  refine l_goto (p' := 2541) rfl rfl rfl ?_
  refine l_incz (p' := 2544) (w := (nI 4)) (ls' := [_, _, _, _, _, _, _, _, _, _]) rfl rfl rfl rfl (by decide +kernel) rfl rfl ?_
  refine l_goto (p' := 28) rfl rfl rfl ?_
  refine l_ild (p' := 30) rfl rfl rfl rfl ?_
  refine l_alds (p' := 31) rfl rfl rfl rfl ?_
  refine l_lens (p' := 32) rfl rfl rfl ?_
  refine l_con (p' := 33) rfl rfl rfl ?_
  refine l_bz (p' := 34) (z := (nI 0)) rfl rfl rfl rfl rfl (by decide +kernel) ?_
  refine l_icmp (p' := 2547) true rfl rfl (by decide +kernel) rfl ?_
  refine l_con (p' := 2548) rfl rfl rfl ?_
  refine l_end rfl rfl ?_
  exact ⟨Nat.le_trans (Nat.le_of_eq (len_s (len_a HL rfl))) (Nat.le_of_ble_eq_true rfl), Nat.le_trans (sz_s rfl (rd_app H400) rfl (sz_aa (k := 6) (m := 20006) rfl rfl HZ)) (Nat.le_of_ble_eq_true rfl)⟩
theorem p1_20 {xs : Nat → Int32} {h : mj_H} (hk : xs 0 &&& nI 63 = nI 20)   (HL : h.length = 414) (HZ : mj_sz h ≤ 20000) (H0 : mj_rd h 0 = some (.inr (0, [.ref 1, .ref 38, .ref 299, .ref 336, .ref 373, .ref 375, .ref 378, .ref 381, .ref 387, .ref 393, .null, .null, .ref 397, .ref 398, .ref 399, .long (lN 0), .long (lN 0)]))) (H381 : mj_rd h 381 = some (.inr (8, [.ref 38, .ref 375, .ref 382, .ref 383, .ref 384, .ref 385, .ref 386, .int (nI 0), .int (nI 0), .int (nI 0), .int (nI 0), .int (nI 0), .int (nI 0)]))) (H400 : mj_rd h 400 = some (.inr (17, [.int (nI 0), .ref 401, .ref 402, .ref 1000300, .long (lN 0), .long (lN 0), .ref 410, .null, .null, .null, .ref 411]))) (H402 : mj_rd h 402 = some (.inr (19, [.ref 403, .ref 404, .ref 405, .ref 406, .ref 407, .ref 408, .ref 409, .int (nI 0), .int (nI 4294967295), .int (nI 0), .ref 400]))) : mj_fin 4 xs h := by
  unfold mj_fin
  refine l_ild (p' := 30) rfl rfl rfl rfl ?_
  refine l_alds (p' := 31) rfl rfl rfl rfl ?_
  refine l_lens (p' := 32) rfl rfl rfl ?_
  refine l_con (p' := 33) rfl rfl rfl ?_
  refine l_bz (p' := 34) (z := (nI 0)) rfl rfl rfl rfl rfl (by decide +kernel) ?_
  refine l_icmp (p' := 37) false rfl rfl (by decide +kernel) rfl ?_
  refine l_alds (p' := 38) rfl rfl rfl rfl ?_
  refine l_ild (p' := 40) rfl rfl rfl rfl ?_
  refine l_ialz (p' := 41) (m := 0) (z := (xs 0)) rfl rfl (by decide +kernel) rfl rfl rfl ?_
  refine l_bip (p' := 43) rfl rfl rfl ?_
  refine l_bz (p' := 44) (z := (nI 20)) rfl rfl rfl rfl rfl hk ?_
  refine l_sp (p' := 1277) (ls' := _) rfl rfl rfl rfl rfl ?_
  refine l_aldn (p' := 1278) rfl rfl rfl rfl ?_
  refine l_aldn (p' := 1279) rfl rfl rfl rfl ?_
  refine l_call (p' := 1282) (kc := 99) (ls0 := [_, _, _]) rfl rfl rfl rfl rfl rfl rfl rfl rfl rfl ?_
  refine s_aldn (p' := 1) rfl rfl rfl ?_
  refine s_con (p' := 2) rfl rfl ?_
  refine s_aldn (p' := 3) rfl rfl rfl ?_
  refine c_call (p' := 6) (kc := 98) (ls0 := [_]) rfl rfl rfl rfl rfl (mj_rcv_is H0) rfl rfl rfl ?_
  refine s_aldn (p' := 1) rfl rfl rfl ?_
  refine s_gf (p' := 4) rfl H0 rfl rfl ?_
  refine s_gf (p' := 7) rfl H381 rfl rfl ?_
  refine s_if (p' := 10) false rfl (by decide +kernel) rfl ?_
  refine s_thrz (q := 414) rfl HL rfl ?_
  refine K_c (hp := 18) rfl (mj_ocl_is (rd_nw rfl HL)) rfl ?_
  refine s_astn (p' := 19) (ls' := [_, _, _]) rfl rfl rfl rfl ?_
  refine s_con (p' := 20) rfl rfl ?_
  refine k_iret rfl rfl ?_
  refine l_ist (p' := 1284) (ls' := [_, _, _, _, _, _, _, _, _, _]) rfl rfl rfl rfl rfl ?_
  refine l_aldn (p' := 1285) rfl rfl rfl rfl ?_
  refine l_call (p' := 1288) (kc := 99) (ls0 := [_]) rfl rfl rfl rfl rfl rfl (mj_rcv_is (rd_app H400)) rfl rfl rfl ?_
  refine s_aldn (p' := 1) rfl rfl rfl ?_
  refine c_call (p' := 4) (kc := 98) (ls0 := [_]) rfl rfl rfl rfl rfl (mj_rcv_is (rd_app H400)) rfl rfl rfl ?_
  refine s_aldn (p' := 1) rfl rfl rfl ?_
  refine s_aldn (p' := 2) rfl rfl rfl ?_
  refine s_gf (p' := 5) rfl (rd_app H400) rfl rfl ?_
  refine s_gf (p' := 8) rfl (rd_app H402) rfl rfl ?_
  refine s_con (p' := 9) rfl rfl ?_
  refine s_icmp (p' := 12) false rfl (by decide +kernel) rfl ?_
  refine s_con (p' := 13) rfl rfl ?_
  refine s_goto (p' := 17) rfl rfl ?_
  refine c_call (p' := 20) (kc := 97) (ls0 := [_, _]) rfl rfl rfl rfl rfl (mj_rcv_is (rd_app H400)) rfl rfl rfl ?_
  refine s_aldn (p' := 1) rfl rfl rfl ?_
  refine s_ildn (p' := 2) rfl rfl rfl ?_
  refine s_pfz (p' := 5) (fs' := [_, _, _, _, _, _, _, _, _, _, _]) rfl rfl (rd_app H400) rfl rfl rfl rfl ?_
  refine s_ildn (p' := 6) rfl rfl rfl ?_
  refine s_if (p' := 9) false rfl (by decide +kernel) rfl ?_
  refine s_con (p' := 10) rfl rfl ?_
  refine s_goto (p' := 14) rfl rfl ?_
  refine c_iret rfl (by decide +kernel) ?_
  refine c_iret rfl (by decide +kernel) ?_
  refine s_if (p' := 29) true rfl (by decide +kernel) rfl ?_
  refine s_con (p' := 30) rfl rfl ?_
  refine k_iret rfl (by decide +kernel) ?_
  refine l_ist (p' := 1290) (ls' := [_, _, _, _, _, _, _, _, _, _]) rfl rfl rfl rfl rfl ?_
  refine l_aldn (p' := 1291) rfl rfl rfl rfl ?_
  refine l_call (p' := 1294) (kc := 99) (ls0 := [_]) rfl rfl rfl rfl rfl rfl (mj_rcv_is (rd_ss rfl (rd_app H400))) rfl rfl rfl ?_
  refine s_aldn (p' := 1) rfl rfl rfl ?_
  refine s_gf (p' := 4) rfl (rd_ss rfl (rd_app H400)) rfl rfl ?_
  refine k_iret rfl rfl ?_
  refine l_ild (p' := 1296) rfl rfl rfl rfl ?_
  refine l_icmp (p' := 1301) true rfl rfl (by decide +kernel) rfl ?_
  refine l_ild (p' := 1303) rfl rfl rfl rfl ?_
  refine l_if (p' := 1325) true rfl rfl (by decide +kernel) rfl ?_
  refine l_goto (p' := 2541) rfl rfl rfl ?_
  refine l_incz (p' := 2544) (w := (nI 4)) (ls' := [_, _, _, _, _, _, _, _, _, _]) rfl rfl rfl rfl (by decide +kernel) rfl rfl ?_
  refine l_goto (p' := 28) rfl rfl rfl ?_
  refine l_ild (p' := 30) rfl rfl rfl rfl ?_
  refine l_alds (p' := 31) rfl rfl rfl rfl ?_
  refine l_lens (p' := 32) rfl rfl rfl ?_
  refine l_con (p' := 33) rfl rfl rfl ?_
  refine l_bz (p' := 34) (z := (nI 0)) rfl rfl rfl rfl rfl (by decide +kernel) ?_
  refine l_icmp (p' := 2547) true rfl rfl (by decide +kernel) rfl ?_
  refine l_con (p' := 2548) rfl rfl rfl ?_
  refine l_end rfl rfl ?_
  exact ⟨Nat.le_trans (Nat.le_of_eq (len_s (len_a HL rfl))) (Nat.le_of_ble_eq_true rfl), Nat.le_trans (sz_s rfl (rd_app H400) rfl (sz_aa (k := 6) (m := 20006) rfl rfl HZ)) (Nat.le_of_ble_eq_true rfl)⟩
theorem p1_25 {xs : Nat → Int32} {h : mj_H} (hk : xs 0 &&& nI 63 = nI 25)   (HL : h.length = 414) (HZ : mj_sz h ≤ 20000) (H0 : mj_rd h 0 = some (.inr (0, [.ref 1, .ref 38, .ref 299, .ref 336, .ref 373, .ref 375, .ref 378, .ref 381, .ref 387, .ref 393, .null, .null, .ref 397, .ref 398, .ref 399, .long (lN 0), .long (lN 0)]))) (H400 : mj_rd h 400 = some (.inr (17, [.int (nI 0), .ref 401, .ref 402, .ref 1000300, .long (lN 0), .long (lN 0), .ref 410, .null, .null, .null, .ref 411]))) : mj_fin 4 xs h := by
  unfold mj_fin
  refine l_ild (p' := 30) rfl rfl rfl rfl ?_
  refine l_alds (p' := 31) rfl rfl rfl rfl ?_
  refine l_lens (p' := 32) rfl rfl rfl ?_
  refine l_con (p' := 33) rfl rfl rfl ?_
  refine l_bz (p' := 34) (z := (nI 0)) rfl rfl rfl rfl rfl (by decide +kernel) ?_
  refine l_icmp (p' := 37) false rfl rfl (by decide +kernel) rfl ?_
  refine l_alds (p' := 38) rfl rfl rfl rfl ?_
  refine l_ild (p' := 40) rfl rfl rfl rfl ?_
  refine l_ialz (p' := 41) (m := 0) (z := (xs 0)) rfl rfl (by decide +kernel) rfl rfl rfl ?_
  refine l_bip (p' := 43) rfl rfl rfl ?_
  refine l_bz (p' := 44) (z := (nI 25)) rfl rfl rfl rfl rfl hk ?_
  refine l_sp (p' := 1581) (ls' := _) rfl rfl rfl rfl rfl ?_
  refine l_aldn (p' := 1582) rfl rfl rfl rfl ?_
  refine l_call (p' := 1585) (kc := 99) (ls0 := [_]) rfl rfl rfl rfl rfl rfl (mj_rcv_is H0) rfl rfl rfl ?_
  refine s_aldn (p' := 1) rfl rfl rfl ?_
  refine s_gf (p' := 4) rfl H0 rfl rfl ?_
  refine k_lret rfl ?_
  refine l_aldn (p' := 1586) rfl rfl rfl rfl ?_
  refine l_call (p' := 1589) (kc := 99) (ls0 := [_]) rfl rfl rfl rfl rfl rfl (mj_rcv_is H400) rfl rfl rfl ?_
  refine s_aldn (p' := 1) rfl rfl rfl ?_
  refine s_con (p' := 2) rfl rfl ?_
  refine s_pfz (p' := 5) (fs' := [_, _, _, _, _, _, _, _, _, _, _]) rfl rfl H400 rfl rfl rfl rfl ?_
  refine s_aldn (p' := 6) rfl rfl rfl ?_
  refine s_gf (p' := 9) rfl (rd_ss rfl H400) rfl rfl ?_
  refine k_lret rfl ?_
  refine l_bz (p' := 1590) (z := (nI 0)) rfl rfl rfl rfl rfl (by decide +kernel) ?_
  refine l_if (p' := 2541) true rfl rfl (by decide +kernel) rfl ?_
  refine l_incz (p' := 2544) (w := (nI 4)) (ls' := [_, _, _, _, _, _, _, _, _, _]) rfl rfl rfl rfl (by decide +kernel) rfl rfl ?_
  refine l_goto (p' := 28) rfl rfl rfl ?_
  refine l_ild (p' := 30) rfl rfl rfl rfl ?_
  refine l_alds (p' := 31) rfl rfl rfl rfl ?_
  refine l_lens (p' := 32) rfl rfl rfl ?_
  refine l_con (p' := 33) rfl rfl rfl ?_
  refine l_bz (p' := 34) (z := (nI 0)) rfl rfl rfl rfl rfl (by decide +kernel) ?_
  refine l_icmp (p' := 2547) true rfl rfl (by decide +kernel) rfl ?_
  refine l_con (p' := 2548) rfl rfl rfl ?_
  refine l_end rfl rfl ?_
  exact ⟨Nat.le_trans (Nat.le_of_eq (len_s HL)) (Nat.le_of_ble_eq_true rfl), Nat.le_trans (sz_s rfl H400 rfl HZ) (Nat.le_of_ble_eq_true rfl)⟩
theorem p1_30 {xs : Nat → Int32} {h : mj_H} (hk : xs 0 &&& nI 63 = nI 30)   (HL : h.length = 414) (HZ : mj_sz h ≤ 20000) (H0 : mj_rd h 0 = some (.inr (0, [.ref 1, .ref 38, .ref 299, .ref 336, .ref 373, .ref 375, .ref 378, .ref 381, .ref 387, .ref 393, .null, .null, .ref 397, .ref 398, .ref 399, .long (lN 0), .long (lN 0)]))) (H393 : mj_rd h 393 = some (.inr (9, [.ref 394, .ref 395, .ref 396, .int (nI 0), .int (nI 0)]))) (H400 : mj_rd h 400 = some (.inr (17, [.int (nI 0), .ref 401, .ref 402, .ref 1000300, .long (lN 0), .long (lN 0), .ref 410, .null, .null, .null, .ref 411]))) (H410 : mj_rd h 410 = some (.inr (18, [.ref 1000000, .int (nI 0), .int (nI 0)]))) : mj_fin 4 xs h := by
  unfold mj_fin
  refine l_ild (p' := 30) rfl rfl rfl rfl ?_
  refine l_alds (p' := 31) rfl rfl rfl rfl ?_
  refine l_lens (p' := 32) rfl rfl rfl ?_
  refine l_con (p' := 33) rfl rfl rfl ?_
  refine l_bz (p' := 34) (z := (nI 0)) rfl rfl rfl rfl rfl (by decide +kernel) ?_
  refine l_icmp (p' := 37) false rfl rfl (by decide +kernel) rfl ?_
  refine l_alds (p' := 38) rfl rfl rfl rfl ?_
  refine l_ild (p' := 40) rfl rfl rfl rfl ?_
  refine l_ialz (p' := 41) (m := 0) (z := (xs 0)) rfl rfl (by decide +kernel) rfl rfl rfl ?_
  refine l_bip (p' := 43) rfl rfl rfl ?_
  refine l_bz (p' := 44) (z := (nI 30)) rfl rfl rfl rfl rfl hk ?_
  refine l_sp (p' := 1885) (ls' := _) rfl rfl rfl rfl rfl ?_
  refine l_aldn (p' := 1886) rfl rfl rfl rfl ?_
  refine l_aldn (p' := 1887) rfl rfl rfl rfl ?_
  refine l_call (p' := 1890) (kc := 99) (ls0 := [_, _, _]) rfl rfl rfl rfl rfl rfl rfl rfl rfl rfl ?_
  refine s_aldn (p' := 1) rfl rfl rfl ?_
  refine s_con (p' := 2) rfl rfl ?_
  refine s_aldn (p' := 3) rfl rfl rfl ?_
  refine c_call (p' := 6) (kc := 98) (ls0 := [_]) rfl rfl rfl rfl rfl (mj_rcv_is H0) rfl rfl rfl ?_
  refine s_aldn (p' := 1) rfl rfl rfl ?_
  refine s_gf (p' := 4) rfl H0 rfl rfl ?_
  refine c_call (p' := 7) (kc := 97) (ls0 := [_]) rfl rfl rfl rfl rfl (mj_rcv_is H393) rfl rfl rfl ?_
  refine s_aldn (p' := 1) rfl rfl rfl ?_
  refine s_gf (p' := 4) rfl H393 rfl rfl ?_
  refine c_iret rfl rfl ?_
  refine s_if (p' := 10) false rfl (by decide +kernel) rfl ?_
  refine s_thrz (q := 414) rfl HL rfl ?_
  refine K_c (hp := 11) rfl (mj_ocl_is (rd_nw rfl HL)) rfl ?_
  refine s_astn (p' := 12) (ls' := [_, _, _]) rfl rfl rfl rfl ?_
  refine s_con (p' := 13) rfl rfl ?_
  refine k_iret rfl rfl ?_
  refine l_ist (p' := 1892) (ls' := [_, _, _, _, _, _, _, _, _, _]) rfl rfl rfl rfl rfl ?_
  refine l_aldn (p' := 1893) rfl rfl rfl rfl ?_
  refine l_call (p' := 1896) (kc := 99) (ls0 := [_]) rfl rfl rfl rfl rfl rfl (mj_rcv_is (rd_app H400)) rfl rfl rfl ?_
  refine s_aldn (p' := 1) rfl rfl rfl ?_
  refine s_aldn (p' := 2) rfl rfl rfl ?_
  refine s_gf (p' := 5) rfl (rd_app H400) rfl rfl ?_
  refine c_call (p' := 10) (kc := 98) (ls0 := [_]) rfl rfl rfl rfl rfl (mj_rcv_is (rd_app H410)) rfl rfl rfl ?_
  refine s_aldn (p' := 1) rfl rfl rfl ?_
  refine s_gf (p' := 4) rfl (rd_app H410) rfl rfl ?_
  refine s_if (p' := 7) false rfl (by decide +kernel) rfl ?_
  refine s_con (p' := 8) rfl rfl ?_
  refine s_goto (p' := 12) rfl rfl ?_
  refine c_iret rfl (by decide +kernel) ?_
  refine s_if (p' := 13) false rfl (by decide +kernel) rfl ?_
  refine s_con (p' := 14) rfl rfl ?_
  refine s_goto (p' := 18) rfl rfl ?_
  refine c_call (p' := 21) (kc := 98) (ls0 := [_, _]) rfl rfl rfl rfl rfl (mj_rcv_is (rd_app H400)) rfl rfl rfl ?_
  refine s_aldn (p' := 1) rfl rfl rfl ?_
  refine s_ildn (p' := 2) rfl rfl rfl ?_
  refine s_pfz (p' := 5) (fs' := [_, _, _, _, _, _, _, _, _, _, _]) rfl rfl (rd_app H400) rfl rfl rfl rfl ?_
  refine s_ildn (p' := 6) rfl rfl rfl ?_
  refine s_if (p' := 9) false rfl (by decide +kernel) rfl ?_
  refine s_con (p' := 10) rfl rfl ?_
  refine s_goto (p' := 14) rfl rfl ?_
  refine c_iret rfl (by decide +kernel) ?_
  refine s_if (p' := 24) false rfl (by decide +kernel) rfl ?_
  refine s_con (p' := 25) rfl rfl ?_
  refine s_goto (p' := 54) rfl rfl ?_
  refine k_iret rfl rfl ?_
  refine l_ist (p' := 1898) (ls' := [_, _, _, _, _, _, _, _, _, _]) rfl rfl rfl rfl rfl ?_
  refine l_aldn (p' := 1899) rfl rfl rfl rfl ?_
  refine l_call (p' := 1902) (kc := 99) (ls0 := [_]) rfl rfl rfl rfl rfl rfl (mj_rcv_is (rd_ss rfl (rd_app H400))) rfl rfl rfl ?_
  refine s_aldn (p' := 1) rfl rfl rfl ?_
  refine s_gf (p' := 4) rfl (rd_ss rfl (rd_app H400)) rfl rfl ?_
  refine k_iret rfl rfl ?_
  refine l_ild (p' := 1904) rfl rfl rfl rfl ?_
  refine l_icmp (p' := 1909) true rfl rfl (by decide +kernel) rfl ?_
  refine l_ild (p' := 1911) rfl rfl rfl rfl ?_
  refine l_if (p' := 1926) true rfl rfl (by decide +kernel) rfl ?_
  refine l_goto (p' := 2541) rfl rfl rfl ?_
  refine l_incz (p' := 2544) (w := (nI 4)) (ls' := [_, _, _, _, _, _, _, _, _, _]) rfl rfl rfl rfl (by decide +kernel) rfl rfl ?_
  refine l_goto (p' := 28) rfl rfl rfl ?_
  refine l_ild (p' := 30) rfl rfl rfl rfl ?_
  refine l_alds (p' := 31) rfl rfl rfl rfl ?_
  refine l_lens (p' := 32) rfl rfl rfl ?_
  refine l_con (p' := 33) rfl rfl rfl ?_
  refine l_bz (p' := 34) (z := (nI 0)) rfl rfl rfl rfl rfl (by decide +kernel) ?_
  refine l_icmp (p' := 2547) true rfl rfl (by decide +kernel) rfl ?_
  refine l_con (p' := 2548) rfl rfl rfl ?_
  refine l_end rfl rfl ?_
  exact ⟨Nat.le_trans (Nat.le_of_eq (len_s (len_a HL rfl))) (Nat.le_of_ble_eq_true rfl), Nat.le_trans (sz_s rfl (rd_app H400) rfl (sz_aa (k := 6) (m := 20006) rfl rfl HZ)) (Nat.le_of_ble_eq_true rfl)⟩
theorem p1_31 {xs : Nat → Int32} {h : mj_H} (hk : xs 0 &&& nI 63 = nI 31)   (HL : h.length = 414) (HZ : mj_sz h ≤ 20000) (H0 : mj_rd h 0 = some (.inr (0, [.ref 1, .ref 38, .ref 299, .ref 336, .ref 373, .ref 375, .ref 378, .ref 381, .ref 387, .ref 393, .null, .null, .ref 397, .ref 398, .ref 399, .long (lN 0), .long (lN 0)]))) (H393 : mj_rd h 393 = some (.inr (9, [.ref 394, .ref 395, .ref 396, .int (nI 0), .int (nI 0)]))) (H400 : mj_rd h 400 = some (.inr (17, [.int (nI 0), .ref 401, .ref 402, .ref 1000300, .long (lN 0), .long (lN 0), .ref 410, .null, .null, .null, .ref 411]))) (H410 : mj_rd h 410 = some (.inr (18, [.ref 1000000, .int (nI 0), .int (nI 0)]))) : mj_fin 4 xs h := by
  unfold mj_fin
  refine l_ild (p' := 30) rfl rfl rfl rfl ?_
  refine l_alds (p' := 31) rfl rfl rfl rfl ?_
  refine l_lens (p' := 32) rfl rfl rfl ?_
  refine l_con (p' := 33) rfl rfl rfl ?_
  refine l_bz (p' := 34) (z := (nI 0)) rfl rfl rfl rfl rfl (by decide +kernel) ?_
  refine l_icmp (p' := 37) false rfl rfl (by decide +kernel) rfl ?_
  refine l_alds (p' := 38) rfl rfl rfl rfl ?_
  refine l_ild (p' := 40) rfl rfl rfl rfl ?_
  refine l_ialz (p' := 41) (m := 0) (z := (xs 0)) rfl rfl (by decide +kernel) rfl rfl rfl ?_
  refine l_bip (p' := 43) rfl rfl rfl ?_
  refine l_bz (p' := 44) (z := (nI 31)) rfl rfl rfl rfl rfl hk ?_
  refine l_sp (p' := 1929) (ls' := _) rfl rfl rfl rfl rfl ?_
  refine l_aldn (p' := 1930) rfl rfl rfl rfl ?_
  refine l_call (p' := 1933) (kc := 99) (ls0 := [_]) rfl rfl rfl rfl rfl rfl (mj_rcv_is H0) rfl rfl rfl ?_
  refine s_aldn (p' := 1) rfl rfl rfl ?_
  refine s_gf (p' := 4) rfl H0 rfl rfl ?_
  refine c_call (p' := 7) (kc := 98) (ls0 := [_]) rfl rfl rfl rfl rfl (mj_rcv_is H393) rfl rfl rfl ?_
  refine s_aldn (p' := 1) rfl rfl rfl ?_
  refine s_gf (p' := 4) rfl H393 rfl rfl ?_
  refine c_iret rfl rfl ?_
  refine k_iret rfl rfl ?_
  refine l_aldn (p' := 1934) rfl rfl rfl rfl ?_
  refine l_call (p' := 1937) (kc := 99) (ls0 := [_]) rfl rfl rfl rfl rfl rfl (mj_rcv_is H400) rfl rfl rfl ?_
  refine s_aldn (p' := 1) rfl rfl rfl ?_
  refine s_con (p' := 2) rfl rfl ?_
  refine s_pfz (p' := 5) (fs' := [_, _, _, _, _, _, _, _, _, _, _]) rfl rfl H400 rfl rfl rfl rfl ?_
  refine s_aldn (p' := 6) rfl rfl rfl ?_
  refine s_gf (p' := 9) rfl (rd_ss rfl H400) rfl rfl ?_
  refine c_call (p' := 14) (kc := 98) (ls0 := [_]) rfl rfl rfl rfl rfl (mj_rcv_is (rd_sn rfl H410)) rfl rfl rfl ?_
  refine s_aldn (p' := 1) rfl rfl rfl ?_
  refine s_gf (p' := 4) rfl (rd_sn rfl H410) rfl rfl ?_
  refine c_iret rfl rfl ?_
  refine k_iret rfl rfl ?_
  refine l_icmp (p' := 2541) true rfl rfl (by decide +kernel) rfl ?_
  refine l_incz (p' := 2544) (w := (nI 4)) (ls' := [_, _, _, _, _, _, _, _, _, _]) rfl rfl rfl rfl (by decide +kernel) rfl rfl ?_
  refine l_goto (p' := 28) rfl rfl rfl ?_
  refine l_ild (p' := 30) rfl rfl rfl rfl ?_
  refine l_alds (p' := 31) rfl rfl rfl rfl ?_
  refine l_lens (p' := 32) rfl rfl rfl ?_
  refine l_con (p' := 33) rfl rfl rfl ?_
  refine l_bz (p' := 34) (z := (nI 0)) rfl rfl rfl rfl rfl (by decide +kernel) ?_
  refine l_icmp (p' := 2547) true rfl rfl (by decide +kernel) rfl ?_
  refine l_con (p' := 2548) rfl rfl rfl ?_
  refine l_end rfl rfl ?_
  exact ⟨Nat.le_trans (Nat.le_of_eq (len_s HL)) (Nat.le_of_ble_eq_true rfl), Nat.le_trans (sz_s rfl H400 rfl HZ) (Nat.le_of_ble_eq_true rfl)⟩
theorem p1_34 {xs : Nat → Int32} {h : mj_H} (hk : xs 0 &&& nI 63 = nI 34)   (HL : h.length = 414) (HZ : mj_sz h ≤ 20000) (H0 : mj_rd h 0 = some (.inr (0, [.ref 1, .ref 38, .ref 299, .ref 336, .ref 373, .ref 375, .ref 378, .ref 381, .ref 387, .ref 393, .null, .null, .ref 397, .ref 398, .ref 399, .long (lN 0), .long (lN 0)]))) (H393 : mj_rd h 393 = some (.inr (9, [.ref 394, .ref 395, .ref 396, .int (nI 0), .int (nI 0)]))) (H394 : mj_rd h 394 = some (.inl (0, (24, .inl (fun _ => 0))))) (H400 : mj_rd h 400 = some (.inr (17, [.int (nI 0), .ref 401, .ref 402, .ref 1000300, .long (lN 0), .long (lN 0), .ref 410, .null, .null, .null, .ref 411]))) (H410 : mj_rd h 410 = some (.inr (18, [.ref 1000000, .int (nI 0), .int (nI 0)]))) : mj_fin 4 xs h := by
  unfold mj_fin
  refine l_ild (p' := 30) rfl rfl rfl rfl ?_
  refine l_alds (p' := 31) rfl rfl rfl rfl ?_
  refine l_lens (p' := 32) rfl rfl rfl ?_
  refine l_con (p' := 33) rfl rfl rfl ?_
  refine l_bz (p' := 34) (z := (nI 0)) rfl rfl rfl rfl rfl (by decide +kernel) ?_
  refine l_icmp (p' := 37) false rfl rfl (by decide +kernel) rfl ?_
  refine l_alds (p' := 38) rfl rfl rfl rfl ?_
  refine l_ild (p' := 40) rfl rfl rfl rfl ?_
  refine l_ialz (p' := 41) (m := 0) (z := (xs 0)) rfl rfl (by decide +kernel) rfl rfl rfl ?_
  refine l_bip (p' := 43) rfl rfl rfl ?_
  refine l_bz (p' := 44) (z := (nI 34)) rfl rfl rfl rfl rfl hk ?_
  refine l_sp (p' := 2054) (ls' := _) rfl rfl rfl rfl rfl ?_
  refine l_aldn (p' := 2055) rfl rfl rfl rfl ?_
  refine l_call (p' := 2058) (kc := 99) (ls0 := [_]) rfl rfl rfl rfl rfl rfl (mj_rcv_is H0) rfl rfl rfl ?_
  refine s_aldn (p' := 1) rfl rfl rfl ?_
  refine s_gf (p' := 4) rfl H0 rfl rfl ?_
  refine c_call (p' := 7) (kc := 98) (ls0 := [_, _, _, _]) rfl rfl rfl rfl rfl (mj_rcv_is H393) rfl rfl rfl ?_
  refine s_con (p' := 1) rfl rfl ?_
  refine s_istn (p' := 2) (ls' := [_, _, _, _]) rfl rfl rfl rfl ?_
  refine s_aldn (p' := 3) rfl rfl rfl ?_
  refine s_gf (p' := 6) rfl H393 rfl rfl ?_
  refine s_aldn (p' := 7) rfl rfl rfl ?_
  refine s_gf (p' := 10) rfl H393 rfl rfl ?_
  refine s_lenz (p' := 11) rfl (mj_rdA_is H394 (by decide)) rfl rfl ?_
  refine s_primV (p' := 14) (q := 5) rfl rfl rfl rfl rfl rfl (p_min (x := (nI 0)) (y := (nI 24)) (z := (nI 0)) (by decide +kernel)) rfl ?_
  refine s_con (p' := 15) rfl rfl ?_
  refine s_bz (p' := 16) (z := (nI 4294967295)) rfl rfl rfl (by decide +kernel) ?_
  refine s_istn (p' := 17) (ls' := [_, _, _, _]) rfl rfl rfl rfl ?_
  refine s_ildn (p' := 18) rfl rfl rfl ?_
  refine s_ildn (p' := 19) rfl rfl rfl ?_
  refine s_icmp (p' := 57) true rfl (by decide +kernel) rfl ?_
  refine c_ret rfl ?_
  refine s_aldn (p' := 8) rfl rfl rfl ?_
  refine s_gf (p' := 11) rfl H0 rfl rfl ?_
  refine c_call (p' := 14) (kc := 98) (ls0 := [_]) rfl rfl rfl rfl rfl (mj_rcv_is H393) rfl rfl rfl ?_
  refine s_aldn (p' := 1) rfl rfl rfl ?_
  refine s_gf (p' := 4) rfl H393 rfl rfl ?_
  refine c_iret rfl rfl ?_
  refine k_iret rfl rfl ?_
  refine l_aldn (p' := 2059) rfl rfl rfl rfl ?_
  refine l_call (p' := 2062) (kc := 99) (ls0 := [_, _, _, _]) rfl rfl rfl rfl rfl rfl (mj_rcv_is H400) rfl rfl rfl ?_
  refine s_aldn (p' := 1) rfl rfl rfl ?_
  refine s_con (p' := 2) rfl rfl ?_
  refine s_pfz (p' := 5) (fs' := [_, _, _, _, _, _, _, _, _, _, _]) rfl rfl H400 rfl rfl rfl rfl ?_
  refine s_newz (p' := 8) (a := 414) rfl (len_s HL) rfl rfl ?_
  refine s_dupr (p' := 9) rfl rfl ?_
  refine c_call (p' := 12) (kc := 98) (ls0 := [_]) rfl rfl rfl rfl rfl (mj_rcv_is (rd_nw rfl (len_s HL))) rfl rfl rfl ?_
  refine s_aldn (p' := 1) rfl rfl rfl ?_
  refine c_call (p' := 4) (kc := 97) (ls0 := [_]) rfl rfl rfl rfl rfl (mj_rcv_is (rd_nw rfl (len_s HL))) rfl rfl rfl ?_
  refine s_aldn (p' := 1) rfl rfl rfl ?_
  refine c_call (p' := 4) (kc := 96) (ls0 := [_]) rfl rfl rfl rfl rfl (mj_rcv_is (rd_nw rfl (len_s HL))) rfl rfl rfl ?_
  refine s_aldn (p' := 1) rfl rfl rfl ?_
  refine s_primN (p' := 4) (q := 3) rfl rfl rfl rfl rfl rfl rfl rfl ?_
  refine c_ret rfl ?_
  refine s_aldn (p' := 5) rfl rfl rfl ?_
  refine s_con (p' := 6) rfl rfl ?_
  refine s_pfz (p' := 9) (fs' := [_, _, _]) rfl rfl (rd_nw rfl (len_s HL)) rfl rfl rfl rfl ?_
  refine c_ret rfl ?_
  refine s_aldn (p' := 5) rfl rfl rfl ?_
  refine s_sh (p' := 8) (ls' := _) (st' := .ref 1000000 :: _) (h' := _) rfl rfl rfl rfl ?_
  refine s_pfz (p' := 11) (fs' := [_, _, _]) rfl rfl (rd_ss rfl (rd_nw rfl (len_s HL))) rfl rfl rfl rfl ?_
  refine c_ret rfl ?_
  refine s_astn (p' := 13) (ls' := [_, _, _, _]) rfl rfl rfl rfl ?_
  refine s_aldn (p' := 14) rfl rfl rfl ?_
  refine s_gf (p' := 17) rfl (rd_sn rfl (rd_sn rfl (rd_app (rd_ss rfl H400)))) rfl rfl ?_
  refine c_call (p' := 22) (kc := 98) (ls0 := [_]) rfl rfl rfl rfl rfl (mj_rcv_is (rd_sn rfl (rd_sn rfl (rd_app (rd_sn rfl H410))))) rfl rfl rfl ?_
  refine s_newz (p' := 3) (a := 415) rfl (len_s (len_s (len_a (len_s HL) rfl))) rfl rfl ?_
  refine s_dupr (p' := 4) rfl rfl ?_
  refine s_aldn (p' := 5) rfl rfl rfl ?_
  refine c_call (p' := 8) (kc := 97) (ls0 := [_, _]) rfl rfl rfl rfl rfl (mj_rcv_is (rd_nw rfl (len_s (len_s (len_a (len_s HL) rfl))))) rfl rfl rfl ?_
  refine s_aldn (p' := 1) rfl rfl rfl ?_
  refine s_aldn (p' := 2) rfl rfl rfl ?_
  refine s_pfz (p' := 5) (fs' := [_, _, _, _]) rfl rfl (rd_nw rfl (len_s (len_s (len_a (len_s HL) rfl)))) rfl rfl rfl rfl ?_
  refine s_aldn (p' := 6) rfl rfl rfl ?_
  refine s_primN (p' := 9) (q := 3) rfl rfl rfl rfl rfl rfl rfl rfl ?_
  refine s_aldn (p' := 10) rfl rfl rfl ?_
  refine s_con (p' := 11) rfl rfl ?_
  refine s_pfz (p' := 14) (fs' := [_, _, _, _]) rfl rfl (rd_ss rfl (rd_nw rfl (len_s (len_s (len_a (len_s HL) rfl))))) rfl rfl rfl rfl ?_
  refine s_aldn (p' := 15) rfl rfl rfl ?_
  refine s_aldn (p' := 16) rfl rfl rfl ?_
  refine s_gf (p' := 19) rfl (rd_ss rfl (rd_ss rfl (rd_nw rfl (len_s (len_s (len_a (len_s HL) rfl)))))) rfl rfl ?_
  refine s_gf (p' := 22) rfl (rd_sn rfl (rd_sn rfl (rd_app (rd_sn rfl (rd_sn rfl (rd_app (rd_sn rfl H410))))))) rfl rfl ?_
  refine s_pfz (p' := 25) (fs' := [_, _, _, _]) rfl rfl (rd_ss rfl (rd_ss rfl (rd_nw rfl (len_s (len_s (len_a (len_s HL) rfl)))))) rfl rfl rfl rfl ?_
  refine c_ret rfl ?_
  refine c_aret rfl ?_
  refine s_astn (p' := 23) (ls' := [_, _, _, _]) rfl rfl rfl rfl ?_
  refine s_aldn (p' := 24) rfl rfl rfl ?_
  refine c_call (p' := 29) (kc := 98) (ls0 := [_]) rfl rfl rfl rfl rfl (mj_rcv_is (rd_ss rfl (rd_ss rfl (rd_ss rfl (rd_nw rfl (len_s (len_s (len_a (len_s HL) rfl)))))))) rfl rfl rfl ?_
  refine s_aldn (p' := 1) rfl rfl rfl ?_
  refine s_gf (p' := 4) rfl (rd_ss rfl (rd_ss rfl (rd_ss rfl (rd_nw rfl (len_s (len_s (len_a (len_s HL) rfl))))))) rfl rfl ?_
  refine s_aldn (p' := 5) rfl rfl rfl ?_
  refine s_gf (p' := 8) rfl (rd_ss rfl (rd_ss rfl (rd_ss rfl (rd_nw rfl (len_s (len_s (len_a (len_s HL) rfl))))))) rfl rfl ?_
  refine s_gf (p' := 11) rfl (rd_sn rfl (rd_sn rfl (rd_sn rfl (rd_app (rd_sn rfl (rd_sn rfl (rd_app (rd_sn rfl H410)))))))) rfl rfl ?_
  refine s_icmp (p' := 18) true rfl (by decide +kernel) rfl ?_
  refine s_con (p' := 19) rfl rfl ?_
  refine c_iret rfl (by decide +kernel) ?_
  refine s_if (p' := 59) true rfl (by decide +kernel) rfl ?_
  refine s_aldn (p' := 60) rfl rfl rfl ?_
  refine s_gf (p' := 63) rfl (rd_sn rfl (rd_sn rfl (rd_sn rfl (rd_app (rd_sn rfl (rd_sn rfl (rd_app (rd_ss rfl H400)))))))) rfl rfl ?_
  refine c_call (p' := 68) (kc := 98) (ls0 := [_, _, _, _]) rfl rfl rfl rfl rfl (mj_rcv_is (rd_sn rfl (rd_sn rfl (rd_sn rfl (rd_app (rd_sn rfl (rd_sn rfl (rd_app (rd_sn rfl H410))))))))) rfl rfl rfl ?_
  refine s_aldn (p' := 1) rfl rfl rfl ?_
  refine s_dupr (p' := 2) rfl rfl ?_
  refine s_gf (p' := 5) rfl (rd_sn rfl (rd_sn rfl (rd_sn rfl (rd_app (rd_sn rfl (rd_sn rfl (rd_app (rd_sn rfl H410)))))))) rfl rfl ?_
  refine s_con (p' := 6) rfl rfl ?_
  refine s_bz (p' := 7) (z := (nI 1)) rfl rfl rfl (by decide +kernel) ?_
  refine s_pfz (p' := 10) (fs' := [_, _, _]) rfl rfl (rd_sn rfl (rd_sn rfl (rd_sn rfl (rd_app (rd_sn rfl (rd_sn rfl (rd_app (rd_sn rfl H410)))))))) rfl rfl rfl rfl ?_
  refine s_aldn (p' := 11) rfl rfl rfl ?_
  refine s_gf (p' := 14) rfl (rd_ss rfl (rd_sn rfl (rd_sn rfl (rd_sn rfl (rd_app (rd_sn rfl (rd_sn rfl (rd_app (rd_sn rfl H410))))))))) rfl rfl ?_
  refine s_astn (p' := 15) (ls' := [_, _, _, _]) rfl rfl rfl rfl ?_
  refine s_aldn (p' := 16) rfl rfl rfl ?_
  refine s_gf (p' := 19) rfl (rd_ss rfl (rd_sn rfl (rd_sn rfl (rd_sn rfl (rd_app (rd_sn rfl (rd_sn rfl (rd_app (rd_sn rfl H410))))))))) rfl rfl ?_
  refine s_istn (p' := 20) (ls' := [_, _, _, _]) rfl rfl rfl rfl ?_
  refine s_aldn (p' := 21) rfl rfl rfl ?_
  refine s_con (p' := 22) rfl rfl ?_
  refine s_sp (p' := 23) (ls' := _) rfl rfl rfl ?_
  refine s_pfz (p' := 26) (fs' := [_, _, _]) rfl rfl (rd_ss rfl (rd_sn rfl (rd_sn rfl (rd_sn rfl (rd_app (rd_sn rfl (rd_sn rfl (rd_app (rd_sn rfl H410))))))))) rfl rfl rfl rfl ?_
  refine s_istn (p' := 27) (ls' := [_, _, _, _]) rfl rfl rfl rfl ?_
  refine s_ildn (p' := 28) rfl rfl rfl ?_
  refine s_ildn (p' := 29) rfl rfl rfl ?_
  refine s_icmp (p' := 42) true rfl (by decide +kernel) rfl ?_
  refine c_ret rfl ?_
  refine s_aldn (p' := 69) rfl rfl rfl ?_
  refine s_gf (p' := 72) rfl (rd_sn rfl (rd_sn rfl (rd_sn rfl (rd_sn rfl (rd_sn rfl (rd_app (rd_sn rfl (rd_sn rfl (rd_app (rd_ss rfl H400)))))))))) rfl rfl ?_
  refine s_aldn (p' := 73) rfl rfl rfl ?_
  refine c_call (p' := 78) (kc := 98) (ls0 := [_, _, _, _, _, _]) rfl rfl rfl rfl rfl (mj_rcv_is (rd_ss rfl (rd_ss rfl (rd_sn rfl (rd_sn rfl (rd_sn rfl (rd_app (rd_sn rfl (rd_sn rfl (rd_app (rd_sn rfl H410))))))))))) rfl rfl rfl ?_
  refine s_aldn (p' := 1) rfl rfl rfl ?_
  refine c_call (p' := 6) (kc := 97) (ls0 := [_]) rfl rfl rfl rfl rfl (mj_rcv_is (rd_sn rfl (rd_sn rfl (rd_sn rfl (rd_sn rfl (rd_sn rfl (rd_app (rd_ss rfl (rd_ss rfl (rd_nw rfl (len_s HL))))))))))) rfl rfl rfl ?_
  refine s_aldn (p' := 1) rfl rfl rfl ?_
  refine s_gf (p' := 4) rfl (rd_sn rfl (rd_sn rfl (rd_sn rfl (rd_sn rfl (rd_sn rfl (rd_app (rd_ss rfl (rd_ss rfl (rd_nw rfl (len_s HL)))))))))) rfl rfl ?_
  refine s_aldn (p' := 5) rfl rfl rfl ?_
  refine s_gf (p' := 8) rfl (rd_sn rfl (rd_sn rfl (rd_sn rfl (rd_sn rfl (rd_sn rfl (rd_app (rd_ss rfl (rd_ss rfl (rd_nw rfl (len_s HL)))))))))) rfl rfl ?_
  refine c_call (p' := 11) (kc := 96) (ls0 := [_, _]) rfl rfl rfl rfl rfl rfl rfl rfl rfl ?_
  refine s_aldn (p' := 1) rfl rfl rfl ?_
  refine s_ildn (p' := 2) rfl rfl rfl ?_
  refine s_aldn (p' := 3) rfl rfl rfl ?_
  refine s_primV (p' := 6) (q := 1) rfl rfl rfl rfl rfl rfl (p_cls (mj_rdA_cst (k_0 _) (by decide))) rfl ?_
  refine c_call (p' := 9) (kc := 95) (ls0 := [_, _, _, _]) rfl rfl rfl rfl rfl rfl rfl rfl rfl ?_
  refine s_aldn (p' := 1) rfl rfl rfl ?_
  refine s_sh (p' := 3) (ls' := _) (st' := .ref 1000004 :: _) (h' := _) rfl rfl rfl rfl ?_
  refine s_sp (p' := 6) (ls' := _) rfl rfl rfl ?_
  refine s_ildn (p' := 7) rfl rfl rfl ?_
  refine s_anaz (p' := 10) (a := 416) (n := 0) rfl (len_s (len_s (len_s (len_s (len_s (len_a (len_s (len_s (len_a (len_s HL) rfl))) rfl)))))) rfl rfl ?_
  refine s_goto (p' := 24) rfl rfl ?_
  refine s_astn (p' := 25) (ls' := [_, _, _, _]) rfl rfl rfl rfl ?_
  refine s_aldn (p' := 26) rfl rfl rfl ?_
  refine s_con (p' := 27) rfl rfl ?_
  refine s_aldn (p' := 28) rfl rfl rfl ?_
  refine s_con (p' := 29) rfl rfl ?_
  refine s_aldn (p' := 30) rfl rfl rfl ?_
  refine s_lenz (p' := 31) rfl (mj_rdA_cst (k_0 _) (by decide)) rfl rfl ?_
  refine s_ildn (p' := 32) rfl rfl rfl ?_
  refine s_primV (p' := 35) (q := 5) rfl rfl rfl rfl rfl rfl (p_min (x := (nI 0)) (y := (nI 0)) (z := (nI 0)) (by decide +kernel)) rfl ?_
  refine s_primN (p' := 38) (q := 0) rfl rfl rfl rfl rfl rfl (p_cpyA rfl (mj_rdA_cst (k_0 _) (by decide)) (mj_rdA_is (rd_nw rfl (len_s (len_s (len_s (len_s (len_s (len_a (len_s (len_s (len_a (len_s HL) rfl))) rfl))))))) (by decide)) rfl (cpq_nil _ _ _)) rfl ?_
  refine s_aldn (p' := 39) rfl rfl rfl ?_
  refine c_aret rfl ?_
  refine c_aret rfl ?_
  refine c_aret rfl ?_
  refine s_astn (p' := 7) (ls' := [_, _, _, _, _, _]) rfl rfl rfl rfl ?_
  refine s_aldn (p' := 8) rfl rfl rfl ?_
  refine s_dupr (p' := 9) rfl rfl ?_
  refine s_gf (p' := 12) rfl (rd_sn rfl (rd_app (rd_ss rfl (rd_ss rfl (rd_sn rfl (rd_sn rfl (rd_sn rfl (rd_app (rd_sn rfl (rd_sn rfl (rd_app (rd_sn rfl H410)))))))))))) rfl rfl ?_
  refine s_con (p' := 13) rfl rfl ?_
  refine s_bz (p' := 14) (z := (nI 2)) rfl rfl rfl (by decide +kernel) ?_
  refine s_pfz (p' := 17) (fs' := [_, _, _]) rfl rfl (rd_sn rfl (rd_app (rd_ss rfl (rd_ss rfl (rd_sn rfl (rd_sn rfl (rd_sn rfl (rd_app (rd_sn rfl (rd_sn rfl (rd_app (rd_sn rfl H410)))))))))))) rfl rfl rfl rfl ?_
  refine s_aldn (p' := 18) rfl rfl rfl ?_
  refine s_lenz (p' := 19) rfl (mj_rdA_is (rd_sn rfl (rd_ss rfl (rd_nw rfl (len_s (len_s (len_s (len_s (len_s (len_a (len_s (len_s (len_a (len_s HL) rfl))) rfl))))))))) (by decide)) rfl rfl ?_
  refine s_istn (p' := 20) (ls' := [_, _, _, _, _, _]) rfl rfl rfl rfl ?_
  refine s_ildn (p' := 21) rfl rfl rfl ?_
  refine s_if (p' := 24) false rfl (by decide +kernel) rfl ?_
  refine s_con (p' := 25) rfl rfl ?_
  refine c_iret rfl (by decide +kernel) ?_
  refine s_sp (p' := 79) (ls' := _) rfl rfl rfl ?_
  refine s_aldn (p' := 80) rfl rfl rfl ?_
  refine s_gf (p' := 83) rfl (rd_sn rfl (rd_sn rfl (rd_app (rd_sn rfl (rd_sn rfl (rd_sn rfl (rd_sn rfl (rd_sn rfl (rd_app (rd_sn rfl (rd_sn rfl (rd_app (rd_ss rfl H400))))))))))))) rfl rfl ?_
  refine c_call (p' := 88) (kc := 98) (ls0 := [_]) rfl rfl rfl rfl rfl (mj_rcv_is (rd_ss rfl (rd_sn rfl (rd_app (rd_ss rfl (rd_ss rfl (rd_sn rfl (rd_sn rfl (rd_sn rfl (rd_app (rd_sn rfl (rd_sn rfl (rd_app (rd_sn rfl H410)))))))))))))) rfl rfl rfl ?_
  refine s_aldn (p' := 1) rfl rfl rfl ?_
  refine s_gf (p' := 4) rfl (rd_ss rfl (rd_sn rfl (rd_app (rd_ss rfl (rd_ss rfl (rd_sn rfl (rd_sn rfl (rd_sn rfl (rd_app (rd_sn rfl (rd_sn rfl (rd_app (rd_sn rfl H410))))))))))))) rfl rfl ?_
  refine c_iret rfl rfl ?_
  refine k_iret rfl rfl ?_
  refine l_icmp (p' := 2541) true rfl rfl (by decide +kernel) rfl ?_
  refine l_incz (p' := 2544) (w := (nI 4)) (ls' := [_, _, _, _, _, _, _, _, _, _]) rfl rfl rfl rfl (by decide +kernel) rfl rfl ?_
  refine l_goto (p' := 28) rfl rfl rfl ?_
  refine l_ild (p' := 30) rfl rfl rfl rfl ?_
  refine l_alds (p' := 31) rfl rfl rfl rfl ?_
  refine l_lens (p' := 32) rfl rfl rfl ?_
  refine l_con (p' := 33) rfl rfl rfl ?_
  refine l_bz (p' := 34) (z := (nI 0)) rfl rfl rfl rfl rfl (by decide +kernel) ?_
  refine l_icmp (p' := 2547) true rfl rfl (by decide +kernel) rfl ?_
  refine l_con (p' := 2548) rfl rfl rfl ?_
  refine l_end rfl rfl ?_
  exact ⟨Nat.le_trans (Nat.le_of_eq (len_s (len_s (len_a (len_s (len_s (len_s (len_s (len_s (len_a (len_s (len_s (len_a (len_s HL) rfl))) rfl)))))) rfl)))) (Nat.le_of_ble_eq_true rfl), Nat.le_trans (sz_s rfl (rd_sn rfl (rd_app (rd_ss rfl (rd_ss rfl (rd_sn rfl (rd_sn rfl (rd_sn rfl (rd_app (rd_sn rfl (rd_sn rfl (rd_app (rd_sn rfl H410)))))))))))) rfl (sz_sA rfl (rd_nw rfl (len_s (len_s (len_s (len_s (len_s (len_a (len_s (len_s (len_a (len_s HL) rfl))) rfl))))))) (sz_aa (k := 0) (m := 20007) rfl rfl (sz_s rfl (rd_ss rfl (rd_sn rfl (rd_sn rfl (rd_sn rfl (rd_app (rd_sn rfl (rd_sn rfl (rd_app (rd_sn rfl H410))))))))) rfl (sz_s rfl (rd_sn rfl (rd_sn rfl (rd_sn rfl (rd_app (rd_sn rfl (rd_sn rfl (rd_app (rd_sn rfl H410)))))))) rfl (sz_s rfl (rd_ss rfl (rd_ss rfl (rd_nw rfl (len_s (len_s (len_a (len_s HL) rfl)))))) rfl (sz_s rfl (rd_ss rfl (rd_nw rfl (len_s (len_s (len_a (len_s HL) rfl))))) rfl (sz_s rfl (rd_nw rfl (len_s (len_s (len_a (len_s HL) rfl)))) rfl (sz_aa (k := 4) (m := 20007) rfl rfl (sz_s rfl (rd_ss rfl (rd_nw rfl (len_s HL))) rfl (sz_s rfl (rd_nw rfl (len_s HL)) rfl (sz_aa (k := 3) (m := 20003) rfl rfl (sz_s rfl H400 rfl HZ))))))))))))) (Nat.le_of_ble_eq_true rfl)⟩
theorem p1_35 {xs : Nat → Int32} {h : mj_H} (hk : xs 0 &&& nI 63 = nI 35)   (HL : h.length = 414) (HZ : mj_sz h ≤ 20000) (H0 : mj_rd h 0 = some (.inr (0, [.ref 1, .ref 38, .ref 299, .ref 336, .ref 373, .ref 375, .ref 378, .ref 381, .ref 387, .ref 393, .null, .null, .ref 397, .ref 398, .ref 399, .long (lN 0), .long (lN 0)]))) (H393 : mj_rd h 393 = some (.inr (9, [.ref 394, .ref 395, .ref 396, .int (nI 0), .int (nI 0)]))) (H400 : mj_rd h 400 = some (.inr (17, [.int (nI 0), .ref 401, .ref 402, .ref 1000300, .long (lN 0), .long (lN 0), .ref 410, .null, .null, .null, .ref 411]))) (H410 : mj_rd h 410 = some (.inr (18, [.ref 1000000, .int (nI 0), .int (nI 0)]))) : mj_fin 4 xs h := by
  unfold mj_fin
  refine l_ild (p' := 30) rfl rfl rfl rfl ?_
  refine l_alds (p' := 31) rfl rfl rfl rfl ?_
  refine l_lens (p' := 32) rfl rfl rfl ?_
  refine l_con (p' := 33) rfl rfl rfl ?_
  refine l_bz (p' := 34) (z := (nI 0)) rfl rfl rfl rfl rfl (by decide +kernel) ?_
  refine l_icmp (p' := 37) false rfl rfl (by decide +kernel) rfl ?_
  refine l_alds (p' := 38) rfl rfl rfl rfl ?_
  refine l_ild (p' := 40) rfl rfl rfl rfl ?_
  refine l_ialz (p' := 41) (m := 0) (z := (xs 0)) rfl rfl (by decide +kernel) rfl rfl rfl ?_
  refine l_bip (p' := 43) rfl rfl rfl ?_
  refine l_bz (p' := 44) (z := (nI 35)) rfl rfl rfl rfl rfl hk ?_
  refine l_sp (p' := 2067) (ls' := _) rfl rfl rfl rfl rfl ?_
  refine l_aldn (p' := 2068) rfl rfl rfl rfl ?_
  refine l_call (p' := 2071) (kc := 99) (ls0 := [_]) rfl rfl rfl rfl rfl rfl (mj_rcv_is H0) rfl rfl rfl ?_
  refine s_aldn (p' := 1) rfl rfl rfl ?_
  refine s_gf (p' := 4) rfl H0 rfl rfl ?_
  refine c_call (p' := 7) (kc := 98) (ls0 := [_, _, _]) rfl rfl rfl rfl rfl (mj_rcv_is H393) rfl rfl rfl ?_
  refine s_con (p' := 1) rfl rfl ?_
  refine s_istn (p' := 2) (ls' := [_, _, _]) rfl rfl rfl rfl ?_
  refine s_con (p' := 3) rfl rfl ?_
  refine s_istn (p' := 4) (ls' := [_, _, _]) rfl rfl rfl rfl ?_
  refine s_ildn (p' := 5) rfl rfl rfl ?_
  refine s_bip (p' := 7) rfl rfl ?_
  refine s_icmp (p' := 10) false rfl (by decide +kernel) rfl ?_
  refine s_aldn (p' := 11) rfl rfl rfl ?_
  refine c_call (p' := 14) (kc := 97) (ls0 := [_, _, _]) rfl rfl rfl rfl rfl (mj_rcv_is H393) rfl rfl rfl ?_
  refine s_con (p' := 1) rfl rfl ?_
  refine s_istn (p' := 2) (ls' := [_, _, _]) rfl rfl rfl rfl ?_
  refine s_ildn (p' := 3) rfl rfl rfl ?_
  refine s_aldn (p' := 4) rfl rfl rfl ?_
  refine s_gf (p' := 7) rfl H393 rfl rfl ?_
  refine s_icmp (p' := 39) true rfl (by decide +kernel) rfl ?_
  refine s_con (p' := 40) rfl rfl ?_
  refine c_iret rfl (by decide +kernel) ?_
  refine s_if (p' := 26) true rfl (by decide +kernel) rfl ?_
  refine s_ildn (p' := 27) rfl rfl rfl ?_
  refine c_iret rfl rfl ?_
  refine k_iret rfl rfl ?_
  refine l_aldn (p' := 2072) rfl rfl rfl rfl ?_
  refine l_call (p' := 2075) (kc := 99) (ls0 := [_, _, _, _]) rfl rfl rfl rfl rfl rfl (mj_rcv_is H400) rfl rfl rfl ?_
  refine s_aldn (p' := 1) rfl rfl rfl ?_
  refine s_con (p' := 2) rfl rfl ?_
  refine s_pfz (p' := 5) (fs' := [_, _, _, _, _, _, _, _, _, _, _]) rfl rfl H400 rfl rfl rfl rfl ?_
  refine s_aldn (p' := 6) rfl rfl rfl ?_
  refine s_gf (p' := 9) rfl (rd_ss rfl H400) rfl rfl ?_
  refine c_call (p' := 14) (kc := 98) (ls0 := [_]) rfl rfl rfl rfl rfl (mj_rcv_is (rd_sn rfl H410)) rfl rfl rfl ?_
  refine s_aldn (p' := 1) rfl rfl rfl ?_
  refine s_gf (p' := 4) rfl (rd_sn rfl H410) rfl rfl ?_
  refine c_iret rfl rfl ?_
  refine s_istn (p' := 15) (ls' := [_, _, _, _]) rfl rfl rfl rfl ?_
  refine s_con (p' := 16) rfl rfl ?_
  refine s_istn (p' := 17) (ls' := [_, _, _, _]) rfl rfl rfl rfl ?_
  refine s_ildn (p' := 18) rfl rfl rfl ?_
  refine s_aldn (p' := 19) rfl rfl rfl ?_
  refine s_gf (p' := 22) rfl (rd_ss rfl H400) rfl rfl ?_
  refine c_call (p' := 27) (kc := 98) (ls0 := [_]) rfl rfl rfl rfl rfl (mj_rcv_is (rd_sn rfl H410)) rfl rfl rfl ?_
  refine s_aldn (p' := 1) rfl rfl rfl ?_
  refine s_gf (p' := 4) rfl (rd_sn rfl H410) rfl rfl ?_
  refine c_iret rfl rfl ?_
  refine s_icmp (p' := 74) true rfl (by decide +kernel) rfl ?_
  refine s_ildn (p' := 75) rfl rfl rfl ?_
  refine s_aldn (p' := 76) rfl rfl rfl ?_
  refine s_gf (p' := 79) rfl (rd_ss rfl H400) rfl rfl ?_
  refine c_call (p' := 84) (kc := 98) (ls0 := [_]) rfl rfl rfl rfl rfl (mj_rcv_is (rd_sn rfl H410)) rfl rfl rfl ?_
  refine s_aldn (p' := 1) rfl rfl rfl ?_
  refine s_gf (p' := 4) rfl (rd_sn rfl H410) rfl rfl ?_
  refine c_iret rfl rfl ?_
  refine s_bz (p' := 85) (z := (nI 0)) rfl rfl rfl (by decide +kernel) ?_
  refine k_iret rfl rfl ?_
  refine l_icmp (p' := 2541) true rfl rfl (by decide +kernel) rfl ?_
  refine l_incz (p' := 2544) (w := (nI 4)) (ls' := [_, _, _, _, _, _, _, _, _, _]) rfl rfl rfl rfl (by decide +kernel) rfl rfl ?_
  refine l_goto (p' := 28) rfl rfl rfl ?_
  refine l_ild (p' := 30) rfl rfl rfl rfl ?_
  refine l_alds (p' := 31) rfl rfl rfl rfl ?_
  refine l_lens (p' := 32) rfl rfl rfl ?_
  refine l_con (p' := 33) rfl rfl rfl ?_
  refine l_bz (p' := 34) (z := (nI 0)) rfl rfl rfl rfl rfl (by decide +kernel) ?_
  refine l_icmp (p' := 2547) true rfl rfl (by decide +kernel) rfl ?_
  refine l_con (p' := 2548) rfl rfl rfl ?_
  refine l_end rfl rfl ?_
  exact ⟨Nat.le_trans (Nat.le_of_eq (len_s HL)) (Nat.le_of_ble_eq_true rfl), Nat.le_trans (sz_s rfl H400 rfl HZ) (Nat.le_of_ble_eq_true rfl)⟩
theorem p1_36 {xs : Nat → Int32} {h : mj_H} (hk : xs 0 &&& nI 63 = nI 36)   (HL : h.length = 414) (HZ : mj_sz h ≤ 20000) (H0 : mj_rd h 0 = some (.inr (0, [.ref 1, .ref 38, .ref 299, .ref 336, .ref 373, .ref 375, .ref 378, .ref 381, .ref 387, .ref 393, .null, .null, .ref 397, .ref 398, .ref 399, .long (lN 0), .long (lN 0)]))) (H393 : mj_rd h 393 = some (.inr (9, [.ref 394, .ref 395, .ref 396, .int (nI 0), .int (nI 0)]))) (H395 : mj_rd h 395 = some (.inl (0, (8, .inl (fun _ => 0))))) (H400 : mj_rd h 400 = some (.inr (17, [.int (nI 0), .ref 401, .ref 402, .ref 1000300, .long (lN 0), .long (lN 0), .ref 410, .null, .null, .null, .ref 411]))) (H410 : mj_rd h 410 = some (.inr (18, [.ref 1000000, .int (nI 0), .int (nI 0)]))) : mj_fin 4 xs h := by
  unfold mj_fin
  refine l_ild (p' := 30) rfl rfl rfl rfl ?_
  refine l_alds (p' := 31) rfl rfl rfl rfl ?_
  refine l_lens (p' := 32) rfl rfl rfl ?_
  refine l_con (p' := 33) rfl rfl rfl ?_
  refine l_bz (p' := 34) (z := (nI 0)) rfl rfl rfl rfl rfl (by decide +kernel) ?_
  refine l_icmp (p' := 37) false rfl rfl (by decide +kernel) rfl ?_
  refine l_alds (p' := 38) rfl rfl rfl rfl ?_
  refine l_ild (p' := 40) rfl rfl rfl rfl ?_
  refine l_ialz (p' := 41) (m := 0) (z := (xs 0)) rfl rfl (by decide +kernel) rfl rfl rfl ?_
  refine l_bip (p' := 43) rfl rfl rfl ?_
  refine l_bz (p' := 44) (z := (nI 36)) rfl rfl rfl rfl rfl hk ?_
  refine l_sp (p' := 2080) (ls' := _) rfl rfl rfl rfl rfl ?_
  refine l_aldn (p' := 2081) rfl rfl rfl rfl ?_
  refine l_call (p' := 2084) (kc := 99) (ls0 := [_]) rfl rfl rfl rfl rfl rfl (mj_rcv_is H0) rfl rfl rfl ?_
  refine s_aldn (p' := 1) rfl rfl rfl ?_
  refine s_gf (p' := 4) rfl H0 rfl rfl ?_
  refine c_call (p' := 7) (kc := 98) (ls0 := [_, _, _]) rfl rfl rfl rfl rfl (mj_rcv_is H393) rfl rfl rfl ?_
  refine s_aldn (p' := 1) rfl rfl rfl ?_
  refine c_call (p' := 4) (kc := 97) (ls0 := [_, _]) rfl rfl rfl rfl rfl (mj_rcv_is H393) rfl rfl rfl ?_
  refine s_con (p' := 1) rfl rfl ?_
  refine s_istn (p' := 2) (ls' := [_, _]) rfl rfl rfl rfl ?_
  refine s_ildn (p' := 3) rfl rfl rfl ?_
  refine s_aldn (p' := 4) rfl rfl rfl ?_
  refine s_gf (p' := 7) rfl H393 rfl rfl ?_
  refine s_lenz (p' := 8) rfl (mj_rdA_is H395 (by decide)) rfl rfl ?_
  refine s_icmp (p' := 11) false rfl (by decide +kernel) rfl ?_
  refine s_aldn (p' := 12) rfl rfl rfl ?_
  refine s_gf (p' := 15) rfl H393 rfl rfl ?_
  refine s_ildn (p' := 16) rfl rfl rfl ?_
  refine s_aldn (p' := 17) rfl rfl rfl ?_
  refine s_ildn (p' := 18) rfl rfl rfl ?_
  refine c_call (p' := 21) (kc := 96) (ls0 := [_, _, _, _]) rfl rfl rfl rfl rfl (mj_rcv_is H393) rfl rfl rfl ?_
  refine s_ildn (p' := 1) rfl rfl rfl ?_
  refine s_istn (p' := 2) (ls' := [_, _, _, _]) rfl rfl rfl rfl ?_
  refine s_con (p' := 3) rfl rfl ?_
  refine s_istn (p' := 4) (ls' := [_, _, _, _]) rfl rfl rfl rfl ?_
  refine s_ildn (p' := 5) rfl rfl rfl ?_
  refine s_aldn (p' := 6) rfl rfl rfl ?_
  refine s_gf (p' := 9) rfl H393 rfl rfl ?_
  refine s_icmp (p' := 38) true rfl (by decide +kernel) rfl ?_
  refine s_ildn (p' := 39) rfl rfl rfl ?_
  refine c_iret rfl rfl ?_
  refine s_iasz (p' := 22) (m := 0) rfl rfl H395 (by decide +kernel) rfl rfl rfl ?_
  refine s_incz (p' := 25) (w := (nI 1)) (ls' := [_, _]) rfl rfl rfl (by decide +kernel) rfl rfl ?_
  refine s_goto (p' := 2) rfl rfl ?_
  refine s_ildn (p' := 3) rfl rfl rfl ?_
  refine s_aldn (p' := 4) rfl rfl rfl ?_
  refine s_gf (p' := 7) rfl (rd_sn rfl H393) rfl rfl ?_
  refine s_lenz (p' := 8) rfl (mj_rdA_is (rd_ss rfl H395) (by decide)) rfl rfl ?_
  refine s_icmp (p' := 11) false rfl (by decide +kernel) rfl ?_
  refine s_aldn (p' := 12) rfl rfl rfl ?_
  refine s_gf (p' := 15) rfl (rd_sn rfl H393) rfl rfl ?_
  refine s_ildn (p' := 16) rfl rfl rfl ?_
  refine s_aldn (p' := 17) rfl rfl rfl ?_
  refine s_ildn (p' := 18) rfl rfl rfl ?_
  refine c_call (p' := 21) (kc := 96) (ls0 := [_, _, _, _]) rfl rfl rfl rfl rfl (mj_rcv_is (rd_sn rfl H393)) rfl rfl rfl ?_
  refine s_ildn (p' := 1) rfl rfl rfl ?_
  refine s_istn (p' := 2) (ls' := [_, _, _, _]) rfl rfl rfl rfl ?_
  refine s_con (p' := 3) rfl rfl ?_
  refine s_istn (p' := 4) (ls' := [_, _, _, _]) rfl rfl rfl rfl ?_
  refine s_ildn (p' := 5) rfl rfl rfl ?_
  refine s_aldn (p' := 6) rfl rfl rfl ?_
  refine s_gf (p' := 9) rfl (rd_sn rfl H393) rfl rfl ?_
  refine s_icmp (p' := 38) true rfl (by decide +kernel) rfl ?_
  refine s_ildn (p' := 39) rfl rfl rfl ?_
  refine c_iret rfl rfl ?_
  refine s_iasz (p' := 22) (m := 1) rfl rfl (rd_ss rfl H395) (by decide +kernel) rfl rfl rfl ?_
  refine s_incz (p' := 25) (w := (nI 2)) (ls' := [_, _]) rfl rfl rfl (by decide +kernel) rfl rfl ?_
  refine s_goto (p' := 2) rfl rfl ?_
  refine s_ildn (p' := 3) rfl rfl rfl ?_
  refine s_aldn (p' := 4) rfl rfl rfl ?_
  refine s_gf (p' := 7) rfl (rd_sn rfl (rd_sn rfl H393)) rfl rfl ?_
  refine s_lenz (p' := 8) rfl (mj_rdA_is (rd_ss rfl (rd_ss rfl H395)) (by decide)) rfl rfl ?_
  refine s_icmp (p' := 11) false rfl (by decide +kernel) rfl ?_
  refine s_aldn (p' := 12) rfl rfl rfl ?_
  refine s_gf (p' := 15) rfl (rd_sn rfl (rd_sn rfl H393)) rfl rfl ?_
  refine s_ildn (p' := 16) rfl rfl rfl ?_
  refine s_aldn (p' := 17) rfl rfl rfl ?_
  refine s_ildn (p' := 18) rfl rfl rfl ?_
  refine c_call (p' := 21) (kc := 96) (ls0 := [_, _, _, _]) rfl rfl rfl rfl rfl (mj_rcv_is (rd_sn rfl (rd_sn rfl H393))) rfl rfl rfl ?_
  refine s_ildn (p' := 1) rfl rfl rfl ?_
  refine s_istn (p' := 2) (ls' := [_, _, _, _]) rfl rfl rfl rfl ?_
  refine s_con (p' := 3) rfl rfl ?_
  refine s_istn (p' := 4) (ls' := [_, _, _, _]) rfl rfl rfl rfl ?_
  refine s_ildn (p' := 5) rfl rfl rfl ?_
  refine s_aldn (p' := 6) rfl rfl rfl ?_
  refine s_gf (p' := 9) rfl (rd_sn rfl (rd_sn rfl H393)) rfl rfl ?_
  refine s_icmp (p' := 38) true rfl (by decide +kernel) rfl ?_
  refine s_ildn (p' := 39) rfl rfl rfl ?_
  refine c_iret rfl rfl ?_
  refine s_iasz (p' := 22) (m := 2) rfl rfl (rd_ss rfl (rd_ss rfl H395)) (by decide +kernel) rfl rfl rfl ?_
  refine s_incz (p' := 25) (w := (nI 3)) (ls' := [_, _]) rfl rfl rfl (by decide +kernel) rfl rfl ?_
  refine s_goto (p' := 2) rfl rfl ?_
  refine s_ildn (p' := 3) rfl rfl rfl ?_
  refine s_aldn (p' := 4) rfl rfl rfl ?_
  refine s_gf (p' := 7) rfl (rd_sn rfl (rd_sn rfl (rd_sn rfl H393))) rfl rfl ?_
  refine s_lenz (p' := 8) rfl (mj_rdA_is (rd_ss rfl (rd_ss rfl (rd_ss rfl H395))) (by decide)) rfl rfl ?_
  refine s_icmp (p' := 11) false rfl (by decide +kernel) rfl ?_
  refine s_aldn (p' := 12) rfl rfl rfl ?_
  refine s_gf (p' := 15) rfl (rd_sn rfl (rd_sn rfl (rd_sn rfl H393))) rfl rfl ?_
  refine s_ildn (p' := 16) rfl rfl rfl ?_
  refine s_aldn (p' := 17) rfl rfl rfl ?_
  refine s_ildn (p' := 18) rfl rfl rfl ?_
  refine c_call (p' := 21) (kc := 96) (ls0 := [_, _, _, _]) rfl rfl rfl rfl rfl (mj_rcv_is (rd_sn rfl (rd_sn rfl (rd_sn rfl H393)))) rfl rfl rfl ?_
  refine s_ildn (p' := 1) rfl rfl rfl ?_
  refine s_istn (p' := 2) (ls' := [_, _, _, _]) rfl rfl rfl rfl ?_
  refine s_con (p' := 3) rfl rfl ?_
  refine s_istn (p' := 4) (ls' := [_, _, _, _]) rfl rfl rfl rfl ?_
  refine s_ildn (p' := 5) rfl rfl rfl ?_
  refine s_aldn (p' := 6) rfl rfl rfl ?_
  refine s_gf (p' := 9) rfl (rd_sn rfl (rd_sn rfl (rd_sn rfl H393))) rfl rfl ?_
  refine s_icmp (p' := 38) true rfl (by decide +kernel) rfl ?_
  refine s_ildn (p' := 39) rfl rfl rfl ?_
  refine c_iret rfl rfl ?_
  refine s_iasz (p' := 22) (m := 3) rfl rfl (rd_ss rfl (rd_ss rfl (rd_ss rfl H395))) (by decide +kernel) rfl rfl rfl ?_
  refine s_incz (p' := 25) (w := (nI 4)) (ls' := [_, _]) rfl rfl rfl (by decide +kernel) rfl rfl ?_
  refine s_goto (p' := 2) rfl rfl ?_
  refine s_ildn (p' := 3) rfl rfl rfl ?_
  refine s_aldn (p' := 4) rfl rfl rfl ?_
  refine s_gf (p' := 7) rfl (rd_sn rfl (rd_sn rfl (rd_sn rfl (rd_sn rfl H393)))) rfl rfl ?_
  refine s_lenz (p' := 8) rfl (mj_rdA_is (rd_ss rfl (rd_ss rfl (rd_ss rfl (rd_ss rfl H395)))) (by decide)) rfl rfl ?_
  refine s_icmp (p' := 11) false rfl (by decide +kernel) rfl ?_
  refine s_aldn (p' := 12) rfl rfl rfl ?_
  refine s_gf (p' := 15) rfl (rd_sn rfl (rd_sn rfl (rd_sn rfl (rd_sn rfl H393)))) rfl rfl ?_
  refine s_ildn (p' := 16) rfl rfl rfl ?_
  refine s_aldn (p' := 17) rfl rfl rfl ?_
  refine s_ildn (p' := 18) rfl rfl rfl ?_
  refine c_call (p' := 21) (kc := 96) (ls0 := [_, _, _, _]) rfl rfl rfl rfl rfl (mj_rcv_is (rd_sn rfl (rd_sn rfl (rd_sn rfl (rd_sn rfl H393))))) rfl rfl rfl ?_
  refine s_ildn (p' := 1) rfl rfl rfl ?_
  refine s_istn (p' := 2) (ls' := [_, _, _, _]) rfl rfl rfl rfl ?_
  refine s_con (p' := 3) rfl rfl ?_
  refine s_istn (p' := 4) (ls' := [_, _, _, _]) rfl rfl rfl rfl ?_
  refine s_ildn (p' := 5) rfl rfl rfl ?_
  refine s_aldn (p' := 6) rfl rfl rfl ?_
  refine s_gf (p' := 9) rfl (rd_sn rfl (rd_sn rfl (rd_sn rfl (rd_sn rfl H393)))) rfl rfl ?_
  refine s_icmp (p' := 38) true rfl (by decide +kernel) rfl ?_
  refine s_ildn (p' := 39) rfl rfl rfl ?_
  refine c_iret rfl rfl ?_
  refine s_iasz (p' := 22) (m := 4) rfl rfl (rd_ss rfl (rd_ss rfl (rd_ss rfl (rd_ss rfl H395)))) (by decide +kernel) rfl rfl rfl ?_
  refine s_incz (p' := 25) (w := (nI 5)) (ls' := [_, _]) rfl rfl rfl (by decide +kernel) rfl rfl ?_
  refine s_goto (p' := 2) rfl rfl ?_
  refine s_ildn (p' := 3) rfl rfl rfl ?_
  refine s_aldn (p' := 4) rfl rfl rfl ?_
  refine s_gf (p' := 7) rfl (rd_sn rfl (rd_sn rfl (rd_sn rfl (rd_sn rfl (rd_sn rfl H393))))) rfl rfl ?_
  refine s_lenz (p' := 8) rfl (mj_rdA_is (rd_ss rfl (rd_ss rfl (rd_ss rfl (rd_ss rfl (rd_ss rfl H395))))) (by decide)) rfl rfl ?_
  refine s_icmp (p' := 11) false rfl (by decide +kernel) rfl ?_
  refine s_aldn (p' := 12) rfl rfl rfl ?_
  refine s_gf (p' := 15) rfl (rd_sn rfl (rd_sn rfl (rd_sn rfl (rd_sn rfl (rd_sn rfl H393))))) rfl rfl ?_
  refine s_ildn (p' := 16) rfl rfl rfl ?_
  refine s_aldn (p' := 17) rfl rfl rfl ?_
  refine s_ildn (p' := 18) rfl rfl rfl ?_
  refine c_call (p' := 21) (kc := 96) (ls0 := [_, _, _, _]) rfl rfl rfl rfl rfl (mj_rcv_is (rd_sn rfl (rd_sn rfl (rd_sn rfl (rd_sn rfl (rd_sn rfl H393)))))) rfl rfl rfl ?_
  refine s_ildn (p' := 1) rfl rfl rfl ?_
  refine s_istn (p' := 2) (ls' := [_, _, _, _]) rfl rfl rfl rfl ?_
  refine s_con (p' := 3) rfl rfl ?_
  refine s_istn (p' := 4) (ls' := [_, _, _, _]) rfl rfl rfl rfl ?_
  refine s_ildn (p' := 5) rfl rfl rfl ?_
  refine s_aldn (p' := 6) rfl rfl rfl ?_
  refine s_gf (p' := 9) rfl (rd_sn rfl (rd_sn rfl (rd_sn rfl (rd_sn rfl (rd_sn rfl H393))))) rfl rfl ?_
  refine s_icmp (p' := 38) true rfl (by decide +kernel) rfl ?_
  refine s_ildn (p' := 39) rfl rfl rfl ?_
  refine c_iret rfl rfl ?_
  refine s_iasz (p' := 22) (m := 5) rfl rfl (rd_ss rfl (rd_ss rfl (rd_ss rfl (rd_ss rfl (rd_ss rfl H395))))) (by decide +kernel) rfl rfl rfl ?_
  refine s_incz (p' := 25) (w := (nI 6)) (ls' := [_, _]) rfl rfl rfl (by decide +kernel) rfl rfl ?_
  refine s_goto (p' := 2) rfl rfl ?_
  refine s_ildn (p' := 3) rfl rfl rfl ?_
  refine s_aldn (p' := 4) rfl rfl rfl ?_
  refine s_gf (p' := 7) rfl (rd_sn rfl (rd_sn rfl (rd_sn rfl (rd_sn rfl (rd_sn rfl (rd_sn rfl H393)))))) rfl rfl ?_
  refine s_lenz (p' := 8) rfl (mj_rdA_is (rd_ss rfl (rd_ss rfl (rd_ss rfl (rd_ss rfl (rd_ss rfl (rd_ss rfl H395)))))) (by decide)) rfl rfl ?_
  refine s_icmp (p' := 11) false rfl (by decide +kernel) rfl ?_
  refine s_aldn (p' := 12) rfl rfl rfl ?_
  refine s_gf (p' := 15) rfl (rd_sn rfl (rd_sn rfl (rd_sn rfl (rd_sn rfl (rd_sn rfl (rd_sn rfl H393)))))) rfl rfl ?_
  refine s_ildn (p' := 16) rfl rfl rfl ?_
  refine s_aldn (p' := 17) rfl rfl rfl ?_
  refine s_ildn (p' := 18) rfl rfl rfl ?_
  refine c_call (p' := 21) (kc := 96) (ls0 := [_, _, _, _]) rfl rfl rfl rfl rfl (mj_rcv_is (rd_sn rfl (rd_sn rfl (rd_sn rfl (rd_sn rfl (rd_sn rfl (rd_sn rfl H393))))))) rfl rfl rfl ?_
  refine s_ildn (p' := 1) rfl rfl rfl ?_
  refine s_istn (p' := 2) (ls' := [_, _, _, _]) rfl rfl rfl rfl ?_
  refine s_con (p' := 3) rfl rfl ?_
  refine s_istn (p' := 4) (ls' := [_, _, _, _]) rfl rfl rfl rfl ?_
  refine s_ildn (p' := 5) rfl rfl rfl ?_
  refine s_aldn (p' := 6) rfl rfl rfl ?_
  refine s_gf (p' := 9) rfl (rd_sn rfl (rd_sn rfl (rd_sn rfl (rd_sn rfl (rd_sn rfl (rd_sn rfl H393)))))) rfl rfl ?_
  refine s_icmp (p' := 38) true rfl (by decide +kernel) rfl ?_
  refine s_ildn (p' := 39) rfl rfl rfl ?_
  refine c_iret rfl rfl ?_
  refine s_iasz (p' := 22) (m := 6) rfl rfl (rd_ss rfl (rd_ss rfl (rd_ss rfl (rd_ss rfl (rd_ss rfl (rd_ss rfl H395)))))) (by decide +kernel) rfl rfl rfl ?_
  refine s_incz (p' := 25) (w := (nI 7)) (ls' := [_, _]) rfl rfl rfl (by decide +kernel) rfl rfl ?_
  refine s_goto (p' := 2) rfl rfl ?_
  refine s_ildn (p' := 3) rfl rfl rfl ?_
  refine s_aldn (p' := 4) rfl rfl rfl ?_
  refine s_gf (p' := 7) rfl (rd_sn rfl (rd_sn rfl (rd_sn rfl (rd_sn rfl (rd_sn rfl (rd_sn rfl (rd_sn rfl H393))))))) rfl rfl ?_
  refine s_lenz (p' := 8) rfl (mj_rdA_is (rd_ss rfl (rd_ss rfl (rd_ss rfl (rd_ss rfl (rd_ss rfl (rd_ss rfl (rd_ss rfl H395))))))) (by decide)) rfl rfl ?_
  refine s_icmp (p' := 11) false rfl (by decide +kernel) rfl ?_
  refine s_aldn (p' := 12) rfl rfl rfl ?_
  refine s_gf (p' := 15) rfl (rd_sn rfl (rd_sn rfl (rd_sn rfl (rd_sn rfl (rd_sn rfl (rd_sn rfl (rd_sn rfl H393))))))) rfl rfl ?_
  refine s_ildn (p' := 16) rfl rfl rfl ?_
  refine s_aldn (p' := 17) rfl rfl rfl ?_
  refine s_ildn (p' := 18) rfl rfl rfl ?_
  refine c_call (p' := 21) (kc := 96) (ls0 := [_, _, _, _]) rfl rfl rfl rfl rfl (mj_rcv_is (rd_sn rfl (rd_sn rfl (rd_sn rfl (rd_sn rfl (rd_sn rfl (rd_sn rfl (rd_sn rfl H393)))))))) rfl rfl rfl ?_
  refine s_ildn (p' := 1) rfl rfl rfl ?_
  refine s_istn (p' := 2) (ls' := [_, _, _, _]) rfl rfl rfl rfl ?_
  refine s_con (p' := 3) rfl rfl ?_
  refine s_istn (p' := 4) (ls' := [_, _, _, _]) rfl rfl rfl rfl ?_
  refine s_ildn (p' := 5) rfl rfl rfl ?_
  refine s_aldn (p' := 6) rfl rfl rfl ?_
  refine s_gf (p' := 9) rfl (rd_sn rfl (rd_sn rfl (rd_sn rfl (rd_sn rfl (rd_sn rfl (rd_sn rfl (rd_sn rfl H393))))))) rfl rfl ?_
  refine s_icmp (p' := 38) true rfl (by decide +kernel) rfl ?_
  refine s_ildn (p' := 39) rfl rfl rfl ?_
  refine c_iret rfl rfl ?_
  refine s_iasz (p' := 22) (m := 7) rfl rfl (rd_ss rfl (rd_ss rfl (rd_ss rfl (rd_ss rfl (rd_ss rfl (rd_ss rfl (rd_ss rfl H395))))))) (by decide +kernel) rfl rfl rfl ?_
  refine s_incz (p' := 25) (w := (nI 8)) (ls' := [_, _]) rfl rfl rfl (by decide +kernel) rfl rfl ?_
  refine s_goto (p' := 2) rfl rfl ?_
  refine s_ildn (p' := 3) rfl rfl rfl ?_
  refine s_aldn (p' := 4) rfl rfl rfl ?_
  refine s_gf (p' := 7) rfl (rd_sn rfl (rd_sn rfl (rd_sn rfl (rd_sn rfl (rd_sn rfl (rd_sn rfl (rd_sn rfl (rd_sn rfl H393)))))))) rfl rfl ?_
  refine s_lenz (p' := 8) rfl (mj_rdA_is (rd_ss rfl (rd_ss rfl (rd_ss rfl (rd_ss rfl (rd_ss rfl (rd_ss rfl (rd_ss rfl (rd_ss rfl H395)))))))) (by decide)) rfl rfl ?_
  refine s_icmp (p' := 28) true rfl (by decide +kernel) rfl ?_
  refine c_ret rfl ?_
  refine s_aldn (p' := 5) rfl rfl rfl ?_
  refine s_con (p' := 6) rfl rfl ?_
  refine s_pfz (p' := 9) (fs' := [_, _, _, _, _]) rfl rfl (rd_sn rfl (rd_sn rfl (rd_sn rfl (rd_sn rfl (rd_sn rfl (rd_sn rfl (rd_sn rfl (rd_sn rfl H393)))))))) rfl rfl rfl rfl ?_
  refine s_con (p' := 10) rfl rfl ?_
  refine s_istn (p' := 11) (ls' := [_, _, _]) rfl rfl rfl rfl ?_
  refine s_ildn (p' := 12) rfl rfl rfl ?_
  refine s_aldn (p' := 13) rfl rfl rfl ?_
  refine s_gf (p' := 16) rfl (rd_ss rfl (rd_sn rfl (rd_sn rfl (rd_sn rfl (rd_sn rfl (rd_sn rfl (rd_sn rfl (rd_sn rfl (rd_sn rfl H393))))))))) rfl rfl ?_
  refine s_lenz (p' := 17) rfl (mj_rdA_is (rd_sn rfl (rd_ss rfl (rd_ss rfl (rd_ss rfl (rd_ss rfl (rd_ss rfl (rd_ss rfl (rd_ss rfl (rd_ss rfl H395))))))))) (by decide)) rfl rfl ?_
  refine s_icmp (p' := 20) false rfl (by decide +kernel) rfl ?_
  refine s_con (p' := 21) rfl rfl ?_
  refine s_istn (p' := 22) (ls' := [_, _, _]) rfl rfl rfl rfl ?_
  refine s_ildn (p' := 23) rfl rfl rfl ?_
  refine s_con (p' := 24) rfl rfl ?_
  refine s_icmp (p' := 27) false rfl (by decide +kernel) rfl ?_
  refine s_ildn (p' := 28) rfl rfl rfl ?_
  refine s_aldn (p' := 29) rfl rfl rfl ?_
  refine s_gf (p' := 32) rfl (rd_ss rfl (rd_sn rfl (rd_sn rfl (rd_sn rfl (rd_sn rfl (rd_sn rfl (rd_sn rfl (rd_sn rfl (rd_sn rfl H393))))))))) rfl rfl ?_
  refine s_ildn (p' := 33) rfl rfl rfl ?_
  refine s_ialz (p' := 34) (m := 0) (v := (nI 0)) rfl (rd_sn rfl (rd_ss rfl (rd_ss rfl (rd_ss rfl (rd_ss rfl (rd_ss rfl (rd_ss rfl (rd_ss rfl (rd_ss rfl H395))))))))) (by decide +kernel) rfl (by decide +kernel) rfl ?_
  refine s_con (p' := 35) rfl rfl ?_
  refine s_bz (p' := 36) (z := (nI 4294967295)) rfl rfl rfl (by decide +kernel) ?_
  refine s_bz (p' := 37) (z := (nI 0)) rfl rfl rfl (by decide +kernel) ?_
  refine s_con (p' := 38) rfl rfl ?_
  refine s_ildn (p' := 39) rfl rfl rfl ?_
  refine s_bz (p' := 40) (z := (nI 1)) rfl rfl rfl (by decide +kernel) ?_
  refine s_bz (p' := 41) (z := (nI 0)) rfl rfl rfl (by decide +kernel) ?_
  refine s_if (p' := 55) true rfl (by decide +kernel) rfl ?_
  refine s_incz (p' := 58) (w := (nI 1)) (ls' := [_, _, _]) rfl rfl rfl (by decide +kernel) rfl rfl ?_
  refine s_goto (p' := 22) rfl rfl ?_
  refine s_ildn (p' := 23) rfl rfl rfl ?_
  refine s_con (p' := 24) rfl rfl ?_
  refine s_icmp (p' := 27) false rfl (by decide +kernel) rfl ?_
  refine s_ildn (p' := 28) rfl rfl rfl ?_
  refine s_aldn (p' := 29) rfl rfl rfl ?_
  refine s_gf (p' := 32) rfl (rd_ss rfl (rd_sn rfl (rd_sn rfl (rd_sn rfl (rd_sn rfl (rd_sn rfl (rd_sn rfl (rd_sn rfl (rd_sn rfl H393))))))))) rfl rfl ?_
  refine s_ildn (p' := 33) rfl rfl rfl ?_
  refine s_ialz (p' := 34) (m := 0) (v := (nI 0)) rfl (rd_sn rfl (rd_ss rfl (rd_ss rfl (rd_ss rfl (rd_ss rfl (rd_ss rfl (rd_ss rfl (rd_ss rfl (rd_ss rfl H395))))))))) (by decide +kernel) rfl (by decide +kernel) rfl ?_
  refine s_con (p' := 35) rfl rfl ?_
  refine s_bz (p' := 36) (z := (nI 4294967295)) rfl rfl rfl (by decide +kernel) ?_
  refine s_bz (p' := 37) (z := (nI 0)) rfl rfl rfl (by decide +kernel) ?_
  refine s_con (p' := 38) rfl rfl ?_
  refine s_ildn (p' := 39) rfl rfl rfl ?_
  refine s_bz (p' := 40) (z := (nI 2)) rfl rfl rfl (by decide +kernel) ?_
  refine s_bz (p' := 41) (z := (nI 0)) rfl rfl rfl (by decide +kernel) ?_
  refine s_if (p' := 55) true rfl (by decide +kernel) rfl ?_
  refine s_incz (p' := 58) (w := (nI 2)) (ls' := [_, _, _]) rfl rfl rfl (by decide +kernel) rfl rfl ?_
  refine s_goto (p' := 22) rfl rfl ?_
  refine s_ildn (p' := 23) rfl rfl rfl ?_
  refine s_con (p' := 24) rfl rfl ?_
  refine s_icmp (p' := 27) false rfl (by decide +kernel) rfl ?_
  refine s_ildn (p' := 28) rfl rfl rfl ?_
  refine s_aldn (p' := 29) rfl rfl rfl ?_
  refine s_gf (p' := 32) rfl (rd_ss rfl (rd_sn rfl (rd_sn rfl (rd_sn rfl (rd_sn rfl (rd_sn rfl (rd_sn rfl (rd_sn rfl (rd_sn rfl H393))))))))) rfl rfl ?_
  refine s_ildn (p' := 33) rfl rfl rfl ?_
  refine s_ialz (p' := 34) (m := 0) (v := (nI 0)) rfl (rd_sn rfl (rd_ss rfl (rd_ss rfl (rd_ss rfl (rd_ss rfl (rd_ss rfl (rd_ss rfl (rd_ss rfl (rd_ss rfl H395))))))))) (by decide +kernel) rfl (by decide +kernel) rfl ?_
  refine s_con (p' := 35) rfl rfl ?_
  refine s_bz (p' := 36) (z := (nI 4294967295)) rfl rfl rfl (by decide +kernel) ?_
  refine s_bz (p' := 37) (z := (nI 0)) rfl rfl rfl (by decide +kernel) ?_
  refine s_con (p' := 38) rfl rfl ?_
  refine s_ildn (p' := 39) rfl rfl rfl ?_
  refine s_bz (p' := 40) (z := (nI 4)) rfl rfl rfl (by decide +kernel) ?_
  refine s_bz (p' := 41) (z := (nI 0)) rfl rfl rfl (by decide +kernel) ?_
  refine s_if (p' := 55) true rfl (by decide +kernel) rfl ?_
  refine s_incz (p' := 58) (w := (nI 3)) (ls' := [_, _, _]) rfl rfl rfl (by decide +kernel) rfl rfl ?_
  refine s_goto (p' := 22) rfl rfl ?_
  refine s_ildn (p' := 23) rfl rfl rfl ?_
  refine s_con (p' := 24) rfl rfl ?_
  refine s_icmp (p' := 61) true rfl (by decide +kernel) rfl ?_
  refine s_con (p' := 62) rfl rfl ?_
  refine s_istn (p' := 63) (ls' := [_, _, _]) rfl rfl rfl rfl ?_
  refine s_ildn (p' := 64) rfl rfl rfl ?_
  refine s_con (p' := 65) rfl rfl ?_
  refine s_icmp (p' := 68) false rfl (by decide +kernel) rfl ?_
  refine s_aldn (p' := 69) rfl rfl rfl ?_
  refine s_gf (p' := 72) rfl (rd_ss rfl (rd_sn rfl (rd_sn rfl (rd_sn rfl (rd_sn rfl (rd_sn rfl (rd_sn rfl (rd_sn rfl (rd_sn rfl H393))))))))) rfl rfl ?_
  refine s_ildn (p' := 73) rfl rfl rfl ?_
  refine s_ialz (p' := 74) (m := 0) (v := (nI 0)) rfl (rd_sn rfl (rd_ss rfl (rd_ss rfl (rd_ss rfl (rd_ss rfl (rd_ss rfl (rd_ss rfl (rd_ss rfl (rd_ss rfl H395))))))))) (by decide +kernel) rfl (by decide +kernel) rfl ?_
  refine s_ildn (p' := 75) rfl rfl rfl ?_
  refine s_con (p' := 76) rfl rfl ?_
  refine s_bz (p' := 77) (z := (nI 4294967295)) rfl rfl rfl (by decide +kernel) ?_
  refine s_bz (p' := 78) (z := (nI 0)) rfl rfl rfl (by decide +kernel) ?_
  refine s_con (p' := 79) rfl rfl ?_
  refine s_ildn (p' := 80) rfl rfl rfl ?_
  refine s_bz (p' := 81) (z := (nI 1)) rfl rfl rfl (by decide +kernel) ?_
  refine s_bz (p' := 82) (z := (nI 0)) rfl rfl rfl (by decide +kernel) ?_
  refine s_if (p' := 91) true rfl (by decide +kernel) rfl ?_
  refine s_incz (p' := 94) (w := (nI 1)) (ls' := [_, _, _]) rfl rfl rfl (by decide +kernel) rfl rfl ?_
  refine s_goto (p' := 63) rfl rfl ?_
  refine s_ildn (p' := 64) rfl rfl rfl ?_
  refine s_con (p' := 65) rfl rfl ?_
  refine s_icmp (p' := 68) false rfl (by decide +kernel) rfl ?_
  refine s_aldn (p' := 69) rfl rfl rfl ?_
  refine s_gf (p' := 72) rfl (rd_ss rfl (rd_sn rfl (rd_sn rfl (rd_sn rfl (rd_sn rfl (rd_sn rfl (rd_sn rfl (rd_sn rfl (rd_sn rfl H393))))))))) rfl rfl ?_
  refine s_ildn (p' := 73) rfl rfl rfl ?_
  refine s_ialz (p' := 74) (m := 0) (v := (nI 0)) rfl (rd_sn rfl (rd_ss rfl (rd_ss rfl (rd_ss rfl (rd_ss rfl (rd_ss rfl (rd_ss rfl (rd_ss rfl (rd_ss rfl H395))))))))) (by decide +kernel) rfl (by decide +kernel) rfl ?_
  refine s_ildn (p' := 75) rfl rfl rfl ?_
  refine s_con (p' := 76) rfl rfl ?_
  refine s_bz (p' := 77) (z := (nI 4294967295)) rfl rfl rfl (by decide +kernel) ?_
  refine s_bz (p' := 78) (z := (nI 0)) rfl rfl rfl (by decide +kernel) ?_
  refine s_con (p' := 79) rfl rfl ?_
  refine s_ildn (p' := 80) rfl rfl rfl ?_
  refine s_bz (p' := 81) (z := (nI 2)) rfl rfl rfl (by decide +kernel) ?_
  refine s_bz (p' := 82) (z := (nI 0)) rfl rfl rfl (by decide +kernel) ?_
  refine s_if (p' := 91) true rfl (by decide +kernel) rfl ?_
  refine s_incz (p' := 94) (w := (nI 2)) (ls' := [_, _, _]) rfl rfl rfl (by decide +kernel) rfl rfl ?_
  refine s_goto (p' := 63) rfl rfl ?_
  refine s_ildn (p' := 64) rfl rfl rfl ?_
  refine s_con (p' := 65) rfl rfl ?_
  refine s_icmp (p' := 68) false rfl (by decide +kernel) rfl ?_
  refine s_aldn (p' := 69) rfl rfl rfl ?_
  refine s_gf (p' := 72) rfl (rd_ss rfl (rd_sn rfl (rd_sn rfl (rd_sn rfl (rd_sn rfl (rd_sn rfl (rd_sn rfl (rd_sn rfl (rd_sn rfl H393))))))))) rfl rfl ?_
  refine s_ildn (p' := 73) rfl rfl rfl ?_
  refine s_ialz (p' := 74) (m := 0) (v := (nI 0)) rfl (rd_sn rfl (rd_ss rfl (rd_ss rfl (rd_ss rfl (rd_ss rfl (rd_ss rfl (rd_ss rfl (rd_ss rfl (rd_ss rfl H395))))))))) (by decide +kernel) rfl (by decide +kernel) rfl ?_
  refine s_ildn (p' := 75) rfl rfl rfl ?_
  refine s_con (p' := 76) rfl rfl ?_
  refine s_bz (p' := 77) (z := (nI 4294967295)) rfl rfl rfl (by decide +kernel) ?_
  refine s_bz (p' := 78) (z := (nI 0)) rfl rfl rfl (by decide +kernel) ?_
  refine s_con (p' := 79) rfl rfl ?_
  refine s_ildn (p' := 80) rfl rfl rfl ?_
  refine s_bz (p' := 81) (z := (nI 4)) rfl rfl rfl (by decide +kernel) ?_
  refine s_bz (p' := 82) (z := (nI 0)) rfl rfl rfl (by decide +kernel) ?_
  refine s_if (p' := 91) true rfl (by decide +kernel) rfl ?_
  refine s_incz (p' := 94) (w := (nI 3)) (ls' := [_, _, _]) rfl rfl rfl (by decide +kernel) rfl rfl ?_
  refine s_goto (p' := 63) rfl rfl ?_
  refine s_ildn (p' := 64) rfl rfl rfl ?_
  refine s_con (p' := 65) rfl rfl ?_
  refine s_icmp (p' := 97) true rfl (by decide +kernel) rfl ?_
  refine s_incz (p' := 100) (w := (nI 1)) (ls' := [_, _, _]) rfl rfl rfl (by decide +kernel) rfl rfl ?_
  refine s_goto (p' := 11) rfl rfl ?_
  refine s_ildn (p' := 12) rfl rfl rfl ?_
  refine s_aldn (p' := 13) rfl rfl rfl ?_
  refine s_gf (p' := 16) rfl (rd_ss rfl (rd_sn rfl (rd_sn rfl (rd_sn rfl (rd_sn rfl (rd_sn rfl (rd_sn rfl (rd_sn rfl (rd_sn rfl H393))))))))) rfl rfl ?_
  refine s_lenz (p' := 17) rfl (mj_rdA_is (rd_sn rfl (rd_ss rfl (rd_ss rfl (rd_ss rfl (rd_ss rfl (rd_ss rfl (rd_ss rfl (rd_ss rfl (rd_ss rfl H395))))))))) (by decide)) rfl rfl ?_
  refine s_icmp (p' := 20) false rfl (by decide +kernel) rfl ?_
  refine s_con (p' := 21) rfl rfl ?_
  refine s_istn (p' := 22) (ls' := [_, _, _]) rfl rfl rfl rfl ?_
  refine s_ildn (p' := 23) rfl rfl rfl ?_
  refine s_con (p' := 24) rfl rfl ?_
  refine s_icmp (p' := 27) false rfl (by decide +kernel) rfl ?_
  refine s_ildn (p' := 28) rfl rfl rfl ?_
  refine s_aldn (p' := 29) rfl rfl rfl ?_
  refine s_gf (p' := 32) rfl (rd_ss rfl (rd_sn rfl (rd_sn rfl (rd_sn rfl (rd_sn rfl (rd_sn rfl (rd_sn rfl (rd_sn rfl (rd_sn rfl H393))))))))) rfl rfl ?_
  refine s_ildn (p' := 33) rfl rfl rfl ?_
  refine s_ialz (p' := 34) (m := 1) (v := (nI 1)) rfl (rd_sn rfl (rd_ss rfl (rd_ss rfl (rd_ss rfl (rd_ss rfl (rd_ss rfl (rd_ss rfl (rd_ss rfl (rd_ss rfl H395))))))))) (by decide +kernel) rfl (by decide +kernel) rfl ?_
  refine s_con (p' := 35) rfl rfl ?_
  refine s_bz (p' := 36) (z := (nI 4294967294)) rfl rfl rfl (by decide +kernel) ?_
  refine s_bz (p' := 37) (z := (nI 0)) rfl rfl rfl (by decide +kernel) ?_
  refine s_con (p' := 38) rfl rfl ?_
  refine s_ildn (p' := 39) rfl rfl rfl ?_
  refine s_bz (p' := 40) (z := (nI 1)) rfl rfl rfl (by decide +kernel) ?_
  refine s_bz (p' := 41) (z := (nI 0)) rfl rfl rfl (by decide +kernel) ?_
  refine s_if (p' := 55) true rfl (by decide +kernel) rfl ?_
  refine s_incz (p' := 58) (w := (nI 1)) (ls' := [_, _, _]) rfl rfl rfl (by decide +kernel) rfl rfl ?_
  refine s_goto (p' := 22) rfl rfl ?_
  refine s_ildn (p' := 23) rfl rfl rfl ?_
  refine s_con (p' := 24) rfl rfl ?_
  refine s_icmp (p' := 27) false rfl (by decide +kernel) rfl ?_
  refine s_ildn (p' := 28) rfl rfl rfl ?_
  refine s_aldn (p' := 29) rfl rfl rfl ?_
  refine s_gf (p' := 32) rfl (rd_ss rfl (rd_sn rfl (rd_sn rfl (rd_sn rfl (rd_sn rfl (rd_sn rfl (rd_sn rfl (rd_sn rfl (rd_sn rfl H393))))))))) rfl rfl ?_
  refine s_ildn (p' := 33) rfl rfl rfl ?_
  refine s_ialz (p' := 34) (m := 1) (v := (nI 1)) rfl (rd_sn rfl (rd_ss rfl (rd_ss rfl (rd_ss rfl (rd_ss rfl (rd_ss rfl (rd_ss rfl (rd_ss rfl (rd_ss rfl H395))))))))) (by decide +kernel) rfl (by decide +kernel) rfl ?_
  refine s_con (p' := 35) rfl rfl ?_
  refine s_bz (p' := 36) (z := (nI 4294967294)) rfl rfl rfl (by decide +kernel) ?_
  refine s_bz (p' := 37) (z := (nI 0)) rfl rfl rfl (by decide +kernel) ?_
  refine s_con (p' := 38) rfl rfl ?_
  refine s_ildn (p' := 39) rfl rfl rfl ?_
  refine s_bz (p' := 40) (z := (nI 2)) rfl rfl rfl (by decide +kernel) ?_
  refine s_bz (p' := 41) (z := (nI 0)) rfl rfl rfl (by decide +kernel) ?_
  refine s_if (p' := 55) true rfl (by decide +kernel) rfl ?_
  refine s_incz (p' := 58) (w := (nI 2)) (ls' := [_, _, _]) rfl rfl rfl (by decide +kernel) rfl rfl ?_
  refine s_goto (p' := 22) rfl rfl ?_
  refine s_ildn (p' := 23) rfl rfl rfl ?_
  refine s_con (p' := 24) rfl rfl ?_
  refine s_icmp (p' := 27) false rfl (by decide +kernel) rfl ?_
  refine s_ildn (p' := 28) rfl rfl rfl ?_
  refine s_aldn (p' := 29) rfl rfl rfl ?_
  refine s_gf (p' := 32) rfl (rd_ss rfl (rd_sn rfl (rd_sn rfl (rd_sn rfl (rd_sn rfl (rd_sn rfl (rd_sn rfl (rd_sn rfl (rd_sn rfl H393))))))))) rfl rfl ?_
  refine s_ildn (p' := 33) rfl rfl rfl ?_
  refine s_ialz (p' := 34) (m := 1) (v := (nI 1)) rfl (rd_sn rfl (rd_ss rfl (rd_ss rfl (rd_ss rfl (rd_ss rfl (rd_ss rfl (rd_ss rfl (rd_ss rfl (rd_ss rfl H395))))))))) (by decide +kernel) rfl (by decide +kernel) rfl ?_
  refine s_con (p' := 35) rfl rfl ?_
  refine s_bz (p' := 36) (z := (nI 4294967294)) rfl rfl rfl (by decide +kernel) ?_
  refine s_bz (p' := 37) (z := (nI 0)) rfl rfl rfl (by decide +kernel) ?_
  refine s_con (p' := 38) rfl rfl ?_
  refine s_ildn (p' := 39) rfl rfl rfl ?_
  refine s_bz (p' := 40) (z := (nI 4)) rfl rfl rfl (by decide +kernel) ?_
  refine s_bz (p' := 41) (z := (nI 0)) rfl rfl rfl (by decide +kernel) ?_
  refine s_if (p' := 55) true rfl (by decide +kernel) rfl ?_
  refine s_incz (p' := 58) (w := (nI 3)) (ls' := [_, _, _]) rfl rfl rfl (by decide +kernel) rfl rfl ?_
  refine s_goto (p' := 22) rfl rfl ?_
  refine s_ildn (p' := 23) rfl rfl rfl ?_
  refine s_con (p' := 24) rfl rfl ?_
  refine s_icmp (p' := 61) true rfl (by decide +kernel) rfl ?_
  refine s_con (p' := 62) rfl rfl ?_
  refine s_istn (p' := 63) (ls' := [_, _, _]) rfl rfl rfl rfl ?_
  refine s_ildn (p' := 64) rfl rfl rfl ?_
  refine s_con (p' := 65) rfl rfl ?_
  refine s_icmp (p' := 68) false rfl (by decide +kernel) rfl ?_
  refine s_aldn (p' := 69) rfl rfl rfl ?_
  refine s_gf (p' := 72) rfl (rd_ss rfl (rd_sn rfl (rd_sn rfl (rd_sn rfl (rd_sn rfl (rd_sn rfl (rd_sn rfl (rd_sn rfl (rd_sn rfl H393))))))))) rfl rfl ?_
  refine s_ildn (p' := 73) rfl rfl rfl ?_
  refine s_ialz (p' := 74) (m := 1) (v := (nI 1)) rfl (rd_sn rfl (rd_ss rfl (rd_ss rfl (rd_ss rfl (rd_ss rfl (rd_ss rfl (rd_ss rfl (rd_ss rfl (rd_ss rfl H395))))))))) (by decide +kernel) rfl (by decide +kernel) rfl ?_
  refine s_ildn (p' := 75) rfl rfl rfl ?_
  refine s_con (p' := 76) rfl rfl ?_
  refine s_bz (p' := 77) (z := (nI 4294967294)) rfl rfl rfl (by decide +kernel) ?_
  refine s_bz (p' := 78) (z := (nI 0)) rfl rfl rfl (by decide +kernel) ?_
  refine s_con (p' := 79) rfl rfl ?_
  refine s_ildn (p' := 80) rfl rfl rfl ?_
  refine s_bz (p' := 81) (z := (nI 1)) rfl rfl rfl (by decide +kernel) ?_
  refine s_bz (p' := 82) (z := (nI 0)) rfl rfl rfl (by decide +kernel) ?_
  refine s_if (p' := 91) true rfl (by decide +kernel) rfl ?_
  refine s_incz (p' := 94) (w := (nI 1)) (ls' := [_, _, _]) rfl rfl rfl (by decide +kernel) rfl rfl ?_
  refine s_goto (p' := 63) rfl rfl ?_
  refine s_ildn (p' := 64) rfl rfl rfl ?_
  refine s_con (p' := 65) rfl rfl ?_
  refine s_icmp (p' := 68) false rfl (by decide +kernel) rfl ?_
  refine s_aldn (p' := 69) rfl rfl rfl ?_
  refine s_gf (p' := 72) rfl (rd_ss rfl (rd_sn rfl (rd_sn rfl (rd_sn rfl (rd_sn rfl (rd_sn rfl (rd_sn rfl (rd_sn rfl (rd_sn rfl H393))))))))) rfl rfl ?_
  refine s_ildn (p' := 73) rfl rfl rfl ?_
  refine s_ialz (p' := 74) (m := 1) (v := (nI 1)) rfl (rd_sn rfl (rd_ss rfl (rd_ss rfl (rd_ss rfl (rd_ss rfl (rd_ss rfl (rd_ss rfl (rd_ss rfl (rd_ss rfl H395))))))))) (by decide +kernel) rfl (by decide +kernel) rfl ?_
  refine s_ildn (p' := 75) rfl rfl rfl ?_
  refine s_con (p' := 76) rfl rfl ?_
  refine s_bz (p' := 77) (z := (nI 4294967294)) rfl rfl rfl (by decide +kernel) ?_
  refine s_bz (p' := 78) (z := (nI 0)) rfl rfl rfl (by decide +kernel) ?_
  refine s_con (p' := 79) rfl rfl ?_
  refine s_ildn (p' := 80) rfl rfl rfl ?_
  refine s_bz (p' := 81) (z := (nI 2)) rfl rfl rfl (by decide +kernel) ?_
  refine s_bz (p' := 82) (z := (nI 0)) rfl rfl rfl (by decide +kernel) ?_
  refine s_if (p' := 91) true rfl (by decide +kernel) rfl ?_
  refine s_incz (p' := 94) (w := (nI 2)) (ls' := [_, _, _]) rfl rfl rfl (by decide +kernel) rfl rfl ?_
  refine s_goto (p' := 63) rfl rfl ?_
  refine s_ildn (p' := 64) rfl rfl rfl ?_
  refine s_con (p' := 65) rfl rfl ?_
  refine s_icmp (p' := 68) false rfl (by decide +kernel) rfl ?_
  refine s_aldn (p' := 69) rfl rfl rfl ?_
  refine s_gf (p' := 72) rfl (rd_ss rfl (rd_sn rfl (rd_sn rfl (rd_sn rfl (rd_sn rfl (rd_sn rfl (rd_sn rfl (rd_sn rfl (rd_sn rfl H393))))))))) rfl rfl ?_
  refine s_ildn (p' := 73) rfl rfl rfl ?_
  refine s_ialz (p' := 74) (m := 1) (v := (nI 1)) rfl (rd_sn rfl (rd_ss rfl (rd_ss rfl (rd_ss rfl (rd_ss rfl (rd_ss rfl (rd_ss rfl (rd_ss rfl (rd_ss rfl H395))))))))) (by decide +kernel) rfl (by decide +kernel) rfl ?_
  refine s_ildn (p' := 75) rfl rfl rfl ?_
  refine s_con (p' := 76) rfl rfl ?_
  refine s_bz (p' := 77) (z := (nI 4294967294)) rfl rfl rfl (by decide +kernel) ?_
  refine s_bz (p' := 78) (z := (nI 0)) rfl rfl rfl (by decide +kernel) ?_
  refine s_con (p' := 79) rfl rfl ?_
  refine s_ildn (p' := 80) rfl rfl rfl ?_
  refine s_bz (p' := 81) (z := (nI 4)) rfl rfl rfl (by decide +kernel) ?_
  refine s_bz (p' := 82) (z := (nI 0)) rfl rfl rfl (by decide +kernel) ?_
  refine s_if (p' := 91) true rfl (by decide +kernel) rfl ?_
  refine s_incz (p' := 94) (w := (nI 3)) (ls' := [_, _, _]) rfl rfl rfl (by decide +kernel) rfl rfl ?_
  refine s_goto (p' := 63) rfl rfl ?_
  refine s_ildn (p' := 64) rfl rfl rfl ?_
  refine s_con (p' := 65) rfl rfl ?_
  refine s_icmp (p' := 97) true rfl (by decide +kernel) rfl ?_
  refine s_incz (p' := 100) (w := (nI 2)) (ls' := [_, _, _]) rfl rfl rfl (by decide +kernel) rfl rfl ?_
  refine s_goto (p' := 11) rfl rfl ?_
  refine s_ildn (p' := 12) rfl rfl rfl ?_
  refine s_aldn (p' := 13) rfl rfl rfl ?_
  refine s_gf (p' := 16) rfl (rd_ss rfl (rd_sn rfl (rd_sn rfl (rd_sn rfl (rd_sn rfl (rd_sn rfl (rd_sn rfl (rd_sn rfl (rd_sn rfl H393))))))))) rfl rfl ?_
  refine s_lenz (p' := 17) rfl (mj_rdA_is (rd_sn rfl (rd_ss rfl (rd_ss rfl (rd_ss rfl (rd_ss rfl (rd_ss rfl (rd_ss rfl (rd_ss rfl (rd_ss rfl H395))))))))) (by decide)) rfl rfl ?_
  refine s_icmp (p' := 20) false rfl (by decide +kernel) rfl ?_
  refine s_con (p' := 21) rfl rfl ?_
  refine s_istn (p' := 22) (ls' := [_, _, _]) rfl rfl rfl rfl ?_
  refine s_ildn (p' := 23) rfl rfl rfl ?_
  refine s_con (p' := 24) rfl rfl ?_
  refine s_icmp (p' := 27) false rfl (by decide +kernel) rfl ?_
  refine s_ildn (p' := 28) rfl rfl rfl ?_
  refine s_aldn (p' := 29) rfl rfl rfl ?_
  refine s_gf (p' := 32) rfl (rd_ss rfl (rd_sn rfl (rd_sn rfl (rd_sn rfl (rd_sn rfl (rd_sn rfl (rd_sn rfl (rd_sn rfl (rd_sn rfl H393))))))))) rfl rfl ?_
  refine s_ildn (p' := 33) rfl rfl rfl ?_
  refine s_ialz (p' := 34) (m := 2) (v := (nI 2)) rfl (rd_sn rfl (rd_ss rfl (rd_ss rfl (rd_ss rfl (rd_ss rfl (rd_ss rfl (rd_ss rfl (rd_ss rfl (rd_ss rfl H395))))))))) (by decide +kernel) rfl (by decide +kernel) rfl ?_
  refine s_con (p' := 35) rfl rfl ?_
  refine s_bz (p' := 36) (z := (nI 4294967293)) rfl rfl rfl (by decide +kernel) ?_
  refine s_bz (p' := 37) (z := (nI 0)) rfl rfl rfl (by decide +kernel) ?_
  refine s_con (p' := 38) rfl rfl ?_
  refine s_ildn (p' := 39) rfl rfl rfl ?_
  refine s_bz (p' := 40) (z := (nI 1)) rfl rfl rfl (by decide +kernel) ?_
  refine s_bz (p' := 41) (z := (nI 0)) rfl rfl rfl (by decide +kernel) ?_
  refine s_if (p' := 55) true rfl (by decide +kernel) rfl ?_
  refine s_incz (p' := 58) (w := (nI 1)) (ls' := [_, _, _]) rfl rfl rfl (by decide +kernel) rfl rfl ?_
  refine s_goto (p' := 22) rfl rfl ?_
  refine s_ildn (p' := 23) rfl rfl rfl ?_
  refine s_con (p' := 24) rfl rfl ?_
  refine s_icmp (p' := 27) false rfl (by decide +kernel) rfl ?_
  refine s_ildn (p' := 28) rfl rfl rfl ?_
  refine s_aldn (p' := 29) rfl rfl rfl ?_
  refine s_gf (p' := 32) rfl (rd_ss rfl (rd_sn rfl (rd_sn rfl (rd_sn rfl (rd_sn rfl (rd_sn rfl (rd_sn rfl (rd_sn rfl (rd_sn rfl H393))))))))) rfl rfl ?_
  refine s_ildn (p' := 33) rfl rfl rfl ?_
  refine s_ialz (p' := 34) (m := 2) (v := (nI 2)) rfl (rd_sn rfl (rd_ss rfl (rd_ss rfl (rd_ss rfl (rd_ss rfl (rd_ss rfl (rd_ss rfl (rd_ss rfl (rd_ss rfl H395))))))))) (by decide +kernel) rfl (by decide +kernel) rfl ?_
  refine s_con (p' := 35) rfl rfl ?_
  refine s_bz (p' := 36) (z := (nI 4294967293)) rfl rfl rfl (by decide +kernel) ?_
  refine s_bz (p' := 37) (z := (nI 0)) rfl rfl rfl (by decide +kernel) ?_
  refine s_con (p' := 38) rfl rfl ?_
  refine s_ildn (p' := 39) rfl rfl rfl ?_
  refine s_bz (p' := 40) (z := (nI 2)) rfl rfl rfl (by decide +kernel) ?_
  refine s_bz (p' := 41) (z := (nI 0)) rfl rfl rfl (by decide +kernel) ?_
  refine s_if (p' := 55) true rfl (by decide +kernel) rfl ?_
  refine s_incz (p' := 58) (w := (nI 2)) (ls' := [_, _, _]) rfl rfl rfl (by decide +kernel) rfl rfl ?_
  refine s_goto (p' := 22) rfl rfl ?_
  refine s_ildn (p' := 23) rfl rfl rfl ?_
  refine s_con (p' := 24) rfl rfl ?_
  refine s_icmp (p' := 27) false rfl (by decide +kernel) rfl ?_
  refine s_ildn (p' := 28) rfl rfl rfl ?_
  refine s_aldn (p' := 29) rfl rfl rfl ?_
  refine s_gf (p' := 32) rfl (rd_ss rfl (rd_sn rfl (rd_sn rfl (rd_sn rfl (rd_sn rfl (rd_sn rfl (rd_sn rfl (rd_sn rfl (rd_sn rfl H393))))))))) rfl rfl ?_
  refine s_ildn (p' := 33) rfl rfl rfl ?_
  refine s_ialz (p' := 34) (m := 2) (v := (nI 2)) rfl (rd_sn rfl (rd_ss rfl (rd_ss rfl (rd_ss rfl (rd_ss rfl (rd_ss rfl (rd_ss rfl (rd_ss rfl (rd_ss rfl H395))))))))) (by decide +kernel) rfl (by decide +kernel) rfl ?_
  refine s_con (p' := 35) rfl rfl ?_
  refine s_bz (p' := 36) (z := (nI 4294967293)) rfl rfl rfl (by decide +kernel) ?_
  refine s_bz (p' := 37) (z := (nI 0)) rfl rfl rfl (by decide +kernel) ?_
  refine s_con (p' := 38) rfl rfl ?_
  refine s_ildn (p' := 39) rfl rfl rfl ?_
  refine s_bz (p' := 40) (z := (nI 4)) rfl rfl rfl (by decide +kernel) ?_
  refine s_bz (p' := 41) (z := (nI 0)) rfl rfl rfl (by decide +kernel) ?_
  refine s_if (p' := 55) true rfl (by decide +kernel) rfl ?_
  refine s_incz (p' := 58) (w := (nI 3)) (ls' := [_, _, _]) rfl rfl rfl (by decide +kernel) rfl rfl ?_
  refine s_goto (p' := 22) rfl rfl ?_
  refine s_ildn (p' := 23) rfl rfl rfl ?_
  refine s_con (p' := 24) rfl rfl ?_
  refine s_icmp (p' := 61) true rfl (by decide +kernel) rfl ?_
  refine s_con (p' := 62) rfl rfl ?_
  refine s_istn (p' := 63) (ls' := [_, _, _]) rfl rfl rfl rfl ?_
  refine s_ildn (p' := 64) rfl rfl rfl ?_
  refine s_con (p' := 65) rfl rfl ?_
  refine s_icmp (p' := 68) false rfl (by decide +kernel) rfl ?_
  refine s_aldn (p' := 69) rfl rfl rfl ?_
  refine s_gf (p' := 72) rfl (rd_ss rfl (rd_sn rfl (rd_sn rfl (rd_sn rfl (rd_sn rfl (rd_sn rfl (rd_sn rfl (rd_sn rfl (rd_sn rfl H393))))))))) rfl rfl ?_
  refine s_ildn (p' := 73) rfl rfl rfl ?_
  refine s_ialz (p' := 74) (m := 2) (v := (nI 2)) rfl (rd_sn rfl (rd_ss rfl (rd_ss rfl (rd_ss rfl (rd_ss rfl (rd_ss rfl (rd_ss rfl (rd_ss rfl (rd_ss rfl H395))))))))) (by decide +kernel) rfl (by decide +kernel) rfl ?_
  refine s_ildn (p' := 75) rfl rfl rfl ?_
  refine s_con (p' := 76) rfl rfl ?_
  refine s_bz (p' := 77) (z := (nI 4294967293)) rfl rfl rfl (by decide +kernel) ?_
  refine s_bz (p' := 78) (z := (nI 0)) rfl rfl rfl (by decide +kernel) ?_
  refine s_con (p' := 79) rfl rfl ?_
  refine s_ildn (p' := 80) rfl rfl rfl ?_
  refine s_bz (p' := 81) (z := (nI 1)) rfl rfl rfl (by decide +kernel) ?_
  refine s_bz (p' := 82) (z := (nI 0)) rfl rfl rfl (by decide +kernel) ?_
  refine s_if (p' := 91) true rfl (by decide +kernel) rfl ?_
  refine s_incz (p' := 94) (w := (nI 1)) (ls' := [_, _, _]) rfl rfl rfl (by decide +kernel) rfl rfl ?_
  refine s_goto (p' := 63) rfl rfl ?_
  refine s_ildn (p' := 64) rfl rfl rfl ?_
  refine s_con (p' := 65) rfl rfl ?_
  refine s_icmp (p' := 68) false rfl (by decide +kernel) rfl ?_
  refine s_aldn (p' := 69) rfl rfl rfl ?_
  refine s_gf (p' := 72) rfl (rd_ss rfl (rd_sn rfl (rd_sn rfl (rd_sn rfl (rd_sn rfl (rd_sn rfl (rd_sn rfl (rd_sn rfl (rd_sn rfl H393))))))))) rfl rfl ?_
  refine s_ildn (p' := 73) rfl rfl rfl ?_
  refine s_ialz (p' := 74) (m := 2) (v := (nI 2)) rfl (rd_sn rfl (rd_ss rfl (rd_ss rfl (rd_ss rfl (rd_ss rfl (rd_ss rfl (rd_ss rfl (rd_ss rfl (rd_ss rfl H395))))))))) (by decide +kernel) rfl (by decide +kernel) rfl ?_
  refine s_ildn (p' := 75) rfl rfl rfl ?_
  refine s_con (p' := 76) rfl rfl ?_
  refine s_bz (p' := 77) (z := (nI 4294967293)) rfl rfl rfl (by decide +kernel) ?_
  refine s_bz (p' := 78) (z := (nI 0)) rfl rfl rfl (by decide +kernel) ?_
  refine s_con (p' := 79) rfl rfl ?_
  refine s_ildn (p' := 80) rfl rfl rfl ?_
  refine s_bz (p' := 81) (z := (nI 2)) rfl rfl rfl (by decide +kernel) ?_
  refine s_bz (p' := 82) (z := (nI 0)) rfl rfl rfl (by decide +kernel) ?_
  refine s_if (p' := 91) true rfl (by decide +kernel) rfl ?_
  refine s_incz (p' := 94) (w := (nI 2)) (ls' := [_, _, _]) rfl rfl rfl (by decide +kernel) rfl rfl ?_
  refine s_goto (p' := 63) rfl rfl ?_
  refine s_ildn (p' := 64) rfl rfl rfl ?_
  refine s_con (p' := 65) rfl rfl ?_
  refine s_icmp (p' := 68) false rfl (by decide +kernel) rfl ?_
  refine s_aldn (p' := 69) rfl rfl rfl ?_
  refine s_gf (p' := 72) rfl (rd_ss rfl (rd_sn rfl (rd_sn rfl (rd_sn rfl (rd_sn rfl (rd_sn rfl (rd_sn rfl (rd_sn rfl (rd_sn rfl H393))))))))) rfl rfl ?_
  refine s_ildn (p' := 73) rfl rfl rfl ?_
  refine s_ialz (p' := 74) (m := 2) (v := (nI 2)) rfl (rd_sn rfl (rd_ss rfl (rd_ss rfl (rd_ss rfl (rd_ss rfl (rd_ss rfl (rd_ss rfl (rd_ss rfl (rd_ss rfl H395))))))))) (by decide +kernel) rfl (by decide +kernel) rfl ?_
  refine s_ildn (p' := 75) rfl rfl rfl ?_
  refine s_con (p' := 76) rfl rfl ?_
  refine s_bz (p' := 77) (z := (nI 4294967293)) rfl rfl rfl (by decide +kernel) ?_
  refine s_bz (p' := 78) (z := (nI 0)) rfl rfl rfl (by decide +kernel) ?_
  refine s_con (p' := 79) rfl rfl ?_
  refine s_ildn (p' := 80) rfl rfl rfl ?_
  refine s_bz (p' := 81) (z := (nI 4)) rfl rfl rfl (by decide +kernel) ?_
  refine s_bz (p' := 82) (z := (nI 0)) rfl rfl rfl (by decide +kernel) ?_
  refine s_if (p' := 91) true rfl (by decide +kernel) rfl ?_
  refine s_incz (p' := 94) (w := (nI 3)) (ls' := [_, _, _]) rfl rfl rfl (by decide +kernel) rfl rfl ?_
  refine s_goto (p' := 63) rfl rfl ?_
  refine s_ildn (p' := 64) rfl rfl rfl ?_
  refine s_con (p' := 65) rfl rfl ?_
  refine s_icmp (p' := 97) true rfl (by decide +kernel) rfl ?_
  refine s_incz (p' := 100) (w := (nI 3)) (ls' := [_, _, _]) rfl rfl rfl (by decide +kernel) rfl rfl ?_
  refine s_goto (p' := 11) rfl rfl ?_
  refine s_ildn (p' := 12) rfl rfl rfl ?_
  refine s_aldn (p' := 13) rfl rfl rfl ?_
  refine s_gf (p' := 16) rfl (rd_ss rfl (rd_sn rfl (rd_sn rfl (rd_sn rfl (rd_sn rfl (rd_sn rfl (rd_sn rfl (rd_sn rfl (rd_sn rfl H393))))))))) rfl rfl ?_
  refine s_lenz (p' := 17) rfl (mj_rdA_is (rd_sn rfl (rd_ss rfl (rd_ss rfl (rd_ss rfl (rd_ss rfl (rd_ss rfl (rd_ss rfl (rd_ss rfl (rd_ss rfl H395))))))))) (by decide)) rfl rfl ?_
  refine s_icmp (p' := 20) false rfl (by decide +kernel) rfl ?_
  refine s_con (p' := 21) rfl rfl ?_
  refine s_istn (p' := 22) (ls' := [_, _, _]) rfl rfl rfl rfl ?_
  refine s_ildn (p' := 23) rfl rfl rfl ?_
  refine s_con (p' := 24) rfl rfl ?_
  refine s_icmp (p' := 27) false rfl (by decide +kernel) rfl ?_
  refine s_ildn (p' := 28) rfl rfl rfl ?_
  refine s_aldn (p' := 29) rfl rfl rfl ?_
  refine s_gf (p' := 32) rfl (rd_ss rfl (rd_sn rfl (rd_sn rfl (rd_sn rfl (rd_sn rfl (rd_sn rfl (rd_sn rfl (rd_sn rfl (rd_sn rfl H393))))))))) rfl rfl ?_
  refine s_ildn (p' := 33) rfl rfl rfl ?_
  refine s_ialz (p' := 34) (m := 3) (v := (nI 3)) rfl (rd_sn rfl (rd_ss rfl (rd_ss rfl (rd_ss rfl (rd_ss rfl (rd_ss rfl (rd_ss rfl (rd_ss rfl (rd_ss rfl H395))))))))) (by decide +kernel) rfl (by decide +kernel) rfl ?_
  refine s_con (p' := 35) rfl rfl ?_
  refine s_bz (p' := 36) (z := (nI 4294967292)) rfl rfl rfl (by decide +kernel) ?_
  refine s_bz (p' := 37) (z := (nI 0)) rfl rfl rfl (by decide +kernel) ?_
  refine s_con (p' := 38) rfl rfl ?_
  refine s_ildn (p' := 39) rfl rfl rfl ?_
  refine s_bz (p' := 40) (z := (nI 1)) rfl rfl rfl (by decide +kernel) ?_
  refine s_bz (p' := 41) (z := (nI 0)) rfl rfl rfl (by decide +kernel) ?_
  refine s_if (p' := 55) true rfl (by decide +kernel) rfl ?_
  refine s_incz (p' := 58) (w := (nI 1)) (ls' := [_, _, _]) rfl rfl rfl (by decide +kernel) rfl rfl ?_
  refine s_goto (p' := 22) rfl rfl ?_
  refine s_ildn (p' := 23) rfl rfl rfl ?_
  refine s_con (p' := 24) rfl rfl ?_
  refine s_icmp (p' := 27) false rfl (by decide +kernel) rfl ?_
  refine s_ildn (p' := 28) rfl rfl rfl ?_
  refine s_aldn (p' := 29) rfl rfl rfl ?_
  refine s_gf (p' := 32) rfl (rd_ss rfl (rd_sn rfl (rd_sn rfl (rd_sn rfl (rd_sn rfl (rd_sn rfl (rd_sn rfl (rd_sn rfl (rd_sn rfl H393))))))))) rfl rfl ?_
  refine s_ildn (p' := 33) rfl rfl rfl ?_
  refine s_ialz (p' := 34) (m := 3) (v := (nI 3)) rfl (rd_sn rfl (rd_ss rfl (rd_ss rfl (rd_ss rfl (rd_ss rfl (rd_ss rfl (rd_ss rfl (rd_ss rfl (rd_ss rfl H395))))))))) (by decide +kernel) rfl (by decide +kernel) rfl ?_
  refine s_con (p' := 35) rfl rfl ?_
  refine s_bz (p' := 36) (z := (nI 4294967292)) rfl rfl rfl (by decide +kernel) ?_
  refine s_bz (p' := 37) (z := (nI 0)) rfl rfl rfl (by decide +kernel) ?_
  refine s_con (p' := 38) rfl rfl ?_
  refine s_ildn (p' := 39) rfl rfl rfl ?_
  refine s_bz (p' := 40) (z := (nI 2)) rfl rfl rfl (by decide +kernel) ?_
  refine s_bz (p' := 41) (z := (nI 0)) rfl rfl rfl (by decide +kernel) ?_
  refine s_if (p' := 55) true rfl (by decide +kernel) rfl ?_
  refine s_incz (p' := 58) (w := (nI 2)) (ls' := [_, _, _]) rfl rfl rfl (by decide +kernel) rfl rfl ?_
  refine s_goto (p' := 22) rfl rfl ?_
  refine s_ildn (p' := 23) rfl rfl rfl ?_
  refine s_con (p' := 24) rfl rfl ?_
  refine s_icmp (p' := 27) false rfl (by decide +kernel) rfl ?_
  refine s_ildn (p' := 28) rfl rfl rfl ?_
  refine s_aldn (p' := 29) rfl rfl rfl ?_
  refine s_gf (p' := 32) rfl (rd_ss rfl (rd_sn rfl (rd_sn rfl (rd_sn rfl (rd_sn rfl (rd_sn rfl (rd_sn rfl (rd_sn rfl (rd_sn rfl H393))))))))) rfl rfl ?_
  refine s_ildn (p' := 33) rfl rfl rfl ?_
  refine s_ialz (p' := 34) (m := 3) (v := (nI 3)) rfl (rd_sn rfl (rd_ss rfl (rd_ss rfl (rd_ss rfl (rd_ss rfl (rd_ss rfl (rd_ss rfl (rd_ss rfl (rd_ss rfl H395))))))))) (by decide +kernel) rfl (by decide +kernel) rfl ?_
  refine s_con (p' := 35) rfl rfl ?_
  refine s_bz (p' := 36) (z := (nI 4294967292)) rfl rfl rfl (by decide +kernel) ?_
  refine s_bz (p' := 37) (z := (nI 0)) rfl rfl rfl (by decide +kernel) ?_
  refine s_con (p' := 38) rfl rfl ?_
  refine s_ildn (p' := 39) rfl rfl rfl ?_
  refine s_bz (p' := 40) (z := (nI 4)) rfl rfl rfl (by decide +kernel) ?_
  refine s_bz (p' := 41) (z := (nI 0)) rfl rfl rfl (by decide +kernel) ?_
  refine s_if (p' := 55) true rfl (by decide +kernel) rfl ?_
  refine s_incz (p' := 58) (w := (nI 3)) (ls' := [_, _, _]) rfl rfl rfl (by decide +kernel) rfl rfl ?_
  refine s_goto (p' := 22) rfl rfl ?_
  refine s_ildn (p' := 23) rfl rfl rfl ?_
  refine s_con (p' := 24) rfl rfl ?_
  refine s_icmp (p' := 61) true rfl (by decide +kernel) rfl ?_
  refine s_con (p' := 62) rfl rfl ?_
  refine s_istn (p' := 63) (ls' := [_, _, _]) rfl rfl rfl rfl ?_
  refine s_ildn (p' := 64) rfl rfl rfl ?_
  refine s_con (p' := 65) rfl rfl ?_
  refine s_icmp (p' := 68) false rfl (by decide +kernel) rfl ?_
  refine s_aldn (p' := 69) rfl rfl rfl ?_
  refine s_gf (p' := 72) rfl (rd_ss rfl (rd_sn rfl (rd_sn rfl (rd_sn rfl (rd_sn rfl (rd_sn rfl (rd_sn rfl (rd_sn rfl (rd_sn rfl H393))))))))) rfl rfl ?_
  refine s_ildn (p' := 73) rfl rfl rfl ?_
  refine s_ialz (p' := 74) (m := 3) (v := (nI 3)) rfl (rd_sn rfl (rd_ss rfl (rd_ss rfl (rd_ss rfl (rd_ss rfl (rd_ss rfl (rd_ss rfl (rd_ss rfl (rd_ss rfl H395))))))))) (by decide +kernel) rfl (by decide +kernel) rfl ?_
  refine s_ildn (p' := 75) rfl rfl rfl ?_
  refine s_con (p' := 76) rfl rfl ?_
  refine s_bz (p' := 77) (z := (nI 4294967292)) rfl rfl rfl (by decide +kernel) ?_
  refine s_bz (p' := 78) (z := (nI 0)) rfl rfl rfl (by decide +kernel) ?_
  refine s_con (p' := 79) rfl rfl ?_
  refine s_ildn (p' := 80) rfl rfl rfl ?_
  refine s_bz (p' := 81) (z := (nI 1)) rfl rfl rfl (by decide +kernel) ?_
  refine s_bz (p' := 82) (z := (nI 0)) rfl rfl rfl (by decide +kernel) ?_
  refine s_if (p' := 91) true rfl (by decide +kernel) rfl ?_
  refine s_incz (p' := 94) (w := (nI 1)) (ls' := [_, _, _]) rfl rfl rfl (by decide +kernel) rfl rfl ?_
  refine s_goto (p' := 63) rfl rfl ?_
  refine s_ildn (p' := 64) rfl rfl rfl ?_
  refine s_con (p' := 65) rfl rfl ?_
  refine s_icmp (p' := 68) false rfl (by decide +kernel) rfl ?_
  refine s_aldn (p' := 69) rfl rfl rfl ?_
  refine s_gf (p' := 72) rfl (rd_ss rfl (rd_sn rfl (rd_sn rfl (rd_sn rfl (rd_sn rfl (rd_sn rfl (rd_sn rfl (rd_sn rfl (rd_sn rfl H393))))))))) rfl rfl ?_
  refine s_ildn (p' := 73) rfl rfl rfl ?_
  refine s_ialz (p' := 74) (m := 3) (v := (nI 3)) rfl (rd_sn rfl (rd_ss rfl (rd_ss rfl (rd_ss rfl (rd_ss rfl (rd_ss rfl (rd_ss rfl (rd_ss rfl (rd_ss rfl H395))))))))) (by decide +kernel) rfl (by decide +kernel) rfl ?_
  refine s_ildn (p' := 75) rfl rfl rfl ?_
  refine s_con (p' := 76) rfl rfl ?_
  refine s_bz (p' := 77) (z := (nI 4294967292)) rfl rfl rfl (by decide +kernel) ?_
  refine s_bz (p' := 78) (z := (nI 0)) rfl rfl rfl (by decide +kernel) ?_
  refine s_con (p' := 79) rfl rfl ?_
  refine s_ildn (p' := 80) rfl rfl rfl ?_
  refine s_bz (p' := 81) (z := (nI 2)) rfl rfl rfl (by decide +kernel) ?_
  refine s_bz (p' := 82) (z := (nI 0)) rfl rfl rfl (by decide +kernel) ?_
  refine s_if (p' := 91) true rfl (by decide +kernel) rfl ?_
  refine s_incz (p' := 94) (w := (nI 2)) (ls' := [_, _, _]) rfl rfl rfl (by decide +kernel) rfl rfl ?_
  refine s_goto (p' := 63) rfl rfl ?_
  refine s_ildn (p' := 64) rfl rfl rfl ?_
  refine s_con (p' := 65) rfl rfl ?_
  refine s_icmp (p' := 68) false rfl (by decide +kernel) rfl ?_
  refine s_aldn (p' := 69) rfl rfl rfl ?_
  refine s_gf (p' := 72) rfl (rd_ss rfl (rd_sn rfl (rd_sn rfl (rd_sn rfl (rd_sn rfl (rd_sn rfl (rd_sn rfl (rd_sn rfl (rd_sn rfl H393))))))))) rfl rfl ?_
  refine s_ildn (p' := 73) rfl rfl rfl ?_
  refine s_ialz (p' := 74) (m := 3) (v := (nI 3)) rfl (rd_sn rfl (rd_ss rfl (rd_ss rfl (rd_ss rfl (rd_ss rfl (rd_ss rfl (rd_ss rfl (rd_ss rfl (rd_ss rfl H395))))))))) (by decide +kernel) rfl (by decide +kernel) rfl ?_
  refine s_ildn (p' := 75) rfl rfl rfl ?_
  refine s_con (p' := 76) rfl rfl ?_
  refine s_bz (p' := 77) (z := (nI 4294967292)) rfl rfl rfl (by decide +kernel) ?_
  refine s_bz (p' := 78) (z := (nI 0)) rfl rfl rfl (by decide +kernel) ?_
  refine s_con (p' := 79) rfl rfl ?_
  refine s_ildn (p' := 80) rfl rfl rfl ?_
  refine s_bz (p' := 81) (z := (nI 4)) rfl rfl rfl (by decide +kernel) ?_
  refine s_bz (p' := 82) (z := (nI 0)) rfl rfl rfl (by decide +kernel) ?_
  refine s_if (p' := 91) true rfl (by decide +kernel) rfl ?_
  refine s_incz (p' := 94) (w := (nI 3)) (ls' := [_, _, _]) rfl rfl rfl (by decide +kernel) rfl rfl ?_
  refine s_goto (p' := 63) rfl rfl ?_
  refine s_ildn (p' := 64) rfl rfl rfl ?_
  refine s_con (p' := 65) rfl rfl ?_
  refine s_icmp (p' := 97) true rfl (by decide +kernel) rfl ?_
  refine s_incz (p' := 100) (w := (nI 4)) (ls' := [_, _, _]) rfl rfl rfl (by decide +kernel) rfl rfl ?_
  refine s_goto (p' := 11) rfl rfl ?_
  refine s_ildn (p' := 12) rfl rfl rfl ?_
  refine s_aldn (p' := 13) rfl rfl rfl ?_
  refine s_gf (p' := 16) rfl (rd_ss rfl (rd_sn rfl (rd_sn rfl (rd_sn rfl (rd_sn rfl (rd_sn rfl (rd_sn rfl (rd_sn rfl (rd_sn rfl H393))))))))) rfl rfl ?_
  refine s_lenz (p' := 17) rfl (mj_rdA_is (rd_sn rfl (rd_ss rfl (rd_ss rfl (rd_ss rfl (rd_ss rfl (rd_ss rfl (rd_ss rfl (rd_ss rfl (rd_ss rfl H395))))))))) (by decide)) rfl rfl ?_
  refine s_icmp (p' := 20) false rfl (by decide +kernel) rfl ?_
  refine s_con (p' := 21) rfl rfl ?_
  refine s_istn (p' := 22) (ls' := [_, _, _]) rfl rfl rfl rfl ?_
  refine s_ildn (p' := 23) rfl rfl rfl ?_
  refine s_con (p' := 24) rfl rfl ?_
  refine s_icmp (p' := 27) false rfl (by decide +kernel) rfl ?_
  refine s_ildn (p' := 28) rfl rfl rfl ?_
  refine s_aldn (p' := 29) rfl rfl rfl ?_
  refine s_gf (p' := 32) rfl (rd_ss rfl (rd_sn rfl (rd_sn rfl (rd_sn rfl (rd_sn rfl (rd_sn rfl (rd_sn rfl (rd_sn rfl (rd_sn rfl H393))))))))) rfl rfl ?_
  refine s_ildn (p' := 33) rfl rfl rfl ?_
  refine s_ialz (p' := 34) (m := 4) (v := (nI 4)) rfl (rd_sn rfl (rd_ss rfl (rd_ss rfl (rd_ss rfl (rd_ss rfl (rd_ss rfl (rd_ss rfl (rd_ss rfl (rd_ss rfl H395))))))))) (by decide +kernel) rfl (by decide +kernel) rfl ?_
  refine s_con (p' := 35) rfl rfl ?_
  refine s_bz (p' := 36) (z := (nI 4294967291)) rfl rfl rfl (by decide +kernel) ?_
  refine s_bz (p' := 37) (z := (nI 0)) rfl rfl rfl (by decide +kernel) ?_
  refine s_con (p' := 38) rfl rfl ?_
  refine s_ildn (p' := 39) rfl rfl rfl ?_
  refine s_bz (p' := 40) (z := (nI 1)) rfl rfl rfl (by decide +kernel) ?_
  refine s_bz (p' := 41) (z := (nI 0)) rfl rfl rfl (by decide +kernel) ?_
  refine s_if (p' := 55) true rfl (by decide +kernel) rfl ?_
  refine s_incz (p' := 58) (w := (nI 1)) (ls' := [_, _, _]) rfl rfl rfl (by decide +kernel) rfl rfl ?_
  refine s_goto (p' := 22) rfl rfl ?_
  refine s_ildn (p' := 23) rfl rfl rfl ?_
  refine s_con (p' := 24) rfl rfl ?_
  refine s_icmp (p' := 27) false rfl (by decide +kernel) rfl ?_
  refine s_ildn (p' := 28) rfl rfl rfl ?_
  refine s_aldn (p' := 29) rfl rfl rfl ?_
  refine s_gf (p' := 32) rfl (rd_ss rfl (rd_sn rfl (rd_sn rfl (rd_sn rfl (rd_sn rfl (rd_sn rfl (rd_sn rfl (rd_sn rfl (rd_sn rfl H393))))))))) rfl rfl ?_
  refine s_ildn (p' := 33) rfl rfl rfl ?_
  refine s_ialz (p' := 34) (m := 4) (v := (nI 4)) rfl (rd_sn rfl (rd_ss rfl (rd_ss rfl (rd_ss rfl (rd_ss rfl (rd_ss rfl (rd_ss rfl (rd_ss rfl (rd_ss rfl H395))))))))) (by decide +kernel) rfl (by decide +kernel) rfl ?_
  refine s_con (p' := 35) rfl rfl ?_
  refine s_bz (p' := 36) (z := (nI 4294967291)) rfl rfl rfl (by decide +kernel) ?_
  refine s_bz (p' := 37) (z := (nI 0)) rfl rfl rfl (by decide +kernel) ?_
  refine s_con (p' := 38) rfl rfl ?_
  refine s_ildn (p' := 39) rfl rfl rfl ?_
  refine s_bz (p' := 40) (z := (nI 2)) rfl rfl rfl (by decide +kernel) ?_
  refine s_bz (p' := 41) (z := (nI 0)) rfl rfl rfl (by decide +kernel) ?_
  refine s_if (p' := 55) true rfl (by decide +kernel) rfl ?_
  refine s_incz (p' := 58) (w := (nI 2)) (ls' := [_, _, _]) rfl rfl rfl (by decide +kernel) rfl rfl ?_
  refine s_goto (p' := 22) rfl rfl ?_
  refine s_ildn (p' := 23) rfl rfl rfl ?_
  refine s_con (p' := 24) rfl rfl ?_
  refine s_icmp (p' := 27) false rfl (by decide +kernel) rfl ?_
  refine s_ildn (p' := 28) rfl rfl rfl ?_
  refine s_aldn (p' := 29) rfl rfl rfl ?_
  refine s_gf (p' := 32) rfl (rd_ss rfl (rd_sn rfl (rd_sn rfl (rd_sn rfl (rd_sn rfl (rd_sn rfl (rd_sn rfl (rd_sn rfl (rd_sn rfl H393))))))))) rfl rfl ?_
  refine s_ildn (p' := 33) rfl rfl rfl ?_
  refine s_ialz (p' := 34) (m := 4) (v := (nI 4)) rfl (rd_sn rfl (rd_ss rfl (rd_ss rfl (rd_ss rfl (rd_ss rfl (rd_ss rfl (rd_ss rfl (rd_ss rfl (rd_ss rfl H395))))))))) (by decide +kernel) rfl (by decide +kernel) rfl ?_
  refine s_con (p' := 35) rfl rfl ?_
  refine s_bz (p' := 36) (z := (nI 4294967291)) rfl rfl rfl (by decide +kernel) ?_
  refine s_bz (p' := 37) (z := (nI 0)) rfl rfl rfl (by decide +kernel) ?_
  refine s_con (p' := 38) rfl rfl ?_
  refine s_ildn (p' := 39) rfl rfl rfl ?_
  refine s_bz (p' := 40) (z := (nI 4)) rfl rfl rfl (by decide +kernel) ?_
  refine s_bz (p' := 41) (z := (nI 0)) rfl rfl rfl (by decide +kernel) ?_
  refine s_if (p' := 55) true rfl (by decide +kernel) rfl ?_
  refine s_incz (p' := 58) (w := (nI 3)) (ls' := [_, _, _]) rfl rfl rfl (by decide +kernel) rfl rfl ?_
  refine s_goto (p' := 22) rfl rfl ?_
  refine s_ildn (p' := 23) rfl rfl rfl ?_
  refine s_con (p' := 24) rfl rfl ?_
  refine s_icmp (p' := 61) true rfl (by decide +kernel) rfl ?_
  refine s_con (p' := 62) rfl rfl ?_
  refine s_istn (p' := 63) (ls' := [_, _, _]) rfl rfl rfl rfl ?_
  refine s_ildn (p' := 64) rfl rfl rfl ?_
  refine s_con (p' := 65) rfl rfl ?_
  refine s_icmp (p' := 68) false rfl (by decide +kernel) rfl ?_
  refine s_aldn (p' := 69) rfl rfl rfl ?_
  refine s_gf (p' := 72) rfl (rd_ss rfl (rd_sn rfl (rd_sn rfl (rd_sn rfl (rd_sn rfl (rd_sn rfl (rd_sn rfl (rd_sn rfl (rd_sn rfl H393))))))))) rfl rfl ?_
  refine s_ildn (p' := 73) rfl rfl rfl ?_
  refine s_ialz (p' := 74) (m := 4) (v := (nI 4)) rfl (rd_sn rfl (rd_ss rfl (rd_ss rfl (rd_ss rfl (rd_ss rfl (rd_ss rfl (rd_ss rfl (rd_ss rfl (rd_ss rfl H395))))))))) (by decide +kernel) rfl (by decide +kernel) rfl ?_
  refine s_ildn (p' := 75) rfl rfl rfl ?_
  refine s_con (p' := 76) rfl rfl ?_
  refine s_bz (p' := 77) (z := (nI 4294967291)) rfl rfl rfl (by decide +kernel) ?_
  refine s_bz (p' := 78) (z := (nI 0)) rfl rfl rfl (by decide +kernel) ?_
  refine s_con (p' := 79) rfl rfl ?_
  refine s_ildn (p' := 80) rfl rfl rfl ?_
  refine s_bz (p' := 81) (z := (nI 1)) rfl rfl rfl (by decide +kernel) ?_
  refine s_bz (p' := 82) (z := (nI 0)) rfl rfl rfl (by decide +kernel) ?_
  refine s_if (p' := 91) true rfl (by decide +kernel) rfl ?_
  refine s_incz (p' := 94) (w := (nI 1)) (ls' := [_, _, _]) rfl rfl rfl (by decide +kernel) rfl rfl ?_
  refine s_goto (p' := 63) rfl rfl ?_
  refine s_ildn (p' := 64) rfl rfl rfl ?_
  refine s_con (p' := 65) rfl rfl ?_
  refine s_icmp (p' := 68) false rfl (by decide +kernel) rfl ?_
  refine s_aldn (p' := 69) rfl rfl rfl ?_
  refine s_gf (p' := 72) rfl (rd_ss rfl (rd_sn rfl (rd_sn rfl (rd_sn rfl (rd_sn rfl (rd_sn rfl (rd_sn rfl (rd_sn rfl (rd_sn rfl H393))))))))) rfl rfl ?_
  refine s_ildn (p' := 73) rfl rfl rfl ?_
  refine s_ialz (p' := 74) (m := 4) (v := (nI 4)) rfl (rd_sn rfl (rd_ss rfl (rd_ss rfl (rd_ss rfl (rd_ss rfl (rd_ss rfl (rd_ss rfl (rd_ss rfl (rd_ss rfl H395))))))))) (by decide +kernel) rfl (by decide +kernel) rfl ?_
  refine s_ildn (p' := 75) rfl rfl rfl ?_
  refine s_con (p' := 76) rfl rfl ?_
  refine s_bz (p' := 77) (z := (nI 4294967291)) rfl rfl rfl (by decide +kernel) ?_
  refine s_bz (p' := 78) (z := (nI 0)) rfl rfl rfl (by decide +kernel) ?_
  refine s_con (p' := 79) rfl rfl ?_
  refine s_ildn (p' := 80) rfl rfl rfl ?_
  refine s_bz (p' := 81) (z := (nI 2)) rfl rfl rfl (by decide +kernel) ?_
  refine s_bz (p' := 82) (z := (nI 0)) rfl rfl rfl (by decide +kernel) ?_
  refine s_if (p' := 91) true rfl (by decide +kernel) rfl ?_
  refine s_incz (p' := 94) (w := (nI 2)) (ls' := [_, _, _]) rfl rfl rfl (by decide +kernel) rfl rfl ?_
  refine s_goto (p' := 63) rfl rfl ?_
  refine s_ildn (p' := 64) rfl rfl rfl ?_
  refine s_con (p' := 65) rfl rfl ?_
  refine s_icmp (p' := 68) false rfl (by decide +kernel) rfl ?_
  refine s_aldn (p' := 69) rfl rfl rfl ?_
  refine s_gf (p' := 72) rfl (rd_ss rfl (rd_sn rfl (rd_sn rfl (rd_sn rfl (rd_sn rfl (rd_sn rfl (rd_sn rfl (rd_sn rfl (rd_sn rfl H393))))))))) rfl rfl ?_
  refine s_ildn (p' := 73) rfl rfl rfl ?_
  refine s_ialz (p' := 74) (m := 4) (v := (nI 4)) rfl (rd_sn rfl (rd_ss rfl (rd_ss rfl (rd_ss rfl (rd_ss rfl (rd_ss rfl (rd_ss rfl (rd_ss rfl (rd_ss rfl H395))))))))) (by decide +kernel) rfl (by decide +kernel) rfl ?_
  refine s_ildn (p' := 75) rfl rfl rfl ?_
  refine s_con (p' := 76) rfl rfl ?_
  refine s_bz (p' := 77) (z := (nI 4294967291)) rfl rfl rfl (by decide +kernel) ?_
  refine s_bz (p' := 78) (z := (nI 0)) rfl rfl rfl (by decide +kernel) ?_
  refine s_con (p' := 79) rfl rfl ?_
  refine s_ildn (p' := 80) rfl rfl rfl ?_
  refine s_bz (p' := 81) (z := (nI 4)) rfl rfl rfl (by decide +kernel) ?_
  refine s_bz (p' := 82) (z := (nI 0)) rfl rfl rfl (by decide +kernel) ?_
  refine s_if (p' := 91) true rfl (by decide +kernel) rfl ?_
  refine s_incz (p' := 94) (w := (nI 3)) (ls' := [_, _, _]) rfl rfl rfl (by decide +kernel) rfl rfl ?_
  refine s_goto (p' := 63) rfl rfl ?_
  refine s_ildn (p' := 64) rfl rfl rfl ?_
  refine s_con (p' := 65) rfl rfl ?_
  refine s_icmp (p' := 97) true rfl (by decide +kernel) rfl ?_
  refine s_incz (p' := 100) (w := (nI 5)) (ls' := [_, _, _]) rfl rfl rfl (by decide +kernel) rfl rfl ?_
  refine s_goto (p' := 11) rfl rfl ?_
  refine s_ildn (p' := 12) rfl rfl rfl ?_
  refine s_aldn (p' := 13) rfl rfl rfl ?_
  refine s_gf (p' := 16) rfl (rd_ss rfl (rd_sn rfl (rd_sn rfl (rd_sn rfl (rd_sn rfl (rd_sn rfl (rd_sn rfl (rd_sn rfl (rd_sn rfl H393))))))))) rfl rfl ?_
  refine s_lenz (p' := 17) rfl (mj_rdA_is (rd_sn rfl (rd_ss rfl (rd_ss rfl (rd_ss rfl (rd_ss rfl (rd_ss rfl (rd_ss rfl (rd_ss rfl (rd_ss rfl H395))))))))) (by decide)) rfl rfl ?_
  refine s_icmp (p' := 20) false rfl (by decide +kernel) rfl ?_
  refine s_con (p' := 21) rfl rfl ?_
  refine s_istn (p' := 22) (ls' := [_, _, _]) rfl rfl rfl rfl ?_
  refine s_ildn (p' := 23) rfl rfl rfl ?_
  refine s_con (p' := 24) rfl rfl ?_
  refine s_icmp (p' := 27) false rfl (by decide +kernel) rfl ?_
  refine s_ildn (p' := 28) rfl rfl rfl ?_
  refine s_aldn (p' := 29) rfl rfl rfl ?_
  refine s_gf (p' := 32) rfl (rd_ss rfl (rd_sn rfl (rd_sn rfl (rd_sn rfl (rd_sn rfl (rd_sn rfl (rd_sn rfl (rd_sn rfl (rd_sn rfl H393))))))))) rfl rfl ?_
  refine s_ildn (p' := 33) rfl rfl rfl ?_
  refine s_ialz (p' := 34) (m := 5) (v := (nI 5)) rfl (rd_sn rfl (rd_ss rfl (rd_ss rfl (rd_ss rfl (rd_ss rfl (rd_ss rfl (rd_ss rfl (rd_ss rfl (rd_ss rfl H395))))))))) (by decide +kernel) rfl (by decide +kernel) rfl ?_
  refine s_con (p' := 35) rfl rfl ?_
  refine s_bz (p' := 36) (z := (nI 4294967290)) rfl rfl rfl (by decide +kernel) ?_
  refine s_bz (p' := 37) (z := (nI 0)) rfl rfl rfl (by decide +kernel) ?_
  refine s_con (p' := 38) rfl rfl ?_
  refine s_ildn (p' := 39) rfl rfl rfl ?_
  refine s_bz (p' := 40) (z := (nI 1)) rfl rfl rfl (by decide +kernel) ?_
  refine s_bz (p' := 41) (z := (nI 0)) rfl rfl rfl (by decide +kernel) ?_
  refine s_if (p' := 55) true rfl (by decide +kernel) rfl ?_
  refine s_incz (p' := 58) (w := (nI 1)) (ls' := [_, _, _]) rfl rfl rfl (by decide +kernel) rfl rfl ?_
  refine s_goto (p' := 22) rfl rfl ?_
  refine s_ildn (p' := 23) rfl rfl rfl ?_
  refine s_con (p' := 24) rfl rfl ?_
  refine s_icmp (p' := 27) false rfl (by decide +kernel) rfl ?_
  refine s_ildn (p' := 28) rfl rfl rfl ?_
  refine s_aldn (p' := 29) rfl rfl rfl ?_
  refine s_gf (p' := 32) rfl (rd_ss rfl (rd_sn rfl (rd_sn rfl (rd_sn rfl (rd_sn rfl (rd_sn rfl (rd_sn rfl (rd_sn rfl (rd_sn rfl H393))))))))) rfl rfl ?_
  refine s_ildn (p' := 33) rfl rfl rfl ?_
  refine s_ialz (p' := 34) (m := 5) (v := (nI 5)) rfl (rd_sn rfl (rd_ss rfl (rd_ss rfl (rd_ss rfl (rd_ss rfl (rd_ss rfl (rd_ss rfl (rd_ss rfl (rd_ss rfl H395))))))))) (by decide +kernel) rfl (by decide +kernel) rfl ?_
  refine s_con (p' := 35) rfl rfl ?_
  refine s_bz (p' := 36) (z := (nI 4294967290)) rfl rfl rfl (by decide +kernel) ?_
  refine s_bz (p' := 37) (z := (nI 0)) rfl rfl rfl (by decide +kernel) ?_
  refine s_con (p' := 38) rfl rfl ?_
  refine s_ildn (p' := 39) rfl rfl rfl ?_
  refine s_bz (p' := 40) (z := (nI 2)) rfl rfl rfl (by decide +kernel) ?_
  refine s_bz (p' := 41) (z := (nI 0)) rfl rfl rfl (by decide +kernel) ?_
  refine s_if (p' := 55) true rfl (by decide +kernel) rfl ?_
  refine s_incz (p' := 58) (w := (nI 2)) (ls' := [_, _, _]) rfl rfl rfl (by decide +kernel) rfl rfl ?_
  refine s_goto (p' := 22) rfl rfl ?_
  refine s_ildn (p' := 23) rfl rfl rfl ?_
  refine s_con (p' := 24) rfl rfl ?_
  refine s_icmp (p' := 27) false rfl (by decide +kernel) rfl ?_
  refine s_ildn (p' := 28) rfl rfl rfl ?_
  refine s_aldn (p' := 29) rfl rfl rfl ?_
  refine s_gf (p' := 32) rfl (rd_ss rfl (rd_sn rfl (rd_sn rfl (rd_sn rfl (rd_sn rfl (rd_sn rfl (rd_sn rfl (rd_sn rfl (rd_sn rfl H393))))))))) rfl rfl ?_
  refine s_ildn (p' := 33) rfl rfl rfl ?_
  refine s_ialz (p' := 34) (m := 5) (v := (nI 5)) rfl (rd_sn rfl (rd_ss rfl (rd_ss rfl (rd_ss rfl (rd_ss rfl (rd_ss rfl (rd_ss rfl (rd_ss rfl (rd_ss rfl H395))))))))) (by decide +kernel) rfl (by decide +kernel) rfl ?_
  refine s_con (p' := 35) rfl rfl ?_
  refine s_bz (p' := 36) (z := (nI 4294967290)) rfl rfl rfl (by decide +kernel) ?_
  refine s_bz (p' := 37) (z := (nI 0)) rfl rfl rfl (by decide +kernel) ?_
  refine s_con (p' := 38) rfl rfl ?_
  refine s_ildn (p' := 39) rfl rfl rfl ?_
  refine s_bz (p' := 40) (z := (nI 4)) rfl rfl rfl (by decide +kernel) ?_
  refine s_bz (p' := 41) (z := (nI 0)) rfl rfl rfl (by decide +kernel) ?_
  refine s_if (p' := 55) true rfl (by decide +kernel) rfl ?_
  refine s_incz (p' := 58) (w := (nI 3)) (ls' := [_, _, _]) rfl rfl rfl (by decide +kernel) rfl rfl ?_
  refine s_goto (p' := 22) rfl rfl ?_
  refine s_ildn (p' := 23) rfl rfl rfl ?_
  refine s_con (p' := 24) rfl rfl ?_
  refine s_icmp (p' := 61) true rfl (by decide +kernel) rfl ?_
  refine s_con (p' := 62) rfl rfl ?_
  refine s_istn (p' := 63) (ls' := [_, _, _]) rfl rfl rfl rfl ?_
  refine s_ildn (p' := 64) rfl rfl rfl ?_
  refine s_con (p' := 65) rfl rfl ?_
  refine s_icmp (p' := 68) false rfl (by decide +kernel) rfl ?_
  refine s_aldn (p' := 69) rfl rfl rfl ?_
  refine s_gf (p' := 72) rfl (rd_ss rfl (rd_sn rfl (rd_sn rfl (rd_sn rfl (rd_sn rfl (rd_sn rfl (rd_sn rfl (rd_sn rfl (rd_sn rfl H393))))))))) rfl rfl ?_
  refine s_ildn (p' := 73) rfl rfl rfl ?_
  refine s_ialz (p' := 74) (m := 5) (v := (nI 5)) rfl (rd_sn rfl (rd_ss rfl (rd_ss rfl (rd_ss rfl (rd_ss rfl (rd_ss rfl (rd_ss rfl (rd_ss rfl (rd_ss rfl H395))))))))) (by decide +kernel) rfl (by decide +kernel) rfl ?_
  refine s_ildn (p' := 75) rfl rfl rfl ?_
  refine s_con (p' := 76) rfl rfl ?_
  refine s_bz (p' := 77) (z := (nI 4294967290)) rfl rfl rfl (by decide +kernel) ?_
  refine s_bz (p' := 78) (z := (nI 0)) rfl rfl rfl (by decide +kernel) ?_
  refine s_con (p' := 79) rfl rfl ?_
  refine s_ildn (p' := 80) rfl rfl rfl ?_
  refine s_bz (p' := 81) (z := (nI 1)) rfl rfl rfl (by decide +kernel) ?_
  refine s_bz (p' := 82) (z := (nI 0)) rfl rfl rfl (by decide +kernel) ?_
  refine s_if (p' := 91) true rfl (by decide +kernel) rfl ?_
  refine s_incz (p' := 94) (w := (nI 1)) (ls' := [_, _, _]) rfl rfl rfl (by decide +kernel) rfl rfl ?_
  refine s_goto (p' := 63) rfl rfl ?_
  refine s_ildn (p' := 64) rfl rfl rfl ?_
  refine s_con (p' := 65) rfl rfl ?_
  refine s_icmp (p' := 68) false rfl (by decide +kernel) rfl ?_
  refine s_aldn (p' := 69) rfl rfl rfl ?_
  refine s_gf (p' := 72) rfl (rd_ss rfl (rd_sn rfl (rd_sn rfl (rd_sn rfl (rd_sn rfl (rd_sn rfl (rd_sn rfl (rd_sn rfl (rd_sn rfl H393))))))))) rfl rfl ?_
  refine s_ildn (p' := 73) rfl rfl rfl ?_
  refine s_ialz (p' := 74) (m := 5) (v := (nI 5)) rfl (rd_sn rfl (rd_ss rfl (rd_ss rfl (rd_ss rfl (rd_ss rfl (rd_ss rfl (rd_ss rfl (rd_ss rfl (rd_ss rfl H395))))))))) (by decide +kernel) rfl (by decide +kernel) rfl ?_
  refine s_ildn (p' := 75) rfl rfl rfl ?_
  refine s_con (p' := 76) rfl rfl ?_
  refine s_bz (p' := 77) (z := (nI 4294967290)) rfl rfl rfl (by decide +kernel) ?_
  refine s_bz (p' := 78) (z := (nI 0)) rfl rfl rfl (by decide +kernel) ?_
  refine s_con (p' := 79) rfl rfl ?_
  refine s_ildn (p' := 80) rfl rfl rfl ?_
  refine s_bz (p' := 81) (z := (nI 2)) rfl rfl rfl (by decide +kernel) ?_
  refine s_bz (p' := 82) (z := (nI 0)) rfl rfl rfl (by decide +kernel) ?_
  refine s_if (p' := 91) true rfl (by decide +kernel) rfl ?_
  refine s_incz (p' := 94) (w := (nI 2)) (ls' := [_, _, _]) rfl rfl rfl (by decide +kernel) rfl rfl ?_
  refine s_goto (p' := 63) rfl rfl ?_
  refine s_ildn (p' := 64) rfl rfl rfl ?_
  refine s_con (p' := 65) rfl rfl ?_
  refine s_icmp (p' := 68) false rfl (by decide +kernel) rfl ?_
  refine s_aldn (p' := 69) rfl rfl rfl ?_
  refine s_gf (p' := 72) rfl (rd_ss rfl (rd_sn rfl (rd_sn rfl (rd_sn rfl (rd_sn rfl (rd_sn rfl (rd_sn rfl (rd_sn rfl (rd_sn rfl H393))))))))) rfl rfl ?_
  refine s_ildn (p' := 73) rfl rfl rfl ?_
  refine s_ialz (p' := 74) (m := 5) (v := (nI 5)) rfl (rd_sn rfl (rd_ss rfl (rd_ss rfl (rd_ss rfl (rd_ss rfl (rd_ss rfl (rd_ss rfl (rd_ss rfl (rd_ss rfl H395))))))))) (by decide +kernel) rfl (by decide +kernel) rfl ?_
  refine s_ildn (p' := 75) rfl rfl rfl ?_
  refine s_con (p' := 76) rfl rfl ?_
  refine s_bz (p' := 77) (z := (nI 4294967290)) rfl rfl rfl (by decide +kernel) ?_
  refine s_bz (p' := 78) (z := (nI 0)) rfl rfl rfl (by decide +kernel) ?_
  refine s_con (p' := 79) rfl rfl ?_
  refine s_ildn (p' := 80) rfl rfl rfl ?_
  refine s_bz (p' := 81) (z := (nI 4)) rfl rfl rfl (by decide +kernel) ?_
  refine s_bz (p' := 82) (z := (nI 0)) rfl rfl rfl (by decide +kernel) ?_
  refine s_if (p' := 91) true rfl (by decide +kernel) rfl ?_
  refine s_incz (p' := 94) (w := (nI 3)) (ls' := [_, _, _]) rfl rfl rfl (by decide +kernel) rfl rfl ?_
  refine s_goto (p' := 63) rfl rfl ?_
  refine s_ildn (p' := 64) rfl rfl rfl ?_
  refine s_con (p' := 65) rfl rfl ?_
  refine s_icmp (p' := 97) true rfl (by decide +kernel) rfl ?_
  refine s_incz (p' := 100) (w := (nI 6)) (ls' := [_, _, _]) rfl rfl rfl (by decide +kernel) rfl rfl ?_
  refine s_goto (p' := 11) rfl rfl ?_
  refine s_ildn (p' := 12) rfl rfl rfl ?_
  refine s_aldn (p' := 13) rfl rfl rfl ?_
  refine s_gf (p' := 16) rfl (rd_ss rfl (rd_sn rfl (rd_sn rfl (rd_sn rfl (rd_sn rfl (rd_sn rfl (rd_sn rfl (rd_sn rfl (rd_sn rfl H393))))))))) rfl rfl ?_
  refine s_lenz (p' := 17) rfl (mj_rdA_is (rd_sn rfl (rd_ss rfl (rd_ss rfl (rd_ss rfl (rd_ss rfl (rd_ss rfl (rd_ss rfl (rd_ss rfl (rd_ss rfl H395))))))))) (by decide)) rfl rfl ?_
  refine s_icmp (p' := 20) false rfl (by decide +kernel) rfl ?_
  refine s_con (p' := 21) rfl rfl ?_
  refine s_istn (p' := 22) (ls' := [_, _, _]) rfl rfl rfl rfl ?_
  refine s_ildn (p' := 23) rfl rfl rfl ?_
  refine s_con (p' := 24) rfl rfl ?_
  refine s_icmp (p' := 27) false rfl (by decide +kernel) rfl ?_
  refine s_ildn (p' := 28) rfl rfl rfl ?_
  refine s_aldn (p' := 29) rfl rfl rfl ?_
  refine s_gf (p' := 32) rfl (rd_ss rfl (rd_sn rfl (rd_sn rfl (rd_sn rfl (rd_sn rfl (rd_sn rfl (rd_sn rfl (rd_sn rfl (rd_sn rfl H393))))))))) rfl rfl ?_
  refine s_ildn (p' := 33) rfl rfl rfl ?_
  refine s_ialz (p' := 34) (m := 6) (v := (nI 6)) rfl (rd_sn rfl (rd_ss rfl (rd_ss rfl (rd_ss rfl (rd_ss rfl (rd_ss rfl (rd_ss rfl (rd_ss rfl (rd_ss rfl H395))))))))) (by decide +kernel) rfl (by decide +kernel) rfl ?_
  refine s_con (p' := 35) rfl rfl ?_
  refine s_bz (p' := 36) (z := (nI 4294967289)) rfl rfl rfl (by decide +kernel) ?_
  refine s_bz (p' := 37) (z := (nI 0)) rfl rfl rfl (by decide +kernel) ?_
  refine s_con (p' := 38) rfl rfl ?_
  refine s_ildn (p' := 39) rfl rfl rfl ?_
  refine s_bz (p' := 40) (z := (nI 1)) rfl rfl rfl (by decide +kernel) ?_
  refine s_bz (p' := 41) (z := (nI 0)) rfl rfl rfl (by decide +kernel) ?_
  refine s_if (p' := 55) true rfl (by decide +kernel) rfl ?_
  refine s_incz (p' := 58) (w := (nI 1)) (ls' := [_, _, _]) rfl rfl rfl (by decide +kernel) rfl rfl ?_
  refine s_goto (p' := 22) rfl rfl ?_
  refine s_ildn (p' := 23) rfl rfl rfl ?_
  refine s_con (p' := 24) rfl rfl ?_
  refine s_icmp (p' := 27) false rfl (by decide +kernel) rfl ?_
  refine s_ildn (p' := 28) rfl rfl rfl ?_
  refine s_aldn (p' := 29) rfl rfl rfl ?_
  refine s_gf (p' := 32) rfl (rd_ss rfl (rd_sn rfl (rd_sn rfl (rd_sn rfl (rd_sn rfl (rd_sn rfl (rd_sn rfl (rd_sn rfl (rd_sn rfl H393))))))))) rfl rfl ?_
  refine s_ildn (p' := 33) rfl rfl rfl ?_
  refine s_ialz (p' := 34) (m := 6) (v := (nI 6)) rfl (rd_sn rfl (rd_ss rfl (rd_ss rfl (rd_ss rfl (rd_ss rfl (rd_ss rfl (rd_ss rfl (rd_ss rfl (rd_ss rfl H395))))))))) (by decide +kernel) rfl (by decide +kernel) rfl ?_
  refine s_con (p' := 35) rfl rfl ?_
  refine s_bz (p' := 36) (z := (nI 4294967289)) rfl rfl rfl (by decide +kernel) ?_
  refine s_bz (p' := 37) (z := (nI 0)) rfl rfl rfl (by decide +kernel) ?_
  refine s_con (p' := 38) rfl rfl ?_
  refine s_ildn (p' := 39) rfl rfl rfl ?_
  refine s_bz (p' := 40) (z := (nI 2)) rfl rfl rfl (by decide +kernel) ?_
  refine s_bz (p' := 41) (z := (nI 0)) rfl rfl rfl (by decide +kernel) ?_
  refine s_if (p' := 55) true rfl (by decide +kernel) rfl ?_
  refine s_incz (p' := 58) (w := (nI 2)) (ls' := [_, _, _]) rfl rfl rfl (by decide +kernel) rfl rfl ?_
  refine s_goto (p' := 22) rfl rfl ?_
  refine s_ildn (p' := 23) rfl rfl rfl ?_
  refine s_con (p' := 24) rfl rfl ?_
  refine s_icmp (p' := 27) false rfl (by decide +kernel) rfl ?_
  refine s_ildn (p' := 28) rfl rfl rfl ?_
  refine s_aldn (p' := 29) rfl rfl rfl ?_
  refine s_gf (p' := 32) rfl (rd_ss rfl (rd_sn rfl (rd_sn rfl (rd_sn rfl (rd_sn rfl (rd_sn rfl (rd_sn rfl (rd_sn rfl (rd_sn rfl H393))))))))) rfl rfl ?_
  refine s_ildn (p' := 33) rfl rfl rfl ?_
  refine s_ialz (p' := 34) (m := 6) (v := (nI 6)) rfl (rd_sn rfl (rd_ss rfl (rd_ss rfl (rd_ss rfl (rd_ss rfl (rd_ss rfl (rd_ss rfl (rd_ss rfl (rd_ss rfl H395))))))))) (by decide +kernel) rfl (by decide +kernel) rfl ?_
  refine s_con (p' := 35) rfl rfl ?_
  refine s_bz (p' := 36) (z := (nI 4294967289)) rfl rfl rfl (by decide +kernel) ?_
  refine s_bz (p' := 37) (z := (nI 0)) rfl rfl rfl (by decide +kernel) ?_
  refine s_con (p' := 38) rfl rfl ?_
  refine s_ildn (p' := 39) rfl rfl rfl ?_
  refine s_bz (p' := 40) (z := (nI 4)) rfl rfl rfl (by decide +kernel) ?_
  refine s_bz (p' := 41) (z := (nI 0)) rfl rfl rfl (by decide +kernel) ?_
  refine s_if (p' := 55) true rfl (by decide +kernel) rfl ?_
  refine s_incz (p' := 58) (w := (nI 3)) (ls' := [_, _, _]) rfl rfl rfl (by decide +kernel) rfl rfl ?_
  refine s_goto (p' := 22) rfl rfl ?_
  refine s_ildn (p' := 23) rfl rfl rfl ?_
  refine s_con (p' := 24) rfl rfl ?_
  refine s_icmp (p' := 61) true rfl (by decide +kernel) rfl ?_
  refine s_con (p' := 62) rfl rfl ?_
  refine s_istn (p' := 63) (ls' := [_, _, _]) rfl rfl rfl rfl ?_
  refine s_ildn (p' := 64) rfl rfl rfl ?_
  refine s_con (p' := 65) rfl rfl ?_
  refine s_icmp (p' := 68) false rfl (by decide +kernel) rfl ?_
  refine s_aldn (p' := 69) rfl rfl rfl ?_
  refine s_gf (p' := 72) rfl (rd_ss rfl (rd_sn rfl (rd_sn rfl (rd_sn rfl (rd_sn rfl (rd_sn rfl (rd_sn rfl (rd_sn rfl (rd_sn rfl H393))))))))) rfl rfl ?_
  refine s_ildn (p' := 73) rfl rfl rfl ?_
  refine s_ialz (p' := 74) (m := 6) (v := (nI 6)) rfl (rd_sn rfl (rd_ss rfl (rd_ss rfl (rd_ss rfl (rd_ss rfl (rd_ss rfl (rd_ss rfl (rd_ss rfl (rd_ss rfl H395))))))))) (by decide +kernel) rfl (by decide +kernel) rfl ?_
  refine s_ildn (p' := 75) rfl rfl rfl ?_
  refine s_con (p' := 76) rfl rfl ?_
  refine s_bz (p' := 77) (z := (nI 4294967289)) rfl rfl rfl (by decide +kernel) ?_
  refine s_bz (p' := 78) (z := (nI 0)) rfl rfl rfl (by decide +kernel) ?_
  refine s_con (p' := 79) rfl rfl ?_
  refine s_ildn (p' := 80) rfl rfl rfl ?_
  refine s_bz (p' := 81) (z := (nI 1)) rfl rfl rfl (by decide +kernel) ?_
  refine s_bz (p' := 82) (z := (nI 0)) rfl rfl rfl (by decide +kernel) ?_
  refine s_if (p' := 91) true rfl (by decide +kernel) rfl ?_
  refine s_incz (p' := 94) (w := (nI 1)) (ls' := [_, _, _]) rfl rfl rfl (by decide +kernel) rfl rfl ?_
  refine s_goto (p' := 63) rfl rfl ?_
  refine s_ildn (p' := 64) rfl rfl rfl ?_
  refine s_con (p' := 65) rfl rfl ?_
  refine s_icmp (p' := 68) false rfl (by decide +kernel) rfl ?_
  refine s_aldn (p' := 69) rfl rfl rfl ?_
  refine s_gf (p' := 72) rfl (rd_ss rfl (rd_sn rfl (rd_sn rfl (rd_sn rfl (rd_sn rfl (rd_sn rfl (rd_sn rfl (rd_sn rfl (rd_sn rfl H393))))))))) rfl rfl ?_
  refine s_ildn (p' := 73) rfl rfl rfl ?_
  refine s_ialz (p' := 74) (m := 6) (v := (nI 6)) rfl (rd_sn rfl (rd_ss rfl (rd_ss rfl (rd_ss rfl (rd_ss rfl (rd_ss rfl (rd_ss rfl (rd_ss rfl (rd_ss rfl H395))))))))) (by decide +kernel) rfl (by decide +kernel) rfl ?_
  refine s_ildn (p' := 75) rfl rfl rfl ?_
  refine s_con (p' := 76) rfl rfl ?_
  refine s_bz (p' := 77) (z := (nI 4294967289)) rfl rfl rfl (by decide +kernel) ?_
  refine s_bz (p' := 78) (z := (nI 0)) rfl rfl rfl (by decide +kernel) ?_
  refine s_con (p' := 79) rfl rfl ?_
  refine s_ildn (p' := 80) rfl rfl rfl ?_
  refine s_bz (p' := 81) (z := (nI 2)) rfl rfl rfl (by decide +kernel) ?_
  refine s_bz (p' := 82) (z := (nI 0)) rfl rfl rfl (by decide +kernel) ?_
  refine s_if (p' := 91) true rfl (by decide +kernel) rfl ?_
  refine s_incz (p' := 94) (w := (nI 2)) (ls' := [_, _, _]) rfl rfl rfl (by decide +kernel) rfl rfl ?_
  refine s_goto (p' := 63) rfl rfl ?_
  refine s_ildn (p' := 64) rfl rfl rfl ?_
  refine s_con (p' := 65) rfl rfl ?_
  refine s_icmp (p' := 68) false rfl (by decide +kernel) rfl ?_
  refine s_aldn (p' := 69) rfl rfl rfl ?_
  refine s_gf (p' := 72) rfl (rd_ss rfl (rd_sn rfl (rd_sn rfl (rd_sn rfl (rd_sn rfl (rd_sn rfl (rd_sn rfl (rd_sn rfl (rd_sn rfl H393))))))))) rfl rfl ?_
  refine s_ildn (p' := 73) rfl rfl rfl ?_
  refine s_ialz (p' := 74) (m := 6) (v := (nI 6)) rfl (rd_sn rfl (rd_ss rfl (rd_ss rfl (rd_ss rfl (rd_ss rfl (rd_ss rfl (rd_ss rfl (rd_ss rfl (rd_ss rfl H395))))))))) (by decide +kernel) rfl (by decide +kernel) rfl ?_
  refine s_ildn (p' := 75) rfl rfl rfl ?_
  refine s_con (p' := 76) rfl rfl ?_
  refine s_bz (p' := 77) (z := (nI 4294967289)) rfl rfl rfl (by decide +kernel) ?_
  refine s_bz (p' := 78) (z := (nI 0)) rfl rfl rfl (by decide +kernel) ?_
  refine s_con (p' := 79) rfl rfl ?_
  refine s_ildn (p' := 80) rfl rfl rfl ?_
  refine s_bz (p' := 81) (z := (nI 4)) rfl rfl rfl (by decide +kernel) ?_
  refine s_bz (p' := 82) (z := (nI 0)) rfl rfl rfl (by decide +kernel) ?_
  refine s_if (p' := 91) true rfl (by decide +kernel) rfl ?_
  refine s_incz (p' := 94) (w := (nI 3)) (ls' := [_, _, _]) rfl rfl rfl (by decide +kernel) rfl rfl ?_
  refine s_goto (p' := 63) rfl rfl ?_
  refine s_ildn (p' := 64) rfl rfl rfl ?_
  refine s_con (p' := 65) rfl rfl ?_
  refine s_icmp (p' := 97) true rfl (by decide +kernel) rfl ?_
  refine s_incz (p' := 100) (w := (nI 7)) (ls' := [_, _, _]) rfl rfl rfl (by decide +kernel) rfl rfl ?_
  refine s_goto (p' := 11) rfl rfl ?_
  refine s_ildn (p' := 12) rfl rfl rfl ?_
  refine s_aldn (p' := 13) rfl rfl rfl ?_
  refine s_gf (p' := 16) rfl (rd_ss rfl (rd_sn rfl (rd_sn rfl (rd_sn rfl (rd_sn rfl (rd_sn rfl (rd_sn rfl (rd_sn rfl (rd_sn rfl H393))))))))) rfl rfl ?_
  refine s_lenz (p' := 17) rfl (mj_rdA_is (rd_sn rfl (rd_ss rfl (rd_ss rfl (rd_ss rfl (rd_ss rfl (rd_ss rfl (rd_ss rfl (rd_ss rfl (rd_ss rfl H395))))))))) (by decide)) rfl rfl ?_
  refine s_icmp (p' := 20) false rfl (by decide +kernel) rfl ?_
  refine s_con (p' := 21) rfl rfl ?_
  refine s_istn (p' := 22) (ls' := [_, _, _]) rfl rfl rfl rfl ?_
  refine s_ildn (p' := 23) rfl rfl rfl ?_
  refine s_con (p' := 24) rfl rfl ?_
  refine s_icmp (p' := 27) false rfl (by decide +kernel) rfl ?_
  refine s_ildn (p' := 28) rfl rfl rfl ?_
  refine s_aldn (p' := 29) rfl rfl rfl ?_
  refine s_gf (p' := 32) rfl (rd_ss rfl (rd_sn rfl (rd_sn rfl (rd_sn rfl (rd_sn rfl (rd_sn rfl (rd_sn rfl (rd_sn rfl (rd_sn rfl H393))))))))) rfl rfl ?_
  refine s_ildn (p' := 33) rfl rfl rfl ?_
  refine s_ialz (p' := 34) (m := 7) (v := (nI 7)) rfl (rd_sn rfl (rd_ss rfl (rd_ss rfl (rd_ss rfl (rd_ss rfl (rd_ss rfl (rd_ss rfl (rd_ss rfl (rd_ss rfl H395))))))))) (by decide +kernel) rfl (by decide +kernel) rfl ?_
  refine s_con (p' := 35) rfl rfl ?_
  refine s_bz (p' := 36) (z := (nI 4294967288)) rfl rfl rfl (by decide +kernel) ?_
  refine s_bz (p' := 37) (z := (nI 0)) rfl rfl rfl (by decide +kernel) ?_
  refine s_con (p' := 38) rfl rfl ?_
  refine s_ildn (p' := 39) rfl rfl rfl ?_
  refine s_bz (p' := 40) (z := (nI 1)) rfl rfl rfl (by decide +kernel) ?_
  refine s_bz (p' := 41) (z := (nI 0)) rfl rfl rfl (by decide +kernel) ?_
  refine s_if (p' := 55) true rfl (by decide +kernel) rfl ?_
  refine s_incz (p' := 58) (w := (nI 1)) (ls' := [_, _, _]) rfl rfl rfl (by decide +kernel) rfl rfl ?_
  refine s_goto (p' := 22) rfl rfl ?_
  refine s_ildn (p' := 23) rfl rfl rfl ?_
  refine s_con (p' := 24) rfl rfl ?_
  refine s_icmp (p' := 27) false rfl (by decide +kernel) rfl ?_
  refine s_ildn (p' := 28) rfl rfl rfl ?_
  refine s_aldn (p' := 29) rfl rfl rfl ?_
  refine s_gf (p' := 32) rfl (rd_ss rfl (rd_sn rfl (rd_sn rfl (rd_sn rfl (rd_sn rfl (rd_sn rfl (rd_sn rfl (rd_sn rfl (rd_sn rfl H393))))))))) rfl rfl ?_
  refine s_ildn (p' := 33) rfl rfl rfl ?_
  refine s_ialz (p' := 34) (m := 7) (v := (nI 7)) rfl (rd_sn rfl (rd_ss rfl (rd_ss rfl (rd_ss rfl (rd_ss rfl (rd_ss rfl (rd_ss rfl (rd_ss rfl (rd_ss rfl H395))))))))) (by decide +kernel) rfl (by decide +kernel) rfl ?_
  refine s_con (p' := 35) rfl rfl ?_
  refine s_bz (p' := 36) (z := (nI 4294967288)) rfl rfl rfl (by decide +kernel) ?_
  refine s_bz (p' := 37) (z := (nI 0)) rfl rfl rfl (by decide +kernel) ?_
  refine s_con (p' := 38) rfl rfl ?_
  refine s_ildn (p' := 39) rfl rfl rfl ?_
  refine s_bz (p' := 40) (z := (nI 2)) rfl rfl rfl (by decide +kernel) ?_
  refine s_bz (p' := 41) (z := (nI 0)) rfl rfl rfl (by decide +kernel) ?_
  refine s_if (p' := 55) true rfl (by decide +kernel) rfl ?_
  refine s_incz (p' := 58) (w := (nI 2)) (ls' := [_, _, _]) rfl rfl rfl (by decide +kernel) rfl rfl ?_
  refine s_goto (p' := 22) rfl rfl ?_
  refine s_ildn (p' := 23) rfl rfl rfl ?_
  refine s_con (p' := 24) rfl rfl ?_
  refine s_icmp (p' := 27) false rfl (by decide +kernel) rfl ?_
  refine s_ildn (p' := 28) rfl rfl rfl ?_
  refine s_aldn (p' := 29) rfl rfl rfl ?_
  refine s_gf (p' := 32) rfl (rd_ss rfl (rd_sn rfl (rd_sn rfl (rd_sn rfl (rd_sn rfl (rd_sn rfl (rd_sn rfl (rd_sn rfl (rd_sn rfl H393))))))))) rfl rfl ?_
  refine s_ildn (p' := 33) rfl rfl rfl ?_
  refine s_ialz (p' := 34) (m := 7) (v := (nI 7)) rfl (rd_sn rfl (rd_ss rfl (rd_ss rfl (rd_ss rfl (rd_ss rfl (rd_ss rfl (rd_ss rfl (rd_ss rfl (rd_ss rfl H395))))))))) (by decide +kernel) rfl (by decide +kernel) rfl ?_
  refine s_con (p' := 35) rfl rfl ?_
  refine s_bz (p' := 36) (z := (nI 4294967288)) rfl rfl rfl (by decide +kernel) ?_
  refine s_bz (p' := 37) (z := (nI 0)) rfl rfl rfl (by decide +kernel) ?_
  refine s_con (p' := 38) rfl rfl ?_
  refine s_ildn (p' := 39) rfl rfl rfl ?_
  refine s_bz (p' := 40) (z := (nI 4)) rfl rfl rfl (by decide +kernel) ?_
  refine s_bz (p' := 41) (z := (nI 0)) rfl rfl rfl (by decide +kernel) ?_
  refine s_if (p' := 55) true rfl (by decide +kernel) rfl ?_
  refine s_incz (p' := 58) (w := (nI 3)) (ls' := [_, _, _]) rfl rfl rfl (by decide +kernel) rfl rfl ?_
  refine s_goto (p' := 22) rfl rfl ?_
  refine s_ildn (p' := 23) rfl rfl rfl ?_
  refine s_con (p' := 24) rfl rfl ?_
  refine s_icmp (p' := 61) true rfl (by decide +kernel) rfl ?_
  refine s_con (p' := 62) rfl rfl ?_
  refine s_istn (p' := 63) (ls' := [_, _, _]) rfl rfl rfl rfl ?_
  refine s_ildn (p' := 64) rfl rfl rfl ?_
  refine s_con (p' := 65) rfl rfl ?_
  refine s_icmp (p' := 68) false rfl (by decide +kernel) rfl ?_
  refine s_aldn (p' := 69) rfl rfl rfl ?_
  refine s_gf (p' := 72) rfl (rd_ss rfl (rd_sn rfl (rd_sn rfl (rd_sn rfl (rd_sn rfl (rd_sn rfl (rd_sn rfl (rd_sn rfl (rd_sn rfl H393))))))))) rfl rfl ?_
  refine s_ildn (p' := 73) rfl rfl rfl ?_
  refine s_ialz (p' := 74) (m := 7) (v := (nI 7)) rfl (rd_sn rfl (rd_ss rfl (rd_ss rfl (rd_ss rfl (rd_ss rfl (rd_ss rfl (rd_ss rfl (rd_ss rfl (rd_ss rfl H395))))))))) (by decide +kernel) rfl (by decide +kernel) rfl ?_
  refine s_ildn (p' := 75) rfl rfl rfl ?_
  refine s_con (p' := 76) rfl rfl ?_
  refine s_bz (p' := 77) (z := (nI 4294967288)) rfl rfl rfl (by decide +kernel) ?_
  refine s_bz (p' := 78) (z := (nI 0)) rfl rfl rfl (by decide +kernel) ?_
  refine s_con (p' := 79) rfl rfl ?_
  refine s_ildn (p' := 80) rfl rfl rfl ?_
  refine s_bz (p' := 81) (z := (nI 1)) rfl rfl rfl (by decide +kernel) ?_
  refine s_bz (p' := 82) (z := (nI 0)) rfl rfl rfl (by decide +kernel) ?_
  refine s_if (p' := 91) true rfl (by decide +kernel) rfl ?_
  refine s_incz (p' := 94) (w := (nI 1)) (ls' := [_, _, _]) rfl rfl rfl (by decide +kernel) rfl rfl ?_
  refine s_goto (p' := 63) rfl rfl ?_
  refine s_ildn (p' := 64) rfl rfl rfl ?_
  refine s_con (p' := 65) rfl rfl ?_
  refine s_icmp (p' := 68) false rfl (by decide +kernel) rfl ?_
  refine s_aldn (p' := 69) rfl rfl rfl ?_
  refine s_gf (p' := 72) rfl (rd_ss rfl (rd_sn rfl (rd_sn rfl (rd_sn rfl (rd_sn rfl (rd_sn rfl (rd_sn rfl (rd_sn rfl (rd_sn rfl H393))))))))) rfl rfl ?_
  refine s_ildn (p' := 73) rfl rfl rfl ?_
  refine s_ialz (p' := 74) (m := 7) (v := (nI 7)) rfl (rd_sn rfl (rd_ss rfl (rd_ss rfl (rd_ss rfl (rd_ss rfl (rd_ss rfl (rd_ss rfl (rd_ss rfl (rd_ss rfl H395))))))))) (by decide +kernel) rfl (by decide +kernel) rfl ?_
  refine s_ildn (p' := 75) rfl rfl rfl ?_
  refine s_con (p' := 76) rfl rfl ?_
  refine s_bz (p' := 77) (z := (nI 4294967288)) rfl rfl rfl (by decide +kernel) ?_
  refine s_bz (p' := 78) (z := (nI 0)) rfl rfl rfl (by decide +kernel) ?_
  refine s_con (p' := 79) rfl rfl ?_
  refine s_ildn (p' := 80) rfl rfl rfl ?_
  refine s_bz (p' := 81) (z := (nI 2)) rfl rfl rfl (by decide +kernel) ?_
  refine s_bz (p' := 82) (z := (nI 0)) rfl rfl rfl (by decide +kernel) ?_
  refine s_if (p' := 91) true rfl (by decide +kernel) rfl ?_
  refine s_incz (p' := 94) (w := (nI 2)) (ls' := [_, _, _]) rfl rfl rfl (by decide +kernel) rfl rfl ?_
  refine s_goto (p' := 63) rfl rfl ?_
  refine s_ildn (p' := 64) rfl rfl rfl ?_
  refine s_con (p' := 65) rfl rfl ?_
  refine s_icmp (p' := 68) false rfl (by decide +kernel) rfl ?_
  refine s_aldn (p' := 69) rfl rfl rfl ?_
  refine s_gf (p' := 72) rfl (rd_ss rfl (rd_sn rfl (rd_sn rfl (rd_sn rfl (rd_sn rfl (rd_sn rfl (rd_sn rfl (rd_sn rfl (rd_sn rfl H393))))))))) rfl rfl ?_
  refine s_ildn (p' := 73) rfl rfl rfl ?_
  refine s_ialz (p' := 74) (m := 7) (v := (nI 7)) rfl (rd_sn rfl (rd_ss rfl (rd_ss rfl (rd_ss rfl (rd_ss rfl (rd_ss rfl (rd_ss rfl (rd_ss rfl (rd_ss rfl H395))))))))) (by decide +kernel) rfl (by decide +kernel) rfl ?_
  refine s_ildn (p' := 75) rfl rfl rfl ?_
  refine s_con (p' := 76) rfl rfl ?_
  refine s_bz (p' := 77) (z := (nI 4294967288)) rfl rfl rfl (by decide +kernel) ?_
  refine s_bz (p' := 78) (z := (nI 0)) rfl rfl rfl (by decide +kernel) ?_
  refine s_con (p' := 79) rfl rfl ?_
  refine s_ildn (p' := 80) rfl rfl rfl ?_
  refine s_bz (p' := 81) (z := (nI 4)) rfl rfl rfl (by decide +kernel) ?_
  refine s_bz (p' := 82) (z := (nI 0)) rfl rfl rfl (by decide +kernel) ?_
  refine s_if (p' := 91) true rfl (by decide +kernel) rfl ?_
  refine s_incz (p' := 94) (w := (nI 3)) (ls' := [_, _, _]) rfl rfl rfl (by decide +kernel) rfl rfl ?_
  refine s_goto (p' := 63) rfl rfl ?_
  refine s_ildn (p' := 64) rfl rfl rfl ?_
  refine s_con (p' := 65) rfl rfl ?_
  refine s_icmp (p' := 97) true rfl (by decide +kernel) rfl ?_
  refine s_incz (p' := 100) (w := (nI 8)) (ls' := [_, _, _]) rfl rfl rfl (by decide +kernel) rfl rfl ?_
  refine s_goto (p' := 11) rfl rfl ?_
  refine s_ildn (p' := 12) rfl rfl rfl ?_
  refine s_aldn (p' := 13) rfl rfl rfl ?_
  refine s_gf (p' := 16) rfl (rd_ss rfl (rd_sn rfl (rd_sn rfl (rd_sn rfl (rd_sn rfl (rd_sn rfl (rd_sn rfl (rd_sn rfl (rd_sn rfl H393))))))))) rfl rfl ?_
  refine s_lenz (p' := 17) rfl (mj_rdA_is (rd_sn rfl (rd_ss rfl (rd_ss rfl (rd_ss rfl (rd_ss rfl (rd_ss rfl (rd_ss rfl (rd_ss rfl (rd_ss rfl H395))))))))) (by decide)) rfl rfl ?_
  refine s_icmp (p' := 103) true rfl (by decide +kernel) rfl ?_
  refine s_aldn (p' := 104) rfl rfl rfl ?_
  refine s_gf (p' := 107) rfl (rd_ss rfl (rd_sn rfl (rd_sn rfl (rd_sn rfl (rd_sn rfl (rd_sn rfl (rd_sn rfl (rd_sn rfl (rd_sn rfl H393))))))))) rfl rfl ?_
  refine c_iret rfl rfl ?_
  refine k_iret rfl rfl ?_
  refine l_aldn (p' := 2085) rfl rfl rfl rfl ?_
  refine l_call (p' := 2088) (kc := 99) (ls0 := [_]) rfl rfl rfl rfl rfl rfl (mj_rcv_is (rd_sn rfl (rd_sn rfl (rd_sn rfl (rd_sn rfl (rd_sn rfl (rd_sn rfl (rd_sn rfl (rd_sn rfl (rd_sn rfl H400)))))))))) rfl rfl rfl ?_
  refine s_aldn (p' := 1) rfl rfl rfl ?_
  refine s_con (p' := 2) rfl rfl ?_
  refine s_pfz (p' := 5) (fs' := [_, _, _, _, _, _, _, _, _, _, _]) rfl rfl (rd_sn rfl (rd_sn rfl (rd_sn rfl (rd_sn rfl (rd_sn rfl (rd_sn rfl (rd_sn rfl (rd_sn rfl (rd_sn rfl H400))))))))) rfl rfl rfl rfl ?_
  refine s_aldn (p' := 6) rfl rfl rfl ?_
  refine c_call (p' := 9) (kc := 98) (ls0 := [_, _, _, _, _, _, _, _]) rfl rfl rfl rfl rfl (mj_rcv_is (rd_ss rfl (rd_sn rfl (rd_sn rfl (rd_sn rfl (rd_sn rfl (rd_sn rfl (rd_sn rfl (rd_sn rfl (rd_sn rfl (rd_sn rfl H400))))))))))) rfl rfl rfl ?_
  refine s_bip (p' := 2) rfl rfl ?_
  refine s_naz (p' := 4) (a := 414) (n := 8) rfl (len_s (len_s (len_s (len_s (len_s (len_s (len_s (len_s (len_s (len_s HL)))))))))) rfl rfl ?_
  refine s_astn (p' := 5) (ls' := [_, _, _, _, _, _, _, _]) rfl rfl rfl rfl ?_
  refine s_con (p' := 6) rfl rfl ?_
  refine s_istn (p' := 7) (ls' := [_, _, _, _, _, _, _, _]) rfl rfl rfl rfl ?_
  refine s_ildn (p' := 8) rfl rfl rfl ?_
  refine s_bip (p' := 10) rfl rfl ?_
  refine s_icmp (p' := 13) false rfl (by decide +kernel) rfl ?_
  refine s_aldn (p' := 14) rfl rfl rfl ?_
  refine s_ildn (p' := 15) rfl rfl rfl ?_
  refine s_aldn (p' := 16) rfl rfl rfl ?_
  refine s_ildn (p' := 17) rfl rfl rfl ?_
  refine c_call (p' := 20) (kc := 97) (ls0 := [_, _, _, _, _]) rfl rfl rfl rfl rfl (mj_rcv_is (rd_app (rd_ss rfl (rd_sn rfl (rd_sn rfl (rd_sn rfl (rd_sn rfl (rd_sn rfl (rd_sn rfl (rd_sn rfl (rd_sn rfl (rd_sn rfl H400)))))))))))) rfl rfl rfl ?_
  refine s_ildn (p' := 1) rfl rfl rfl ?_
  refine s_istn (p' := 2) (ls' := [_, _, _, _, _]) rfl rfl rfl rfl ?_
  refine s_aldn (p' := 3) rfl rfl rfl ?_
  refine s_gf (p' := 6) rfl (rd_app (rd_ss rfl (rd_sn rfl (rd_sn rfl (rd_sn rfl (rd_sn rfl (rd_sn rfl (rd_sn rfl (rd_sn rfl (rd_sn rfl (rd_sn rfl H400))))))))))) rfl rfl ?_
  refine c_call (p' := 11) (kc := 96) (ls0 := [_]) rfl rfl rfl rfl rfl (mj_rcv_is (rd_app (rd_sn rfl (rd_sn rfl (rd_sn rfl (rd_sn rfl (rd_sn rfl (rd_sn rfl (rd_sn rfl (rd_sn rfl (rd_sn rfl (rd_sn rfl H410)))))))))))) rfl rfl rfl ?_
  refine s_newz (p' := 3) (a := 415) rfl (len_a (len_s (len_s (len_s (len_s (len_s (len_s (len_s (len_s (len_s (len_s HL)))))))))) rfl) rfl rfl ?_
  refine s_dupr (p' := 4) rfl rfl ?_
  refine s_aldn (p' := 5) rfl rfl rfl ?_
  refine c_call (p' := 8) (kc := 95) (ls0 := [_, _]) rfl rfl rfl rfl rfl (mj_rcv_is (rd_nw rfl (len_a (len_s (len_s (len_s (len_s (len_s (len_s (len_s (len_s (len_s (len_s HL)))))))))) rfl))) rfl rfl rfl ?_
  refine s_aldn (p' := 1) rfl rfl rfl ?_
  refine s_aldn (p' := 2) rfl rfl rfl ?_
  refine s_pfz (p' := 5) (fs' := [_, _, _, _]) rfl rfl (rd_nw rfl (len_a (len_s (len_s (len_s (len_s (len_s (len_s (len_s (len_s (len_s (len_s HL)))))))))) rfl)) rfl rfl rfl rfl ?_
  refine s_aldn (p' := 6) rfl rfl rfl ?_
  refine s_primN (p' := 9) (q := 3) rfl rfl rfl rfl rfl rfl rfl rfl ?_
  refine s_aldn (p' := 10) rfl rfl rfl ?_
  refine s_con (p' := 11) rfl rfl ?_
  refine s_pfz (p' := 14) (fs' := [_, _, _, _]) rfl rfl (rd_ss rfl (rd_nw rfl (len_a (len_s (len_s (len_s (len_s (len_s (len_s (len_s (len_s (len_s (len_s HL)))))))))) rfl))) rfl rfl rfl rfl ?_
  refine s_aldn (p' := 15) rfl rfl rfl ?_
  refine s_aldn (p' := 16) rfl rfl rfl ?_
  refine s_gf (p' := 19) rfl (rd_ss rfl (rd_ss rfl (rd_nw rfl (len_a (len_s (len_s (len_s (len_s (len_s (len_s (len_s (len_s (len_s (len_s HL)))))))))) rfl)))) rfl rfl ?_
  refine s_gf (p' := 22) rfl (rd_sn rfl (rd_sn rfl (rd_app (rd_app (rd_sn rfl (rd_sn rfl (rd_sn rfl (rd_sn rfl (rd_sn rfl (rd_sn rfl (rd_sn rfl (rd_sn rfl (rd_sn rfl (rd_sn rfl H410)))))))))))))) rfl rfl ?_
  refine s_pfz (p' := 25) (fs' := [_, _, _, _]) rfl rfl (rd_ss rfl (rd_ss rfl (rd_nw rfl (len_a (len_s (len_s (len_s (len_s (len_s (len_s (len_s (len_s (len_s (len_s HL)))))))))) rfl)))) rfl rfl rfl rfl ?_
  refine c_ret rfl ?_
  refine c_aret rfl ?_
  refine s_astn (p' := 12) (ls' := [_, _, _, _, _]) rfl rfl rfl rfl ?_
  refine s_aldn (p' := 13) rfl rfl rfl ?_
  refine c_call (p' := 18) (kc := 96) (ls0 := [_]) rfl rfl rfl rfl rfl (mj_rcv_is (rd_ss rfl (rd_ss rfl (rd_ss rfl (rd_nw rfl (len_a (len_s (len_s (len_s (len_s (len_s (len_s (len_s (len_s (len_s (len_s HL)))))))))) rfl)))))) rfl rfl rfl ?_
  refine s_aldn (p' := 1) rfl rfl rfl ?_
  refine s_gf (p' := 4) rfl (rd_ss rfl (rd_ss rfl (rd_ss rfl (rd_nw rfl (len_a (len_s (len_s (len_s (len_s (len_s (len_s (len_s (len_s (len_s (len_s HL)))))))))) rfl))))) rfl rfl ?_
  refine s_aldn (p' := 5) rfl rfl rfl ?_
  refine s_gf (p' := 8) rfl (rd_ss rfl (rd_ss rfl (rd_ss rfl (rd_nw rfl (len_a (len_s (len_s (len_s (len_s (len_s (len_s (len_s (len_s (len_s (len_s HL)))))))))) rfl))))) rfl rfl ?_
  refine s_gf (p' := 11) rfl (rd_sn rfl (rd_sn rfl (rd_sn rfl (rd_app (rd_app (rd_sn rfl (rd_sn rfl (rd_sn rfl (rd_sn rfl (rd_sn rfl (rd_sn rfl (rd_sn rfl (rd_sn rfl (rd_sn rfl (rd_sn rfl H410))))))))))))))) rfl rfl ?_
  refine s_icmp (p' := 18) true rfl (by decide +kernel) rfl ?_
  refine s_con (p' := 19) rfl rfl ?_
  refine c_iret rfl (by decide +kernel) ?_
  refine s_if (p' := 45) true rfl (by decide +kernel) rfl ?_
  refine s_ildn (p' := 46) rfl rfl rfl ?_
  refine c_iret rfl rfl ?_
  refine s_iasz (p' := 21) (m := 0) rfl rfl (rd_sn rfl (rd_sn rfl (rd_sn rfl (rd_app (rd_nw rfl (len_s (len_s (len_s (len_s (len_s (len_s (len_s (len_s (len_s (len_s HL))))))))))))))) (by decide +kernel) rfl rfl rfl ?_
  refine s_incz (p' := 24) (w := (nI 1)) (ls' := [_, _, _, _, _, _, _, _]) rfl rfl rfl (by decide +kernel) rfl rfl ?_
  refine s_goto (p' := 7) rfl rfl ?_
  refine s_ildn (p' := 8) rfl rfl rfl ?_
  refine s_bip (p' := 10) rfl rfl ?_
  refine s_icmp (p' := 13) false rfl (by decide +kernel) rfl ?_
  refine s_aldn (p' := 14) rfl rfl rfl ?_
  refine s_ildn (p' := 15) rfl rfl rfl ?_
  refine s_aldn (p' := 16) rfl rfl rfl ?_
  refine s_ildn (p' := 17) rfl rfl rfl ?_
  refine c_call (p' := 20) (kc := 97) (ls0 := [_, _, _, _, _]) rfl rfl rfl rfl rfl (mj_rcv_is (rd_sn rfl (rd_sn rfl (rd_sn rfl (rd_sn rfl (rd_app (rd_app (rd_ss rfl (rd_sn rfl (rd_sn rfl (rd_sn rfl (rd_sn rfl (rd_sn rfl (rd_sn rfl (rd_sn rfl (rd_sn rfl (rd_sn rfl H400))))))))))))))))) rfl rfl rfl ?_
  refine s_ildn (p' := 1) rfl rfl rfl ?_
  refine s_istn (p' := 2) (ls' := [_, _, _, _, _]) rfl rfl rfl rfl ?_
  refine s_aldn (p' := 3) rfl rfl rfl ?_
  refine s_gf (p' := 6) rfl (rd_sn rfl (rd_sn rfl (rd_sn rfl (rd_sn rfl (rd_app (rd_app (rd_ss rfl (rd_sn rfl (rd_sn rfl (rd_sn rfl (rd_sn rfl (rd_sn rfl (rd_sn rfl (rd_sn rfl (rd_sn rfl (rd_sn rfl H400)))))))))))))))) rfl rfl ?_
  refine c_call (p' := 11) (kc := 96) (ls0 := [_]) rfl rfl rfl rfl rfl (mj_rcv_is (rd_sn rfl (rd_sn rfl (rd_sn rfl (rd_sn rfl (rd_app (rd_app (rd_sn rfl (rd_sn rfl (rd_sn rfl (rd_sn rfl (rd_sn rfl (rd_sn rfl (rd_sn rfl (rd_sn rfl (rd_sn rfl (rd_sn rfl H410))))))))))))))))) rfl rfl rfl ?_
  refine s_newz (p' := 3) (a := 416) rfl (len_s (len_s (len_s (len_s (len_a (len_a (len_s (len_s (len_s (len_s (len_s (len_s (len_s (len_s (len_s (len_s HL)))))))))) rfl) rfl))))) rfl rfl ?_
  refine s_dupr (p' := 4) rfl rfl ?_
  refine s_aldn (p' := 5) rfl rfl rfl ?_
  refine c_call (p' := 8) (kc := 95) (ls0 := [_, _]) rfl rfl rfl rfl rfl (mj_rcv_is (rd_nw rfl (len_s (len_s (len_s (len_s (len_a (len_a (len_s (len_s (len_s (len_s (len_s (len_s (len_s (len_s (len_s (len_s HL)))))))))) rfl) rfl))))))) rfl rfl rfl ?_
  refine s_aldn (p' := 1) rfl rfl rfl ?_
  refine s_aldn (p' := 2) rfl rfl rfl ?_
  refine s_pfz (p' := 5) (fs' := [_, _, _, _]) rfl rfl (rd_nw rfl (len_s (len_s (len_s (len_s (len_a (len_a (len_s (len_s (len_s (len_s (len_s (len_s (len_s (len_s (len_s (len_s HL)))))))))) rfl) rfl)))))) rfl rfl rfl rfl ?_
  refine s_aldn (p' := 6) rfl rfl rfl ?_
  refine s_primN (p' := 9) (q := 3) rfl rfl rfl rfl rfl rfl rfl rfl ?_
  refine s_aldn (p' := 10) rfl rfl rfl ?_
  refine s_con (p' := 11) rfl rfl ?_
  refine s_pfz (p' := 14) (fs' := [_, _, _, _]) rfl rfl (rd_ss rfl (rd_nw rfl (len_s (len_s (len_s (len_s (len_a (len_a (len_s (len_s (len_s (len_s (len_s (len_s (len_s (len_s (len_s (len_s HL)))))))))) rfl) rfl))))))) rfl rfl rfl rfl ?_
  refine s_aldn (p' := 15) rfl rfl rfl ?_
  refine s_aldn (p' := 16) rfl rfl rfl ?_
  refine s_gf (p' := 19) rfl (rd_ss rfl (rd_ss rfl (rd_nw rfl (len_s (len_s (len_s (len_s (len_a (len_a (len_s (len_s (len_s (len_s (len_s (len_s (len_s (len_s (len_s (len_s HL)))))))))) rfl) rfl)))))))) rfl rfl ?_
  refine s_gf (p' := 22) rfl (rd_sn rfl (rd_sn rfl (rd_app (rd_sn rfl (rd_sn rfl (rd_sn rfl (rd_sn rfl (rd_app (rd_app (rd_sn rfl (rd_sn rfl (rd_sn rfl (rd_sn rfl (rd_sn rfl (rd_sn rfl (rd_sn rfl (rd_sn rfl (rd_sn rfl (rd_sn rfl H410))))))))))))))))))) rfl rfl ?_
  refine s_pfz (p' := 25) (fs' := [_, _, _, _]) rfl rfl (rd_ss rfl (rd_ss rfl (rd_nw rfl (len_s (len_s (len_s (len_s (len_a (len_a (len_s (len_s (len_s (len_s (len_s (len_s (len_s (len_s (len_s (len_s HL)))))))))) rfl) rfl)))))))) rfl rfl rfl rfl ?_
  refine c_ret rfl ?_
  refine c_aret rfl ?_
  refine s_astn (p' := 12) (ls' := [_, _, _, _, _]) rfl rfl rfl rfl ?_
  refine s_aldn (p' := 13) rfl rfl rfl ?_
  refine c_call (p' := 18) (kc := 96) (ls0 := [_]) rfl rfl rfl rfl rfl (mj_rcv_is (rd_ss rfl (rd_ss rfl (rd_ss rfl (rd_nw rfl (len_s (len_s (len_s (len_s (len_a (len_a (len_s (len_s (len_s (len_s (len_s (len_s (len_s (len_s (len_s (len_s HL)))))))))) rfl) rfl)))))))))) rfl rfl rfl ?_
  refine s_aldn (p' := 1) rfl rfl rfl ?_
  refine s_gf (p' := 4) rfl (rd_ss rfl (rd_ss rfl (rd_ss rfl (rd_nw rfl (len_s (len_s (len_s (len_s (len_a (len_a (len_s (len_s (len_s (len_s (len_s (len_s (len_s (len_s (len_s (len_s HL)))))))))) rfl) rfl))))))))) rfl rfl ?_
  refine s_aldn (p' := 5) rfl rfl rfl ?_
  refine s_gf (p' := 8) rfl (rd_ss rfl (rd_ss rfl (rd_ss rfl (rd_nw rfl (len_s (len_s (len_s (len_s (len_a (len_a (len_s (len_s (len_s (len_s (len_s (len_s (len_s (len_s (len_s (len_s HL)))))))))) rfl) rfl))))))))) rfl rfl ?_
  refine s_gf (p' := 11) rfl (rd_sn rfl (rd_sn rfl (rd_sn rfl (rd_app (rd_sn rfl (rd_sn rfl (rd_sn rfl (rd_sn rfl (rd_app (rd_app (rd_sn rfl (rd_sn rfl (rd_sn rfl (rd_sn rfl (rd_sn rfl (rd_sn rfl (rd_sn rfl (rd_sn rfl (rd_sn rfl (rd_sn rfl H410)))))))))))))))))))) rfl rfl ?_
  refine s_icmp (p' := 18) true rfl (by decide +kernel) rfl ?_
  refine s_con (p' := 19) rfl rfl ?_
  refine c_iret rfl (by decide +kernel) ?_
  refine s_if (p' := 45) true rfl (by decide +kernel) rfl ?_
  refine s_ildn (p' := 46) rfl rfl rfl ?_
  refine c_iret rfl rfl ?_
  refine s_iasz (p' := 21) (m := 1) rfl rfl (rd_sn rfl (rd_sn rfl (rd_sn rfl (rd_app (rd_ss rfl (rd_sn rfl (rd_sn rfl (rd_sn rfl (rd_app (rd_nw rfl (len_s (len_s (len_s (len_s (len_s (len_s (len_s (len_s (len_s (len_s HL)))))))))))))))))))) (by decide +kernel) rfl rfl rfl ?_
  refine s_incz (p' := 24) (w := (nI 2)) (ls' := [_, _, _, _, _, _, _, _]) rfl rfl rfl (by decide +kernel) rfl rfl ?_
  refine s_goto (p' := 7) rfl rfl ?_
  refine s_ildn (p' := 8) rfl rfl rfl ?_
  refine s_bip (p' := 10) rfl rfl ?_
  refine s_icmp (p' := 13) false rfl (by decide +kernel) rfl ?_
  refine s_aldn (p' := 14) rfl rfl rfl ?_
  refine s_ildn (p' := 15) rfl rfl rfl ?_
  refine s_aldn (p' := 16) rfl rfl rfl ?_
  refine s_ildn (p' := 17) rfl rfl rfl ?_
  refine c_call (p' := 20) (kc := 97) (ls0 := [_, _, _, _, _]) rfl rfl rfl rfl rfl (mj_rcv_is (rd_sn rfl (rd_sn rfl (rd_sn rfl (rd_sn rfl (rd_app (rd_sn rfl (rd_sn rfl (rd_sn rfl (rd_sn rfl (rd_app (rd_app (rd_ss rfl (rd_sn rfl (rd_sn rfl (rd_sn rfl (rd_sn rfl (rd_sn rfl (rd_sn rfl (rd_sn rfl (rd_sn rfl (rd_sn rfl H400)))))))))))))))))))))) rfl rfl rfl ?_
  refine s_ildn (p' := 1) rfl rfl rfl ?_
  refine s_istn (p' := 2) (ls' := [_, _, _, _, _]) rfl rfl rfl rfl ?_
  refine s_aldn (p' := 3) rfl rfl rfl ?_
  refine s_gf (p' := 6) rfl (rd_sn rfl (rd_sn rfl (rd_sn rfl (rd_sn rfl (rd_app (rd_sn rfl (rd_sn rfl (rd_sn rfl (rd_sn rfl (rd_app (rd_app (rd_ss rfl (rd_sn rfl (rd_sn rfl (rd_sn rfl (rd_sn rfl (rd_sn rfl (rd_sn rfl (rd_sn rfl (rd_sn rfl (rd_sn rfl H400))))))))))))))))))))) rfl rfl ?_
  refine c_call (p' := 11) (kc := 96) (ls0 := [_]) rfl rfl rfl rfl rfl (mj_rcv_is (rd_sn rfl (rd_sn rfl (rd_sn rfl (rd_sn rfl (rd_app (rd_sn rfl (rd_sn rfl (rd_sn rfl (rd_sn rfl (rd_app (rd_app (rd_sn rfl (rd_sn rfl (rd_sn rfl (rd_sn rfl (rd_sn rfl (rd_sn rfl (rd_sn rfl (rd_sn rfl (rd_sn rfl (rd_sn rfl H410)))))))))))))))))))))) rfl rfl rfl ?_
  refine s_newz (p' := 3) (a := 417) rfl (len_s (len_s (len_s (len_s (len_a (len_s (len_s (len_s (len_s (len_a (len_a (len_s (len_s (len_s (len_s (len_s (len_s (len_s (len_s (len_s (len_s HL)))))))))) rfl) rfl))))) rfl))))) rfl rfl ?_
  refine s_dupr (p' := 4) rfl rfl ?_
  refine s_aldn (p' := 5) rfl rfl rfl ?_
  refine c_call (p' := 8) (kc := 95) (ls0 := [_, _]) rfl rfl rfl rfl rfl (mj_rcv_is (rd_nw rfl (len_s (len_s (len_s (len_s (len_a (len_s (len_s (len_s (len_s (len_a (len_a (len_s (len_s (len_s (len_s (len_s (len_s (len_s (len_s (len_s (len_s HL)))))))))) rfl) rfl))))) rfl))))))) rfl rfl rfl ?_
  refine s_aldn (p' := 1) rfl rfl rfl ?_
  refine s_aldn (p' := 2) rfl rfl rfl ?_
  refine s_pfz (p' := 5) (fs' := [_, _, _, _]) rfl rfl (rd_nw rfl (len_s (len_s (len_s (len_s (len_a (len_s (len_s (len_s (len_s (len_a (len_a (len_s (len_s (len_s (len_s (len_s (len_s (len_s (len_s (len_s (len_s HL)))))))))) rfl) rfl))))) rfl)))))) rfl rfl rfl rfl ?_
  refine s_aldn (p' := 6) rfl rfl rfl ?_
  refine s_primN (p' := 9) (q := 3) rfl rfl rfl rfl rfl rfl rfl rfl ?_
  refine s_aldn (p' := 10) rfl rfl rfl ?_
  refine s_con (p' := 11) rfl rfl ?_
  refine s_pfz (p' := 14) (fs' := [_, _, _, _]) rfl rfl (rd_ss rfl (rd_nw rfl (len_s (len_s (len_s (len_s (len_a (len_s (len_s (len_s (len_s (len_a (len_a (len_s (len_s (len_s (len_s (len_s (len_s (len_s (len_s (len_s (len_s HL)))))))))) rfl) rfl))))) rfl))))))) rfl rfl rfl rfl ?_
  refine s_aldn (p' := 15) rfl rfl rfl ?_
  refine s_aldn (p' := 16) rfl rfl rfl ?_
  refine s_gf (p' := 19) rfl (rd_ss rfl (rd_ss rfl (rd_nw rfl (len_s (len_s (len_s (len_s (len_a (len_s (len_s (len_s (len_s (len_a (len_a (len_s (len_s (len_s (len_s (len_s (len_s (len_s (len_s (len_s (len_s HL)))))))))) rfl) rfl))))) rfl)))))))) rfl rfl ?_
  refine s_gf (p' := 22) rfl (rd_sn rfl (rd_sn rfl (rd_app (rd_sn rfl (rd_sn rfl (rd_sn rfl (rd_sn rfl (rd_app (rd_sn rfl (rd_sn rfl (rd_sn rfl (rd_sn rfl (rd_app (rd_app (rd_sn rfl (rd_sn rfl (rd_sn rfl (rd_sn rfl (rd_sn rfl (rd_sn rfl (rd_sn rfl (rd_sn rfl (rd_sn rfl (rd_sn rfl H410)))))))))))))))))))))))) rfl rfl ?_
  refine s_pfz (p' := 25) (fs' := [_, _, _, _]) rfl rfl (rd_ss rfl (rd_ss rfl (rd_nw rfl (len_s (len_s (len_s (len_s (len_a (len_s (len_s (len_s (len_s (len_a (len_a (len_s (len_s (len_s (len_s (len_s (len_s (len_s (len_s (len_s (len_s HL)))))))))) rfl) rfl))))) rfl)))))))) rfl rfl rfl rfl ?_
  refine c_ret rfl ?_
  refine c_aret rfl ?_
  refine s_astn (p' := 12) (ls' := [_, _, _, _, _]) rfl rfl rfl rfl ?_
  refine s_aldn (p' := 13) rfl rfl rfl ?_
  refine c_call (p' := 18) (kc := 96) (ls0 := [_]) rfl rfl rfl rfl rfl (mj_rcv_is (rd_ss rfl (rd_ss rfl (rd_ss rfl (rd_nw rfl (len_s (len_s (len_s (len_s (len_a (len_s (len_s (len_s (len_s (len_a (len_a (len_s (len_s (len_s (len_s (len_s (len_s (len_s (len_s (len_s (len_s HL)))))))))) rfl) rfl))))) rfl)))))))))) rfl rfl rfl ?_
  refine s_aldn (p' := 1) rfl rfl rfl ?_
  refine s_gf (p' := 4) rfl (rd_ss rfl (rd_ss rfl (rd_ss rfl (rd_nw rfl (len_s (len_s (len_s (len_s (len_a (len_s (len_s (len_s (len_s (len_a (len_a (len_s (len_s (len_s (len_s (len_s (len_s (len_s (len_s (len_s (len_s HL)))))))))) rfl) rfl))))) rfl))))))))) rfl rfl ?_
  refine s_aldn (p' := 5) rfl rfl rfl ?_
  refine s_gf (p' := 8) rfl (rd_ss rfl (rd_ss rfl (rd_ss rfl (rd_nw rfl (len_s (len_s (len_s (len_s (len_a (len_s (len_s (len_s (len_s (len_a (len_a (len_s (len_s (len_s (len_s (len_s (len_s (len_s (len_s (len_s (len_s HL)))))))))) rfl) rfl))))) rfl))))))))) rfl rfl ?_
  refine s_gf (p' := 11) rfl (rd_sn rfl (rd_sn rfl (rd_sn rfl (rd_app (rd_sn rfl (rd_sn rfl (rd_sn rfl (rd_sn rfl (rd_app (rd_sn rfl (rd_sn rfl (rd_sn rfl (rd_sn rfl (rd_app (rd_app (rd_sn rfl (rd_sn rfl (rd_sn rfl (rd_sn rfl (rd_sn rfl (rd_sn rfl (rd_sn rfl (rd_sn rfl (rd_sn rfl (rd_sn rfl H410))))))))))))))))))))))))) rfl rfl ?_
  refine s_icmp (p' := 18) true rfl (by decide +kernel) rfl ?_
  refine s_con (p' := 19) rfl rfl ?_
  refine c_iret rfl (by decide +kernel) ?_
  refine s_if (p' := 45) true rfl (by decide +kernel) rfl ?_
  refine s_ildn (p' := 46) rfl rfl rfl ?_
  refine c_iret rfl rfl ?_
  refine s_iasz (p' := 21) (m := 2) rfl rfl (rd_sn rfl (rd_sn rfl (rd_sn rfl (rd_app (rd_ss rfl (rd_sn rfl (rd_sn rfl (rd_sn rfl (rd_app (rd_ss rfl (rd_sn rfl (rd_sn rfl (rd_sn rfl (rd_app (rd_nw rfl (len_s (len_s (len_s (len_s (len_s (len_s (len_s (len_s (len_s (len_s HL))))))))))))))))))))))))) (by decide +kernel) rfl rfl rfl ?_
  refine s_incz (p' := 24) (w := (nI 3)) (ls' := [_, _, _, _, _, _, _, _]) rfl rfl rfl (by decide +kernel) rfl rfl ?_
  refine s_goto (p' := 7) rfl rfl ?_
  refine s_ildn (p' := 8) rfl rfl rfl ?_
  refine s_bip (p' := 10) rfl rfl ?_
  refine s_icmp (p' := 13) false rfl (by decide +kernel) rfl ?_
  refine s_aldn (p' := 14) rfl rfl rfl ?_
  refine s_ildn (p' := 15) rfl rfl rfl ?_
  refine s_aldn (p' := 16) rfl rfl rfl ?_
  refine s_ildn (p' := 17) rfl rfl rfl ?_
  refine c_call (p' := 20) (kc := 97) (ls0 := [_, _, _, _, _]) rfl rfl rfl rfl rfl (mj_rcv_is (rd_sn rfl (rd_sn rfl (rd_sn rfl (rd_sn rfl (rd_app (rd_sn rfl (rd_sn rfl (rd_sn rfl (rd_sn rfl (rd_app (rd_sn rfl (rd_sn rfl (rd_sn rfl (rd_sn rfl (rd_app (rd_app (rd_ss rfl (rd_sn rfl (rd_sn rfl (rd_sn rfl (rd_sn rfl (rd_sn rfl (rd_sn rfl (rd_sn rfl (rd_sn rfl (rd_sn rfl H400))))))))))))))))))))))))))) rfl rfl rfl ?_
  refine s_ildn (p' := 1) rfl rfl rfl ?_
  refine s_istn (p' := 2) (ls' := [_, _, _, _, _]) rfl rfl rfl rfl ?_
  refine s_aldn (p' := 3) rfl rfl rfl ?_
  refine s_gf (p' := 6) rfl (rd_sn rfl (rd_sn rfl (rd_sn rfl (rd_sn rfl (rd_app (rd_sn rfl (rd_sn rfl (rd_sn rfl (rd_sn rfl (rd_app (rd_sn rfl (rd_sn rfl (rd_sn rfl (rd_sn rfl (rd_app (rd_app (rd_ss rfl (rd_sn rfl (rd_sn rfl (rd_sn rfl (rd_sn rfl (rd_sn rfl (rd_sn rfl (rd_sn rfl (rd_sn rfl (rd_sn rfl H400)))))))))))))))))))))))))) rfl rfl ?_
  refine c_call (p' := 11) (kc := 96) (ls0 := [_]) rfl rfl rfl rfl rfl (mj_rcv_is (rd_sn rfl (rd_sn rfl (rd_sn rfl (rd_sn rfl (rd_app (rd_sn rfl (rd_sn rfl (rd_sn rfl (rd_sn rfl (rd_app (rd_sn rfl (rd_sn rfl (rd_sn rfl (rd_sn rfl (rd_app (rd_app (rd_sn rfl (rd_sn rfl (rd_sn rfl (rd_sn rfl (rd_sn rfl (rd_sn rfl (rd_sn rfl (rd_sn rfl (rd_sn rfl (rd_sn rfl H410))))))))))))))))))))))))))) rfl rfl rfl ?_
  refine s_newz (p' := 3) (a := 418) rfl (len_s (len_s (len_s (len_s (len_a (len_s (len_s (len_s (len_s (len_a (len_s (len_s (len_s (len_s (len_a (len_a (len_s (len_s (len_s (len_s (len_s (len_s (len_s (len_s (len_s (len_s HL)))))))))) rfl) rfl))))) rfl))))) rfl))))) rfl rfl ?_
  refine s_dupr (p' := 4) rfl rfl ?_
  refine s_aldn (p' := 5) rfl rfl rfl ?_
  refine c_call (p' := 8) (kc := 95) (ls0 := [_, _]) rfl rfl rfl rfl rfl (mj_rcv_is (rd_nw rfl (len_s (len_s (len_s (len_s (len_a (len_s (len_s (len_s (len_s (len_a (len_s (len_s (len_s (len_s (len_a (len_a (len_s (len_s (len_s (len_s (len_s (len_s (len_s (len_s (len_s (len_s HL)))))))))) rfl) rfl))))) rfl))))) rfl))))))) rfl rfl rfl ?_
  refine s_aldn (p' := 1) rfl rfl rfl ?_
  refine s_aldn (p' := 2) rfl rfl rfl ?_
  refine s_pfz (p' := 5) (fs' := [_, _, _, _]) rfl rfl (rd_nw rfl (len_s (len_s (len_s (len_s (len_a (len_s (len_s (len_s (len_s (len_a (len_s (len_s (len_s (len_s (len_a (len_a (len_s (len_s (len_s (len_s (len_s (len_s (len_s (len_s (len_s (len_s HL)))))))))) rfl) rfl))))) rfl))))) rfl)))))) rfl rfl rfl rfl ?_
  refine s_aldn (p' := 6) rfl rfl rfl ?_
  refine s_primN (p' := 9) (q := 3) rfl rfl rfl rfl rfl rfl rfl rfl ?_
  refine s_aldn (p' := 10) rfl rfl rfl ?_
  refine s_con (p' := 11) rfl rfl ?_
  refine s_pfz (p' := 14) (fs' := [_, _, _, _]) rfl rfl (rd_ss rfl (rd_nw rfl (len_s (len_s (len_s (len_s (len_a (len_s (len_s (len_s (len_s (len_a (len_s (len_s (len_s (len_s (len_a (len_a (len_s (len_s (len_s (len_s (len_s (len_s (len_s (len_s (len_s (len_s HL)))))))))) rfl) rfl))))) rfl))))) rfl))))))) rfl rfl rfl rfl ?_
  refine s_aldn (p' := 15) rfl rfl rfl ?_
  refine s_aldn (p' := 16) rfl rfl rfl ?_
  refine s_gf (p' := 19) rfl (rd_ss rfl (rd_ss rfl (rd_nw rfl (len_s (len_s (len_s (len_s (len_a (len_s (len_s (len_s (len_s (len_a (len_s (len_s (len_s (len_s (len_a (len_a (len_s (len_s (len_s (len_s (len_s (len_s (len_s (len_s (len_s (len_s HL)))))))))) rfl) rfl))))) rfl))))) rfl)))))))) rfl rfl ?_
  refine s_gf (p' := 22) rfl (rd_sn rfl (rd_sn rfl (rd_app (rd_sn rfl (rd_sn rfl (rd_sn rfl (rd_sn rfl (rd_app (rd_sn rfl (rd_sn rfl (rd_sn rfl (rd_sn rfl (rd_app (rd_sn rfl (rd_sn rfl (rd_sn rfl (rd_sn rfl (rd_app (rd_app (rd_sn rfl (rd_sn rfl (rd_sn rfl (rd_sn rfl (rd_sn rfl (rd_sn rfl (rd_sn rfl (rd_sn rfl (rd_sn rfl (rd_sn rfl H410))))))))))))))))))))))))))))) rfl rfl ?_
  refine s_pfz (p' := 25) (fs' := [_, _, _, _]) rfl rfl (rd_ss rfl (rd_ss rfl (rd_nw rfl (len_s (len_s (len_s (len_s (len_a (len_s (len_s (len_s (len_s (len_a (len_s (len_s (len_s (len_s (len_a (len_a (len_s (len_s (len_s (len_s (len_s (len_s (len_s (len_s (len_s (len_s HL)))))))))) rfl) rfl))))) rfl))))) rfl)))))))) rfl rfl rfl rfl ?_
  refine c_ret rfl ?_
  refine c_aret rfl ?_
  refine s_astn (p' := 12) (ls' := [_, _, _, _, _]) rfl rfl rfl rfl ?_
  refine s_aldn (p' := 13) rfl rfl rfl ?_
  refine c_call (p' := 18) (kc := 96) (ls0 := [_]) rfl rfl rfl rfl rfl (mj_rcv_is (rd_ss rfl (rd_ss rfl (rd_ss rfl (rd_nw rfl (len_s (len_s (len_s (len_s (len_a (len_s (len_s (len_s (len_s (len_a (len_s (len_s (len_s (len_s (len_a (len_a (len_s (len_s (len_s (len_s (len_s (len_s (len_s (len_s (len_s (len_s HL)))))))))) rfl) rfl))))) rfl))))) rfl)))))))))) rfl rfl rfl ?_
  refine s_aldn (p' := 1) rfl rfl rfl ?_
  refine s_gf (p' := 4) rfl (rd_ss rfl (rd_ss rfl (rd_ss rfl (rd_nw rfl (len_s (len_s (len_s (len_s (len_a (len_s (len_s (len_s (len_s (len_a (len_s (len_s (len_s (len_s (len_a (len_a (len_s (len_s (len_s (len_s (len_s (len_s (len_s (len_s (len_s (len_s HL)))))))))) rfl) rfl))))) rfl))))) rfl))))))))) rfl rfl ?_
  refine s_aldn (p' := 5) rfl rfl rfl ?_
  refine s_gf (p' := 8) rfl (rd_ss rfl (rd_ss rfl (rd_ss rfl (rd_nw rfl (len_s (len_s (len_s (len_s (len_a (len_s (len_s (len_s (len_s (len_a (len_s (len_s (len_s (len_s (len_a (len_a (len_s (len_s (len_s (len_s (len_s (len_s (len_s (len_s (len_s (len_s HL)))))))))) rfl) rfl))))) rfl))))) rfl))))))))) rfl rfl ?_
  refine s_gf (p' := 11) rfl (rd_sn rfl (rd_sn rfl (rd_sn rfl (rd_app (rd_sn rfl (rd_sn rfl (rd_sn rfl (rd_sn rfl (rd_app (rd_sn rfl (rd_sn rfl (rd_sn rfl (rd_sn rfl (rd_app (rd_sn rfl (rd_sn rfl (rd_sn rfl (rd_sn rfl (rd_app (rd_app (rd_sn rfl (rd_sn rfl (rd_sn rfl (rd_sn rfl (rd_sn rfl (rd_sn rfl (rd_sn rfl (rd_sn rfl (rd_sn rfl (rd_sn rfl H410)))))))))))))))))))))))))))))) rfl rfl ?_
  refine s_icmp (p' := 18) true rfl (by decide +kernel) rfl ?_
  refine s_con (p' := 19) rfl rfl ?_
  refine c_iret rfl (by decide +kernel) ?_
  refine s_if (p' := 45) true rfl (by decide +kernel) rfl ?_
  refine s_ildn (p' := 46) rfl rfl rfl ?_
  refine c_iret rfl rfl ?_
  refine s_iasz (p' := 21) (m := 3) rfl rfl (rd_sn rfl (rd_sn rfl (rd_sn rfl (rd_app (rd_ss rfl (rd_sn rfl (rd_sn rfl (rd_sn rfl (rd_app (rd_ss rfl (rd_sn rfl (rd_sn rfl (rd_sn rfl (rd_app (rd_ss rfl (rd_sn rfl (rd_sn rfl (rd_sn rfl (rd_app (rd_nw rfl (len_s (len_s (len_s (len_s (len_s (len_s (len_s (len_s (len_s (len_s HL)))))))))))))))))))))))))))))) (by decide +kernel) rfl rfl rfl ?_
  refine s_incz (p' := 24) (w := (nI 4)) (ls' := [_, _, _, _, _, _, _, _]) rfl rfl rfl (by decide +kernel) rfl rfl ?_
  refine s_goto (p' := 7) rfl rfl ?_
  refine s_ildn (p' := 8) rfl rfl rfl ?_
  refine s_bip (p' := 10) rfl rfl ?_
  refine s_icmp (p' := 13) false rfl (by decide +kernel) rfl ?_
  refine s_aldn (p' := 14) rfl rfl rfl ?_
  refine s_ildn (p' := 15) rfl rfl rfl ?_
  refine s_aldn (p' := 16) rfl rfl rfl ?_
  refine s_ildn (p' := 17) rfl rfl rfl ?_
  refine c_call (p' := 20) (kc := 97) (ls0 := [_, _, _, _, _]) rfl rfl rfl rfl rfl (mj_rcv_is (rd_sn rfl (rd_sn rfl (rd_sn rfl (rd_sn rfl (rd_app (rd_sn rfl (rd_sn rfl (rd_sn rfl (rd_sn rfl (rd_app (rd_sn rfl (rd_sn rfl (rd_sn rfl (rd_sn rfl (rd_app (rd_sn rfl (rd_sn rfl (rd_sn rfl (rd_sn rfl (rd_app (rd_app (rd_ss rfl (rd_sn rfl (rd_sn rfl (rd_sn rfl (rd_sn rfl (rd_sn rfl (rd_sn rfl (rd_sn rfl (rd_sn rfl (rd_sn rfl H400)))))))))))))))))))))))))))))))) rfl rfl rfl ?_
  refine s_ildn (p' := 1) rfl rfl rfl ?_
  refine s_istn (p' := 2) (ls' := [_, _, _, _, _]) rfl rfl rfl rfl ?_
  refine s_aldn (p' := 3) rfl rfl rfl ?_
  refine s_gf (p' := 6) rfl (rd_sn rfl (rd_sn rfl (rd_sn rfl (rd_sn rfl (rd_app (rd_sn rfl (rd_sn rfl (rd_sn rfl (rd_sn rfl (rd_app (rd_sn rfl (rd_sn rfl (rd_sn rfl (rd_sn rfl (rd_app (rd_sn rfl (rd_sn rfl (rd_sn rfl (rd_sn rfl (rd_app (rd_app (rd_ss rfl (rd_sn rfl (rd_sn rfl (rd_sn rfl (rd_sn rfl (rd_sn rfl (rd_sn rfl (rd_sn rfl (rd_sn rfl (rd_sn rfl H400))))))))))))))))))))))))))))))) rfl rfl ?_
  refine c_call (p' := 11) (kc := 96) (ls0 := [_]) rfl rfl rfl rfl rfl (mj_rcv_is (rd_sn rfl (rd_sn rfl (rd_sn rfl (rd_sn rfl (rd_app (rd_sn rfl (rd_sn rfl (rd_sn rfl (rd_sn rfl (rd_app (rd_sn rfl (rd_sn rfl (rd_sn rfl (rd_sn rfl (rd_app (rd_sn rfl (rd_sn rfl (rd_sn rfl (rd_sn rfl (rd_app (rd_app (rd_sn rfl (rd_sn rfl (rd_sn rfl (rd_sn rfl (rd_sn rfl (rd_sn rfl (rd_sn rfl (rd_sn rfl (rd_sn rfl (rd_sn rfl H410)))))))))))))))))))))))))))))))) rfl rfl rfl ?_
  refine s_newz (p' := 3) (a := 419) rfl (len_s (len_s (len_s (len_s (len_a (len_s (len_s (len_s (len_s (len_a (len_s (len_s (len_s (len_s (len_a (len_s (len_s (len_s (len_s (len_a (len_a (len_s (len_s (len_s (len_s (len_s (len_s (len_s (len_s (len_s (len_s HL)))))))))) rfl) rfl))))) rfl))))) rfl))))) rfl))))) rfl rfl ?_
  refine s_dupr (p' := 4) rfl rfl ?_
  refine s_aldn (p' := 5) rfl rfl rfl ?_
  refine c_call (p' := 8) (kc := 95) (ls0 := [_, _]) rfl rfl rfl rfl rfl (mj_rcv_is (rd_nw rfl (len_s (len_s (len_s (len_s (len_a (len_s (len_s (len_s (len_s (len_a (len_s (len_s (len_s (len_s (len_a (len_s (len_s (len_s (len_s (len_a (len_a (len_s (len_s (len_s (len_s (len_s (len_s (len_s (len_s (len_s (len_s HL)))))))))) rfl) rfl))))) rfl))))) rfl))))) rfl))))))) rfl rfl rfl ?_
  refine s_aldn (p' := 1) rfl rfl rfl ?_
  refine s_aldn (p' := 2) rfl rfl rfl ?_
  refine s_pfz (p' := 5) (fs' := [_, _, _, _]) rfl rfl (rd_nw rfl (len_s (len_s (len_s (len_s (len_a (len_s (len_s (len_s (len_s (len_a (len_s (len_s (len_s (len_s (len_a (len_s (len_s (len_s (len_s (len_a (len_a (len_s (len_s (len_s (len_s (len_s (len_s (len_s (len_s (len_s (len_s HL)))))))))) rfl) rfl))))) rfl))))) rfl))))) rfl)))))) rfl rfl rfl rfl ?_
  refine s_aldn (p' := 6) rfl rfl rfl ?_
  refine s_primN (p' := 9) (q := 3) rfl rfl rfl rfl rfl rfl rfl rfl ?_
  refine s_aldn (p' := 10) rfl rfl rfl ?_
  refine s_con (p' := 11) rfl rfl ?_
  refine s_pfz (p' := 14) (fs' := [_, _, _, _]) rfl rfl (rd_ss rfl (rd_nw rfl (len_s (len_s (len_s (len_s (len_a (len_s (len_s (len_s (len_s (len_a (len_s (len_s (len_s (len_s (len_a (len_s (len_s (len_s (len_s (len_a (len_a (len_s (len_s (len_s (len_s (len_s (len_s (len_s (len_s (len_s (len_s HL)))))))))) rfl) rfl))))) rfl))))) rfl))))) rfl))))))) rfl rfl rfl rfl ?_
  refine s_aldn (p' := 15) rfl rfl rfl ?_
  refine s_aldn (p' := 16) rfl rfl rfl ?_
  refine s_gf (p' := 19) rfl (rd_ss rfl (rd_ss rfl (rd_nw rfl (len_s (len_s (len_s (len_s (len_a (len_s (len_s (len_s (len_s (len_a (len_s (len_s (len_s (len_s (len_a (len_s (len_s (len_s (len_s (len_a (len_a (len_s (len_s (len_s (len_s (len_s (len_s (len_s (len_s (len_s (len_s HL)))))))))) rfl) rfl))))) rfl))))) rfl))))) rfl)))))))) rfl rfl ?_
  refine s_gf (p' := 22) rfl (rd_sn rfl (rd_sn rfl (rd_app (rd_sn rfl (rd_sn rfl (rd_sn rfl (rd_sn rfl (rd_app (rd_sn rfl (rd_sn rfl (rd_sn rfl (rd_sn rfl (rd_app (rd_sn rfl (rd_sn rfl (rd_sn rfl (rd_sn rfl (rd_app (rd_sn rfl (rd_sn rfl (rd_sn rfl (rd_sn rfl (rd_app (rd_app (rd_sn rfl (rd_sn rfl (rd_sn rfl (rd_sn rfl (rd_sn rfl (rd_sn rfl (rd_sn rfl (rd_sn rfl (rd_sn rfl (rd_sn rfl H410)))))))))))))))))))))))))))))))))) rfl rfl ?_
  refine s_pfz (p' := 25) (fs' := [_, _, _, _]) rfl rfl (rd_ss rfl (rd_ss rfl (rd_nw rfl (len_s (len_s (len_s (len_s (len_a (len_s (len_s (len_s (len_s (len_a (len_s (len_s (len_s (len_s (len_a (len_s (len_s (len_s (len_s (len_a (len_a (len_s (len_s (len_s (len_s (len_s (len_s (len_s (len_s (len_s (len_s HL)))))))))) rfl) rfl))))) rfl))))) rfl))))) rfl)))))))) rfl rfl rfl rfl ?_
  refine c_ret rfl ?_
  refine c_aret rfl ?_
  refine s_astn (p' := 12) (ls' := [_, _, _, _, _]) rfl rfl rfl rfl ?_
  refine s_aldn (p' := 13) rfl rfl rfl ?_
  refine c_call (p' := 18) (kc := 96) (ls0 := [_]) rfl rfl rfl rfl rfl (mj_rcv_is (rd_ss rfl (rd_ss rfl (rd_ss rfl (rd_nw rfl (len_s (len_s (len_s (len_s (len_a (len_s (len_s (len_s (len_s (len_a (len_s (len_s (len_s (len_s (len_a (len_s (len_s (len_s (len_s (len_a (len_a (len_s (len_s (len_s (len_s (len_s (len_s (len_s (len_s (len_s (len_s HL)))))))))) rfl) rfl))))) rfl))))) rfl))))) rfl)))))))))) rfl rfl rfl ?_
  refine s_aldn (p' := 1) rfl rfl rfl ?_
  refine s_gf (p' := 4) rfl (rd_ss rfl (rd_ss rfl (rd_ss rfl (rd_nw rfl (len_s (len_s (len_s (len_s (len_a (len_s (len_s (len_s (len_s (len_a (len_s (len_s (len_s (len_s (len_a (len_s (len_s (len_s (len_s (len_a (len_a (len_s (len_s (len_s (len_s (len_s (len_s (len_s (len_s (len_s (len_s HL)))))))))) rfl) rfl))))) rfl))))) rfl))))) rfl))))))))) rfl rfl ?_
  refine s_aldn (p' := 5) rfl rfl rfl ?_
  refine s_gf (p' := 8) rfl (rd_ss rfl (rd_ss rfl (rd_ss rfl (rd_nw rfl (len_s (len_s (len_s (len_s (len_a (len_s (len_s (len_s (len_s (len_a (len_s (len_s (len_s (len_s (len_a (len_s (len_s (len_s (len_s (len_a (len_a (len_s (len_s (len_s (len_s (len_s (len_s (len_s (len_s (len_s (len_s HL)))))))))) rfl) rfl))))) rfl))))) rfl))))) rfl))))))))) rfl rfl ?_
  refine s_gf (p' := 11) rfl (rd_sn rfl (rd_sn rfl (rd_sn rfl (rd_app (rd_sn rfl (rd_sn rfl (rd_sn rfl (rd_sn rfl (rd_app (rd_sn rfl (rd_sn rfl (rd_sn rfl (rd_sn rfl (rd_app (rd_sn rfl (rd_sn rfl (rd_sn rfl (rd_sn rfl (rd_app (rd_sn rfl (rd_sn rfl (rd_sn rfl (rd_sn rfl (rd_app (rd_app (rd_sn rfl (rd_sn rfl (rd_sn rfl (rd_sn rfl (rd_sn rfl (rd_sn rfl (rd_sn rfl (rd_sn rfl (rd_sn rfl (rd_sn rfl H410))))))))))))))))))))))))))))))))))) rfl rfl ?_
  refine s_icmp (p' := 18) true rfl (by decide +kernel) rfl ?_
  refine s_con (p' := 19) rfl rfl ?_
  refine c_iret rfl (by decide +kernel) ?_
  refine s_if (p' := 45) true rfl (by decide +kernel) rfl ?_
  refine s_ildn (p' := 46) rfl rfl rfl ?_
  refine c_iret rfl rfl ?_
  refine s_iasz (p' := 21) (m := 4) rfl rfl (rd_sn rfl (rd_sn rfl (rd_sn rfl (rd_app (rd_ss rfl (rd_sn rfl (rd_sn rfl (rd_sn rfl (rd_app (rd_ss rfl (rd_sn rfl (rd_sn rfl (rd_sn rfl (rd_app (rd_ss rfl (rd_sn rfl (rd_sn rfl (rd_sn rfl (rd_app (rd_ss rfl (rd_sn rfl (rd_sn rfl (rd_sn rfl (rd_app (rd_nw rfl (len_s (len_s (len_s (len_s (len_s (len_s (len_s (len_s (len_s (len_s HL))))))))))))))))))))))))))))))))))) (by decide +kernel) rfl rfl rfl ?_
  refine s_incz (p' := 24) (w := (nI 5)) (ls' := [_, _, _, _, _, _, _, _]) rfl rfl rfl (by decide +kernel) rfl rfl ?_
  refine s_goto (p' := 7) rfl rfl ?_
  refine s_ildn (p' := 8) rfl rfl rfl ?_
  refine s_bip (p' := 10) rfl rfl ?_
  refine s_icmp (p' := 13) false rfl (by decide +kernel) rfl ?_
  refine s_aldn (p' := 14) rfl rfl rfl ?_
  refine s_ildn (p' := 15) rfl rfl rfl ?_
  refine s_aldn (p' := 16) rfl rfl rfl ?_
  refine s_ildn (p' := 17) rfl rfl rfl ?_
  refine c_call (p' := 20) (kc := 97) (ls0 := [_, _, _, _, _]) rfl rfl rfl rfl rfl (mj_rcv_is (rd_sn rfl (rd_sn rfl (rd_sn rfl (rd_sn rfl (rd_app (rd_sn rfl (rd_sn rfl (rd_sn rfl (rd_sn rfl (rd_app (rd_sn rfl (rd_sn rfl (rd_sn rfl (rd_sn rfl (rd_app (rd_sn rfl (rd_sn rfl (rd_sn rfl (rd_sn rfl (rd_app (rd_sn rfl (rd_sn rfl (rd_sn rfl (rd_sn rfl (rd_app (rd_app (rd_ss rfl (rd_sn rfl (rd_sn rfl (rd_sn rfl (rd_sn rfl (rd_sn rfl (rd_sn rfl (rd_sn rfl (rd_sn rfl (rd_sn rfl H400))))))))))))))))))))))))))))))))))))) rfl rfl rfl ?_
  refine s_ildn (p' := 1) rfl rfl rfl ?_
  refine s_istn (p' := 2) (ls' := [_, _, _, _, _]) rfl rfl rfl rfl ?_
  refine s_aldn (p' := 3) rfl rfl rfl ?_
  refine s_gf (p' := 6) rfl (rd_sn rfl (rd_sn rfl (rd_sn rfl (rd_sn rfl (rd_app (rd_sn rfl (rd_sn rfl (rd_sn rfl (rd_sn rfl (rd_app (rd_sn rfl (rd_sn rfl (rd_sn rfl (rd_sn rfl (rd_app (rd_sn rfl (rd_sn rfl (rd_sn rfl (rd_sn rfl (rd_app (rd_sn rfl (rd_sn rfl (rd_sn rfl (rd_sn rfl (rd_app (rd_app (rd_ss rfl (rd_sn rfl (rd_sn rfl (rd_sn rfl (rd_sn rfl (rd_sn rfl (rd_sn rfl (rd_sn rfl (rd_sn rfl (rd_sn rfl H400)))))))))))))))))))))))))))))))))))) rfl rfl ?_
  refine c_call (p' := 11) (kc := 96) (ls0 := [_]) rfl rfl rfl rfl rfl (mj_rcv_is (rd_sn rfl (rd_sn rfl (rd_sn rfl (rd_sn rfl (rd_app (rd_sn rfl (rd_sn rfl (rd_sn rfl (rd_sn rfl (rd_app (rd_sn rfl (rd_sn rfl (rd_sn rfl (rd_sn rfl (rd_app (rd_sn rfl (rd_sn rfl (rd_sn rfl (rd_sn rfl (rd_app (rd_sn rfl (rd_sn rfl (rd_sn rfl (rd_sn rfl (rd_app (rd_app (rd_sn rfl (rd_sn rfl (rd_sn rfl (rd_sn rfl (rd_sn rfl (rd_sn rfl (rd_sn rfl (rd_sn rfl (rd_sn rfl (rd_sn rfl H410))))))))))))))))))))))))))))))))))))) rfl rfl rfl ?_
  refine s_newz (p' := 3) (a := 420) rfl (len_s (len_s (len_s (len_s (len_a (len_s (len_s (len_s (len_s (len_a (len_s (len_s (len_s (len_s (len_a (len_s (len_s (len_s (len_s (len_a (len_s (len_s (len_s (len_s (len_a (len_a (len_s (len_s (len_s (len_s (len_s (len_s (len_s (len_s (len_s (len_s HL)))))))))) rfl) rfl))))) rfl))))) rfl))))) rfl))))) rfl))))) rfl rfl ?_
  refine s_dupr (p' := 4) rfl rfl ?_
  refine s_aldn (p' := 5) rfl rfl rfl ?_
  refine c_call (p' := 8) (kc := 95) (ls0 := [_, _]) rfl rfl rfl rfl rfl (mj_rcv_is (rd_nw rfl (len_s (len_s (len_s (len_s (len_a (len_s (len_s (len_s (len_s (len_a (len_s (len_s (len_s (len_s (len_a (len_s (len_s (len_s (len_s (len_a (len_s (len_s (len_s (len_s (len_a (len_a (len_s (len_s (len_s (len_s (len_s (len_s (len_s (len_s (len_s (len_s HL)))))))))) rfl) rfl))))) rfl))))) rfl))))) rfl))))) rfl))))))) rfl rfl rfl ?_
  refine s_aldn (p' := 1) rfl rfl rfl ?_
  refine s_aldn (p' := 2) rfl rfl rfl ?_
  refine s_pfz (p' := 5) (fs' := [_, _, _, _]) rfl rfl (rd_nw rfl (len_s (len_s (len_s (len_s (len_a (len_s (len_s (len_s (len_s (len_a (len_s (len_s (len_s (len_s (len_a (len_s (len_s (len_s (len_s (len_a (len_s (len_s (len_s (len_s (len_a (len_a (len_s (len_s (len_s (len_s (len_s (len_s (len_s (len_s (len_s (len_s HL)))))))))) rfl) rfl))))) rfl))))) rfl))))) rfl))))) rfl)))))) rfl rfl rfl rfl ?_
  refine s_aldn (p' := 6) rfl rfl rfl ?_
  refine s_primN (p' := 9) (q := 3) rfl rfl rfl rfl rfl rfl rfl rfl ?_
  refine s_aldn (p' := 10) rfl rfl rfl ?_
  refine s_con (p' := 11) rfl rfl ?_
  refine s_pfz (p' := 14) (fs' := [_, _, _, _]) rfl rfl (rd_ss rfl (rd_nw rfl (len_s (len_s (len_s (len_s (len_a (len_s (len_s (len_s (len_s (len_a (len_s (len_s (len_s (len_s (len_a (len_s (len_s (len_s (len_s (len_a (len_s (len_s (len_s (len_s (len_a (len_a (len_s (len_s (len_s (len_s (len_s (len_s (len_s (len_s (len_s (len_s HL)))))))))) rfl) rfl))))) rfl))))) rfl))))) rfl))))) rfl))))))) rfl rfl rfl rfl ?_
  refine s_aldn (p' := 15) rfl rfl rfl ?_
  refine s_aldn (p' := 16) rfl rfl rfl ?_
  refine s_gf (p' := 19) rfl (rd_ss rfl (rd_ss rfl (rd_nw rfl (len_s (len_s (len_s (len_s (len_a (len_s (len_s (len_s (len_s (len_a (len_s (len_s (len_s (len_s (len_a (len_s (len_s (len_s (len_s (len_a (len_s (len_s (len_s (len_s (len_a (len_a (len_s (len_s (len_s (len_s (len_s (len_s (len_s (len_s (len_s (len_s HL)))))))))) rfl) rfl))))) rfl))))) rfl))))) rfl))))) rfl)))))))) rfl rfl ?_
  refine s_gf (p' := 22) rfl (rd_sn rfl (rd_sn rfl (rd_app (rd_sn rfl (rd_sn rfl (rd_sn rfl (rd_sn rfl (rd_app (rd_sn rfl (rd_sn rfl (rd_sn rfl (rd_sn rfl (rd_app (rd_sn rfl (rd_sn rfl (rd_sn rfl (rd_sn rfl (rd_app (rd_sn rfl (rd_sn rfl (rd_sn rfl (rd_sn rfl (rd_app (rd_sn rfl (rd_sn rfl (rd_sn rfl (rd_sn rfl (rd_app (rd_app (rd_sn rfl (rd_sn rfl (rd_sn rfl (rd_sn rfl (rd_sn rfl (rd_sn rfl (rd_sn rfl (rd_sn rfl (rd_sn rfl (rd_sn rfl H410))))))))))))))))))))))))))))))))))))))) rfl rfl ?_
  refine s_pfz (p' := 25) (fs' := [_, _, _, _]) rfl rfl (rd_ss rfl (rd_ss rfl (rd_nw rfl (len_s (len_s (len_s (len_s (len_a (len_s (len_s (len_s (len_s (len_a (len_s (len_s (len_s (len_s (len_a (len_s (len_s (len_s (len_s (len_a (len_s (len_s (len_s (len_s (len_a (len_a (len_s (len_s (len_s (len_s (len_s (len_s (len_s (len_s (len_s (len_s HL)))))))))) rfl) rfl))))) rfl))))) rfl))))) rfl))))) rfl)))))))) rfl rfl rfl rfl ?_
  refine c_ret rfl ?_
  refine c_aret rfl ?_
  refine s_astn (p' := 12) (ls' := [_, _, _, _, _]) rfl rfl rfl rfl ?_
  refine s_aldn (p' := 13) rfl rfl rfl ?_
  refine c_call (p' := 18) (kc := 96) (ls0 := [_]) rfl rfl rfl rfl rfl (mj_rcv_is (rd_ss rfl (rd_ss rfl (rd_ss rfl (rd_nw rfl (len_s (len_s (len_s (len_s (len_a (len_s (len_s (len_s (len_s (len_a (len_s (len_s (len_s (len_s (len_a (len_s (len_s (len_s (len_s (len_a (len_s (len_s (len_s (len_s (len_a (len_a (len_s (len_s (len_s (len_s (len_s (len_s (len_s (len_s (len_s (len_s HL)))))))))) rfl) rfl))))) rfl))))) rfl))))) rfl))))) rfl)))))))))) rfl rfl rfl ?_
  refine s_aldn (p' := 1) rfl rfl rfl ?_
  refine s_gf (p' := 4) rfl (rd_ss rfl (rd_ss rfl (rd_ss rfl (rd_nw rfl (len_s (len_s (len_s (len_s (len_a (len_s (len_s (len_s (len_s (len_a (len_s (len_s (len_s (len_s (len_a (len_s (len_s (len_s (len_s (len_a (len_s (len_s (len_s (len_s (len_a (len_a (len_s (len_s (len_s (len_s (len_s (len_s (len_s (len_s (len_s (len_s HL)))))))))) rfl) rfl))))) rfl))))) rfl))))) rfl))))) rfl))))))))) rfl rfl ?_
  refine s_aldn (p' := 5) rfl rfl rfl ?_
  refine s_gf (p' := 8) rfl (rd_ss rfl (rd_ss rfl (rd_ss rfl (rd_nw rfl (len_s (len_s (len_s (len_s (len_a (len_s (len_s (len_s (len_s (len_a (len_s (len_s (len_s (len_s (len_a (len_s (len_s (len_s (len_s (len_a (len_s (len_s (len_s (len_s (len_a (len_a (len_s (len_s (len_s (len_s (len_s (len_s (len_s (len_s (len_s (len_s HL)))))))))) rfl) rfl))))) rfl))))) rfl))))) rfl))))) rfl))))))))) rfl rfl ?_
  refine s_gf (p' := 11) rfl (rd_sn rfl (rd_sn rfl (rd_sn rfl (rd_app (rd_sn rfl (rd_sn rfl (rd_sn rfl (rd_sn rfl (rd_app (rd_sn rfl (rd_sn rfl (rd_sn rfl (rd_sn rfl (rd_app (rd_sn rfl (rd_sn rfl (rd_sn rfl (rd_sn rfl (rd_app (rd_sn rfl (rd_sn rfl (rd_sn rfl (rd_sn rfl (rd_app (rd_sn rfl (rd_sn rfl (rd_sn rfl (rd_sn rfl (rd_app (rd_app (rd_sn rfl (rd_sn rfl (rd_sn rfl (rd_sn rfl (rd_sn rfl (rd_sn rfl (rd_sn rfl (rd_sn rfl (rd_sn rfl (rd_sn rfl H410)))))))))))))))))))))))))))))))))))))))) rfl rfl ?_
  refine s_icmp (p' := 18) true rfl (by decide +kernel) rfl ?_
  refine s_con (p' := 19) rfl rfl ?_
  refine c_iret rfl (by decide +kernel) ?_
  refine s_if (p' := 45) true rfl (by decide +kernel) rfl ?_
  refine s_ildn (p' := 46) rfl rfl rfl ?_
  refine c_iret rfl rfl ?_
  refine s_iasz (p' := 21) (m := 5) rfl rfl (rd_sn rfl (rd_sn rfl (rd_sn rfl (rd_app (rd_ss rfl (rd_sn rfl (rd_sn rfl (rd_sn rfl (rd_app (rd_ss rfl (rd_sn rfl (rd_sn rfl (rd_sn rfl (rd_app (rd_ss rfl (rd_sn rfl (rd_sn rfl (rd_sn rfl (rd_app (rd_ss rfl (rd_sn rfl (rd_sn rfl (rd_sn rfl (rd_app (rd_ss rfl (rd_sn rfl (rd_sn rfl (rd_sn rfl (rd_app (rd_nw rfl (len_s (len_s (len_s (len_s (len_s (len_s (len_s (len_s (len_s (len_s HL)))))))))))))))))))))))))))))))))))))))) (by decide +kernel) rfl rfl rfl ?_
  refine s_incz (p' := 24) (w := (nI 6)) (ls' := [_, _, _, _, _, _, _, _]) rfl rfl rfl (by decide +kernel) rfl rfl ?_
  refine s_goto (p' := 7) rfl rfl ?_
  refine s_ildn (p' := 8) rfl rfl rfl ?_
  refine s_bip (p' := 10) rfl rfl ?_
  refine s_icmp (p' := 13) false rfl (by decide +kernel) rfl ?_
  refine s_aldn (p' := 14) rfl rfl rfl ?_
  refine s_ildn (p' := 15) rfl rfl rfl ?_
  refine s_aldn (p' := 16) rfl rfl rfl ?_
  refine s_ildn (p' := 17) rfl rfl rfl ?_
  refine c_call (p' := 20) (kc := 97) (ls0 := [_, _, _, _, _]) rfl rfl rfl rfl rfl (mj_rcv_is (rd_sn rfl (rd_sn rfl (rd_sn rfl (rd_sn rfl (rd_app (rd_sn rfl (rd_sn rfl (rd_sn rfl (rd_sn rfl (rd_app (rd_sn rfl (rd_sn rfl (rd_sn rfl (rd_sn rfl (rd_app (rd_sn rfl (rd_sn rfl (rd_sn rfl (rd_sn rfl (rd_app (rd_sn rfl (rd_sn rfl (rd_sn rfl (rd_sn rfl (rd_app (rd_sn rfl (rd_sn rfl (rd_sn rfl (rd_sn rfl (rd_app (rd_app (rd_ss rfl (rd_sn rfl (rd_sn rfl (rd_sn rfl (rd_sn rfl (rd_sn rfl (rd_sn rfl (rd_sn rfl (rd_sn rfl (rd_sn rfl H400)))))))))))))))))))))))))))))))))))))))))) rfl rfl rfl ?_
  refine s_ildn (p' := 1) rfl rfl rfl ?_
  refine s_istn (p' := 2) (ls' := [_, _, _, _, _]) rfl rfl rfl rfl ?_
  refine s_aldn (p' := 3) rfl rfl rfl ?_
  refine s_gf (p' := 6) rfl (rd_sn rfl (rd_sn rfl (rd_sn rfl (rd_sn rfl (rd_app (rd_sn rfl (rd_sn rfl (rd_sn rfl (rd_sn rfl (rd_app (rd_sn rfl (rd_sn rfl (rd_sn rfl (rd_sn rfl (rd_app (rd_sn rfl (rd_sn rfl (rd_sn rfl (rd_sn rfl (rd_app (rd_sn rfl (rd_sn rfl (rd_sn rfl (rd_sn rfl (rd_app (rd_sn rfl (rd_sn rfl (rd_sn rfl (rd_sn rfl (rd_app (rd_app (rd_ss rfl (rd_sn rfl (rd_sn rfl (rd_sn rfl (rd_sn rfl (rd_sn rfl (rd_sn rfl (rd_sn rfl (rd_sn rfl (rd_sn rfl H400))))))))))))))))))))))))))))))))))))))))) rfl rfl ?_
  refine c_call (p' := 11) (kc := 96) (ls0 := [_]) rfl rfl rfl rfl rfl (mj_rcv_is (rd_sn rfl (rd_sn rfl (rd_sn rfl (rd_sn rfl (rd_app (rd_sn rfl (rd_sn rfl (rd_sn rfl (rd_sn rfl (rd_app (rd_sn rfl (rd_sn rfl (rd_sn rfl (rd_sn rfl (rd_app (rd_sn rfl (rd_sn rfl (rd_sn rfl (rd_sn rfl (rd_app (rd_sn rfl (rd_sn rfl (rd_sn rfl (rd_sn rfl (rd_app (rd_sn rfl (rd_sn rfl (rd_sn rfl (rd_sn rfl (rd_app (rd_app (rd_sn rfl (rd_sn rfl (rd_sn rfl (rd_sn rfl (rd_sn rfl (rd_sn rfl (rd_sn rfl (rd_sn rfl (rd_sn rfl (rd_sn rfl H410)))))))))))))))))))))))))))))))))))))))))) rfl rfl rfl ?_
  refine s_newz (p' := 3) (a := 421) rfl (len_s (len_s (len_s (len_s (len_a (len_s (len_s (len_s (len_s (len_a (len_s (len_s (len_s (len_s (len_a (len_s (len_s (len_s (len_s (len_a (len_s (len_s (len_s (len_s (len_a (len_s (len_s (len_s (len_s (len_a (len_a (len_s (len_s (len_s (len_s (len_s (len_s (len_s (len_s (len_s (len_s HL)))))))))) rfl) rfl))))) rfl))))) rfl))))) rfl))))) rfl))))) rfl))))) rfl rfl ?_
  refine s_dupr (p' := 4) rfl rfl ?_
  refine s_aldn (p' := 5) rfl rfl rfl ?_
  refine c_call (p' := 8) (kc := 95) (ls0 := [_, _]) rfl rfl rfl rfl rfl (mj_rcv_is (rd_nw rfl (len_s (len_s (len_s (len_s (len_a (len_s (len_s (len_s (len_s (len_a (len_s (len_s (len_s (len_s (len_a (len_s (len_s (len_s (len_s (len_a (len_s (len_s (len_s (len_s (len_a (len_s (len_s (len_s (len_s (len_a (len_a (len_s (len_s (len_s (len_s (len_s (len_s (len_s (len_s (len_s (len_s HL)))))))))) rfl) rfl))))) rfl))))) rfl))))) rfl))))) rfl))))) rfl))))))) rfl rfl rfl ?_
  refine s_aldn (p' := 1) rfl rfl rfl ?_
  refine s_aldn (p' := 2) rfl rfl rfl ?_
  refine s_pfz (p' := 5) (fs' := [_, _, _, _]) rfl rfl (rd_nw rfl (len_s (len_s (len_s (len_s (len_a (len_s (len_s (len_s (len_s (len_a (len_s (len_s (len_s (len_s (len_a (len_s (len_s (len_s (len_s (len_a (len_s (len_s (len_s (len_s (len_a (len_s (len_s (len_s (len_s (len_a (len_a (len_s (len_s (len_s (len_s (len_s (len_s (len_s (len_s (len_s (len_s HL)))))))))) rfl) rfl))))) rfl))))) rfl))))) rfl))))) rfl))))) rfl)))))) rfl rfl rfl rfl ?_
  refine s_aldn (p' := 6) rfl rfl rfl ?_
  refine s_primN (p' := 9) (q := 3) rfl rfl rfl rfl rfl rfl rfl rfl ?_
  refine s_aldn (p' := 10) rfl rfl rfl ?_
  refine s_con (p' := 11) rfl rfl ?_
  refine s_pfz (p' := 14) (fs' := [_, _, _, _]) rfl rfl (rd_ss rfl (rd_nw rfl (len_s (len_s (len_s (len_s (len_a (len_s (len_s (len_s (len_s (len_a (len_s (len_s (len_s (len_s (len_a (len_s (len_s (len_s (len_s (len_a (len_s (len_s (len_s (len_s (len_a (len_s (len_s (len_s (len_s (len_a (len_a (len_s (len_s (len_s (len_s (len_s (len_s (len_s (len_s (len_s (len_s HL)))))))))) rfl) rfl))))) rfl))))) rfl))))) rfl))))) rfl))))) rfl))))))) rfl rfl rfl rfl ?_
  refine s_aldn (p' := 15) rfl rfl rfl ?_
  refine s_aldn (p' := 16) rfl rfl rfl ?_
  refine s_gf (p' := 19) rfl (rd_ss rfl (rd_ss rfl (rd_nw rfl (len_s (len_s (len_s (len_s (len_a (len_s (len_s (len_s (len_s (len_a (len_s (len_s (len_s (len_s (len_a (len_s (len_s (len_s (len_s (len_a (len_s (len_s (len_s (len_s (len_a (len_s (len_s (len_s (len_s (len_a (len_a (len_s (len_s (len_s (len_s (len_s (len_s (len_s (len_s (len_s (len_s HL)))))))))) rfl) rfl))))) rfl))))) rfl))))) rfl))))) rfl))))) rfl)))))))) rfl rfl ?_
  refine s_gf (p' := 22) rfl (rd_sn rfl (rd_sn rfl (rd_app (rd_sn rfl (rd_sn rfl (rd_sn rfl (rd_sn rfl (rd_app (rd_sn rfl (rd_sn rfl (rd_sn rfl (rd_sn rfl (rd_app (rd_sn rfl (rd_sn rfl (rd_sn rfl (rd_sn rfl (rd_app (rd_sn rfl (rd_sn rfl (rd_sn rfl (rd_sn rfl (rd_app (rd_sn rfl (rd_sn rfl (rd_sn rfl (rd_sn rfl (rd_app (rd_sn rfl (rd_sn rfl (rd_sn rfl (rd_sn rfl (rd_app (rd_app (rd_sn rfl (rd_sn rfl (rd_sn rfl (rd_sn rfl (rd_sn rfl (rd_sn rfl (rd_sn rfl (rd_sn rfl (rd_sn rfl (rd_sn rfl H410)))))))))))))))))))))))))))))))))))))))))))) rfl rfl ?_
  refine s_pfz (p' := 25) (fs' := [_, _, _, _]) rfl rfl (rd_ss rfl (rd_ss rfl (rd_nw rfl (len_s (len_s (len_s (len_s (len_a (len_s (len_s (len_s (len_s (len_a (len_s (len_s (len_s (len_s (len_a (len_s (len_s (len_s (len_s (len_a (len_s (len_s (len_s (len_s (len_a (len_s (len_s (len_s (len_s (len_a (len_a (len_s (len_s (len_s (len_s (len_s (len_s (len_s (len_s (len_s (len_s HL)))))))))) rfl) rfl))))) rfl))))) rfl))))) rfl))))) rfl))))) rfl)))))))) rfl rfl rfl rfl ?_
  refine c_ret rfl ?_
  refine c_aret rfl ?_
  refine s_astn (p' := 12) (ls' := [_, _, _, _, _]) rfl rfl rfl rfl ?_
  refine s_aldn (p' := 13) rfl rfl rfl ?_
  refine c_call (p' := 18) (kc := 96) (ls0 := [_]) rfl rfl rfl rfl rfl (mj_rcv_is (rd_ss rfl (rd_ss rfl (rd_ss rfl (rd_nw rfl (len_s (len_s (len_s (len_s (len_a (len_s (len_s (len_s (len_s (len_a (len_s (len_s (len_s (len_s (len_a (len_s (len_s (len_s (len_s (len_a (len_s (len_s (len_s (len_s (len_a (len_s (len_s (len_s (len_s (len_a (len_a (len_s (len_s (len_s (len_s (len_s (len_s (len_s (len_s (len_s (len_s HL)))))))))) rfl) rfl))))) rfl))))) rfl))))) rfl))))) rfl))))) rfl)))))))))) rfl rfl rfl ?_
  refine s_aldn (p' := 1) rfl rfl rfl ?_
  refine s_gf (p' := 4) rfl (rd_ss rfl (rd_ss rfl (rd_ss rfl (rd_nw rfl (len_s (len_s (len_s (len_s (len_a (len_s (len_s (len_s (len_s (len_a (len_s (len_s (len_s (len_s (len_a (len_s (len_s (len_s (len_s (len_a (len_s (len_s (len_s (len_s (len_a (len_s (len_s (len_s (len_s (len_a (len_a (len_s (len_s (len_s (len_s (len_s (len_s (len_s (len_s (len_s (len_s HL)))))))))) rfl) rfl))))) rfl))))) rfl))))) rfl))))) rfl))))) rfl))))))))) rfl rfl ?_
  refine s_aldn (p' := 5) rfl rfl rfl ?_
  refine s_gf (p' := 8) rfl (rd_ss rfl (rd_ss rfl (rd_ss rfl (rd_nw rfl (len_s (len_s (len_s (len_s (len_a (len_s (len_s (len_s (len_s (len_a (len_s (len_s (len_s (len_s (len_a (len_s (len_s (len_s (len_s (len_a (len_s (len_s (len_s (len_s (len_a (len_s (len_s (len_s (len_s (len_a (len_a (len_s (len_s (len_s (len_s (len_s (len_s (len_s (len_s (len_s (len_s HL)))))))))) rfl) rfl))))) rfl))))) rfl))))) rfl))))) rfl))))) rfl))))))))) rfl rfl ?_
  refine s_gf (p' := 11) rfl (rd_sn rfl (rd_sn rfl (rd_sn rfl (rd_app (rd_sn rfl (rd_sn rfl (rd_sn rfl (rd_sn rfl (rd_app (rd_sn rfl (rd_sn rfl (rd_sn rfl (rd_sn rfl (rd_app (rd_sn rfl (rd_sn rfl (rd_sn rfl (rd_sn rfl (rd_app (rd_sn rfl (rd_sn rfl (rd_sn rfl (rd_sn rfl (rd_app (rd_sn rfl (rd_sn rfl (rd_sn rfl (rd_sn rfl (rd_app (rd_sn rfl (rd_sn rfl (rd_sn rfl (rd_sn rfl (rd_app (rd_app (rd_sn rfl (rd_sn rfl (rd_sn rfl (rd_sn rfl (rd_sn rfl (rd_sn rfl (rd_sn rfl (rd_sn rfl (rd_sn rfl (rd_sn rfl H410))))))))))))))))))))))))))))))))))))))))))))) rfl rfl ?_
  refine s_icmp (p' := 18) true rfl (by decide +kernel) rfl ?_
  refine s_con (p' := 19) rfl rfl ?_
  refine c_iret rfl (by decide +kernel) ?_
  refine s_if (p' := 45) true rfl (by decide +kernel) rfl ?_
  refine s_ildn (p' := 46) rfl rfl rfl ?_
  refine c_iret rfl rfl ?_
  refine s_iasz (p' := 21) (m := 6) rfl rfl (rd_sn rfl (rd_sn rfl (rd_sn rfl (rd_app (rd_ss rfl (rd_sn rfl (rd_sn rfl (rd_sn rfl (rd_app (rd_ss rfl (rd_sn rfl (rd_sn rfl (rd_sn rfl (rd_app (rd_ss rfl (rd_sn rfl (rd_sn rfl (rd_sn rfl (rd_app (rd_ss rfl (rd_sn rfl (rd_sn rfl (rd_sn rfl (rd_app (rd_ss rfl (rd_sn rfl (rd_sn rfl (rd_sn rfl (rd_app (rd_ss rfl (rd_sn rfl (rd_sn rfl (rd_sn rfl (rd_app (rd_nw rfl (len_s (len_s (len_s (len_s (len_s (len_s (len_s (len_s (len_s (len_s HL))))))))))))))))))))))))))))))))))))))))))))) (by decide +kernel) rfl rfl rfl ?_
  refine s_incz (p' := 24) (w := (nI 7)) (ls' := [_, _, _, _, _, _, _, _]) rfl rfl rfl (by decide +kernel) rfl rfl ?_
  refine s_goto (p' := 7) rfl rfl ?_
  refine s_ildn (p' := 8) rfl rfl rfl ?_
  refine s_bip (p' := 10) rfl rfl ?_
  refine s_icmp (p' := 13) false rfl (by decide +kernel) rfl ?_
  refine s_aldn (p' := 14) rfl rfl rfl ?_
  refine s_ildn (p' := 15) rfl rfl rfl ?_
  refine s_aldn (p' := 16) rfl rfl rfl ?_
  refine s_ildn (p' := 17) rfl rfl rfl ?_
  refine c_call (p' := 20) (kc := 97) (ls0 := [_, _, _, _, _]) rfl rfl rfl rfl rfl (mj_rcv_is (rd_sn rfl (rd_sn rfl (rd_sn rfl (rd_sn rfl (rd_app (rd_sn rfl (rd_sn rfl (rd_sn rfl (rd_sn rfl (rd_app (rd_sn rfl (rd_sn rfl (rd_sn rfl (rd_sn rfl (rd_app (rd_sn rfl (rd_sn rfl (rd_sn rfl (rd_sn rfl (rd_app (rd_sn rfl (rd_sn rfl (rd_sn rfl (rd_sn rfl (rd_app (rd_sn rfl (rd_sn rfl (rd_sn rfl (rd_sn rfl (rd_app (rd_sn rfl (rd_sn rfl (rd_sn rfl (rd_sn rfl (rd_app (rd_app (rd_ss rfl (rd_sn rfl (rd_sn rfl (rd_sn rfl (rd_sn rfl (rd_sn rfl (rd_sn rfl (rd_sn rfl (rd_sn rfl (rd_sn rfl H400))))))))))))))))))))))))))))))))))))))))))))))) rfl rfl rfl ?_
  refine s_ildn (p' := 1) rfl rfl rfl ?_
  refine s_istn (p' := 2) (ls' := [_, _, _, _, _]) rfl rfl rfl rfl ?_
  refine s_aldn (p' := 3) rfl rfl rfl ?_
  refine s_gf (p' := 6) rfl (rd_sn rfl (rd_sn rfl (rd_sn rfl (rd_sn rfl (rd_app (rd_sn rfl (rd_sn rfl (rd_sn rfl (rd_sn rfl (rd_app (rd_sn rfl (rd_sn rfl (rd_sn rfl (rd_sn rfl (rd_app (rd_sn rfl (rd_sn rfl (rd_sn rfl (rd_sn rfl (rd_app (rd_sn rfl (rd_sn rfl (rd_sn rfl (rd_sn rfl (rd_app (rd_sn rfl (rd_sn rfl (rd_sn rfl (rd_sn rfl (rd_app (rd_sn rfl (rd_sn rfl (rd_sn rfl (rd_sn rfl (rd_app (rd_app (rd_ss rfl (rd_sn rfl (rd_sn rfl (rd_sn rfl (rd_sn rfl (rd_sn rfl (rd_sn rfl (rd_sn rfl (rd_sn rfl (rd_sn rfl H400)))))))))))))))))))))))))))))))))))))))))))))) rfl rfl ?_
  refine c_call (p' := 11) (kc := 96) (ls0 := [_]) rfl rfl rfl rfl rfl (mj_rcv_is (rd_sn rfl (rd_sn rfl (rd_sn rfl (rd_sn rfl (rd_app (rd_sn rfl (rd_sn rfl (rd_sn rfl (rd_sn rfl (rd_app (rd_sn rfl (rd_sn rfl (rd_sn rfl (rd_sn rfl (rd_app (rd_sn rfl (rd_sn rfl (rd_sn rfl (rd_sn rfl (rd_app (rd_sn rfl (rd_sn rfl (rd_sn rfl (rd_sn rfl (rd_app (rd_sn rfl (rd_sn rfl (rd_sn rfl (rd_sn rfl (rd_app (rd_sn rfl (rd_sn rfl (rd_sn rfl (rd_sn rfl (rd_app (rd_app (rd_sn rfl (rd_sn rfl (rd_sn rfl (rd_sn rfl (rd_sn rfl (rd_sn rfl (rd_sn rfl (rd_sn rfl (rd_sn rfl (rd_sn rfl H410))))))))))))))))))))))))))))))))))))))))))))))) rfl rfl rfl ?_
  refine s_newz (p' := 3) (a := 422) rfl (len_s (len_s (len_s (len_s (len_a (len_s (len_s (len_s (len_s (len_a (len_s (len_s (len_s (len_s (len_a (len_s (len_s (len_s (len_s (len_a (len_s (len_s (len_s (len_s (len_a (len_s (len_s (len_s (len_s (len_a (len_s (len_s (len_s (len_s (len_a (len_a (len_s (len_s (len_s (len_s (len_s (len_s (len_s (len_s (len_s (len_s HL)))))))))) rfl) rfl))))) rfl))))) rfl))))) rfl))))) rfl))))) rfl))))) rfl))))) rfl rfl ?_
  refine s_dupr (p' := 4) rfl rfl ?_
  refine s_aldn (p' := 5) rfl rfl rfl ?_
  refine c_call (p' := 8) (kc := 95) (ls0 := [_, _]) rfl rfl rfl rfl rfl (mj_rcv_is (rd_nw rfl (len_s (len_s (len_s (len_s (len_a (len_s (len_s (len_s (len_s (len_a (len_s (len_s (len_s (len_s (len_a (len_s (len_s (len_s (len_s (len_a (len_s (len_s (len_s (len_s (len_a (len_s (len_s (len_s (len_s (len_a (len_s (len_s (len_s (len_s (len_a (len_a (len_s (len_s (len_s (len_s (len_s (len_s (len_s (len_s (len_s (len_s HL)))))))))) rfl) rfl))))) rfl))))) rfl))))) rfl))))) rfl))))) rfl))))) rfl))))))) rfl rfl rfl ?_
  refine s_aldn (p' := 1) rfl rfl rfl ?_
  refine s_aldn (p' := 2) rfl rfl rfl ?_
  refine s_pfz (p' := 5) (fs' := [_, _, _, _]) rfl rfl (rd_nw rfl (len_s (len_s (len_s (len_s (len_a (len_s (len_s (len_s (len_s (len_a (len_s (len_s (len_s (len_s (len_a (len_s (len_s (len_s (len_s (len_a (len_s (len_s (len_s (len_s (len_a (len_s (len_s (len_s (len_s (len_a (len_s (len_s (len_s (len_s (len_a (len_a (len_s (len_s (len_s (len_s (len_s (len_s (len_s (len_s (len_s (len_s HL)))))))))) rfl) rfl))))) rfl))))) rfl))))) rfl))))) rfl))))) rfl))))) rfl)))))) rfl rfl rfl rfl ?_
  refine s_aldn (p' := 6) rfl rfl rfl ?_
  refine s_primN (p' := 9) (q := 3) rfl rfl rfl rfl rfl rfl rfl rfl ?_
  refine s_aldn (p' := 10) rfl rfl rfl ?_
  refine s_con (p' := 11) rfl rfl ?_
  refine s_pfz (p' := 14) (fs' := [_, _, _, _]) rfl rfl (rd_ss rfl (rd_nw rfl (len_s (len_s (len_s (len_s (len_a (len_s (len_s (len_s (len_s (len_a (len_s (len_s (len_s (len_s (len_a (len_s (len_s (len_s (len_s (len_a (len_s (len_s (len_s (len_s (len_a (len_s (len_s (len_s (len_s (len_a (len_s (len_s (len_s (len_s (len_a (len_a (len_s (len_s (len_s (len_s (len_s (len_s (len_s (len_s (len_s (len_s HL)))))))))) rfl) rfl))))) rfl))))) rfl))))) rfl))))) rfl))))) rfl))))) rfl))))))) rfl rfl rfl rfl ?_
  refine s_aldn (p' := 15) rfl rfl rfl ?_
  refine s_aldn (p' := 16) rfl rfl rfl ?_
  refine s_gf (p' := 19) rfl (rd_ss rfl (rd_ss rfl (rd_nw rfl (len_s (len_s (len_s (len_s (len_a (len_s (len_s (len_s (len_s (len_a (len_s (len_s (len_s (len_s (len_a (len_s (len_s (len_s (len_s (len_a (len_s (len_s (len_s (len_s (len_a (len_s (len_s (len_s (len_s (len_a (len_s (len_s (len_s (len_s (len_a (len_a (len_s (len_s (len_s (len_s (len_s (len_s (len_s (len_s (len_s (len_s HL)))))))))) rfl) rfl))))) rfl))))) rfl))))) rfl))))) rfl))))) rfl))))) rfl)))))))) rfl rfl ?_
  refine s_gf (p' := 22) rfl (rd_sn rfl (rd_sn rfl (rd_app (rd_sn rfl (rd_sn rfl (rd_sn rfl (rd_sn rfl (rd_app (rd_sn rfl (rd_sn rfl (rd_sn rfl (rd_sn rfl (rd_app (rd_sn rfl (rd_sn rfl (rd_sn rfl (rd_sn rfl (rd_app (rd_sn rfl (rd_sn rfl (rd_sn rfl (rd_sn rfl (rd_app (rd_sn rfl (rd_sn rfl (rd_sn rfl (rd_sn rfl (rd_app (rd_sn rfl (rd_sn rfl (rd_sn rfl (rd_sn rfl (rd_app (rd_sn rfl (rd_sn rfl (rd_sn rfl (rd_sn rfl (rd_app (rd_app (rd_sn rfl (rd_sn rfl (rd_sn rfl (rd_sn rfl (rd_sn rfl (rd_sn rfl (rd_sn rfl (rd_sn rfl (rd_sn rfl (rd_sn rfl H410))))))))))))))))))))))))))))))))))))))))))))))))) rfl rfl ?_
  refine s_pfz (p' := 25) (fs' := [_, _, _, _]) rfl rfl (rd_ss rfl (rd_ss rfl (rd_nw rfl (len_s (len_s (len_s (len_s (len_a (len_s (len_s (len_s (len_s (len_a (len_s (len_s (len_s (len_s (len_a (len_s (len_s (len_s (len_s (len_a (len_s (len_s (len_s (len_s (len_a (len_s (len_s (len_s (len_s (len_a (len_s (len_s (len_s (len_s (len_a (len_a (len_s (len_s (len_s (len_s (len_s (len_s (len_s (len_s (len_s (len_s HL)))))))))) rfl) rfl))))) rfl))))) rfl))))) rfl))))) rfl))))) rfl))))) rfl)))))))) rfl rfl rfl rfl ?_
  refine c_ret rfl ?_
  refine c_aret rfl ?_
  refine s_astn (p' := 12) (ls' := [_, _, _, _, _]) rfl rfl rfl rfl ?_
  refine s_aldn (p' := 13) rfl rfl rfl ?_
  refine c_call (p' := 18) (kc := 96) (ls0 := [_]) rfl rfl rfl rfl rfl (mj_rcv_is (rd_ss rfl (rd_ss rfl (rd_ss rfl (rd_nw rfl (len_s (len_s (len_s (len_s (len_a (len_s (len_s (len_s (len_s (len_a (len_s (len_s (len_s (len_s (len_a (len_s (len_s (len_s (len_s (len_a (len_s (len_s (len_s (len_s (len_a (len_s (len_s (len_s (len_s (len_a (len_s (len_s (len_s (len_s (len_a (len_a (len_s (len_s (len_s (len_s (len_s (len_s (len_s (len_s (len_s (len_s HL)))))))))) rfl) rfl))))) rfl))))) rfl))))) rfl))))) rfl))))) rfl))))) rfl)))))))))) rfl rfl rfl ?_
  refine s_aldn (p' := 1) rfl rfl rfl ?_
  refine s_gf (p' := 4) rfl (rd_ss rfl (rd_ss rfl (rd_ss rfl (rd_nw rfl (len_s (len_s (len_s (len_s (len_a (len_s (len_s (len_s (len_s (len_a (len_s (len_s (len_s (len_s (len_a (len_s (len_s (len_s (len_s (len_a (len_s (len_s (len_s (len_s (len_a (len_s (len_s (len_s (len_s (len_a (len_s (len_s (len_s (len_s (len_a (len_a (len_s (len_s (len_s (len_s (len_s (len_s (len_s (len_s (len_s (len_s HL)))))))))) rfl) rfl))))) rfl))))) rfl))))) rfl))))) rfl))))) rfl))))) rfl))))))))) rfl rfl ?_
  refine s_aldn (p' := 5) rfl rfl rfl ?_
  refine s_gf (p' := 8) rfl (rd_ss rfl (rd_ss rfl (rd_ss rfl (rd_nw rfl (len_s (len_s (len_s (len_s (len_a (len_s (len_s (len_s (len_s (len_a (len_s (len_s (len_s (len_s (len_a (len_s (len_s (len_s (len_s (len_a (len_s (len_s (len_s (len_s (len_a (len_s (len_s (len_s (len_s (len_a (len_s (len_s (len_s (len_s (len_a (len_a (len_s (len_s (len_s (len_s (len_s (len_s (len_s (len_s (len_s (len_s HL)))))))))) rfl) rfl))))) rfl))))) rfl))))) rfl))))) rfl))))) rfl))))) rfl))))))))) rfl rfl ?_
  refine s_gf (p' := 11) rfl (rd_sn rfl (rd_sn rfl (rd_sn rfl (rd_app (rd_sn rfl (rd_sn rfl (rd_sn rfl (rd_sn rfl (rd_app (rd_sn rfl (rd_sn rfl (rd_sn rfl (rd_sn rfl (rd_app (rd_sn rfl (rd_sn rfl (rd_sn rfl (rd_sn rfl (rd_app (rd_sn rfl (rd_sn rfl (rd_sn rfl (rd_sn rfl (rd_app (rd_sn rfl (rd_sn rfl (rd_sn rfl (rd_sn rfl (rd_app (rd_sn rfl (rd_sn rfl (rd_sn rfl (rd_sn rfl (rd_app (rd_sn rfl (rd_sn rfl (rd_sn rfl (rd_sn rfl (rd_app (rd_app (rd_sn rfl (rd_sn rfl (rd_sn rfl (rd_sn rfl (rd_sn rfl (rd_sn rfl (rd_sn rfl (rd_sn rfl (rd_sn rfl (rd_sn rfl H410)))))))))))))))))))))))))))))))))))))))))))))))))) rfl rfl ?_
  refine s_icmp (p' := 18) true rfl (by decide +kernel) rfl ?_
  refine s_con (p' := 19) rfl rfl ?_
  refine c_iret rfl (by decide +kernel) ?_
  refine s_if (p' := 45) true rfl (by decide +kernel) rfl ?_
  refine s_ildn (p' := 46) rfl rfl rfl ?_
  refine c_iret rfl rfl ?_
  refine s_iasz (p' := 21) (m := 7) rfl rfl (rd_sn rfl (rd_sn rfl (rd_sn rfl (rd_app (rd_ss rfl (rd_sn rfl (rd_sn rfl (rd_sn rfl (rd_app (rd_ss rfl (rd_sn rfl (rd_sn rfl (rd_sn rfl (rd_app (rd_ss rfl (rd_sn rfl (rd_sn rfl (rd_sn rfl (rd_app (rd_ss rfl (rd_sn rfl (rd_sn rfl (rd_sn rfl (rd_app (rd_ss rfl (rd_sn rfl (rd_sn rfl (rd_sn rfl (rd_app (rd_ss rfl (rd_sn rfl (rd_sn rfl (rd_sn rfl (rd_app (rd_ss rfl (rd_sn rfl (rd_sn rfl (rd_sn rfl (rd_app (rd_nw rfl (len_s (len_s (len_s (len_s (len_s (len_s (len_s (len_s (len_s (len_s HL)))))))))))))))))))))))))))))))))))))))))))))))))) (by decide +kernel) rfl rfl rfl ?_
  refine s_incz (p' := 24) (w := (nI 8)) (ls' := [_, _, _, _, _, _, _, _]) rfl rfl rfl (by decide +kernel) rfl rfl ?_
  refine s_goto (p' := 7) rfl rfl ?_
  refine s_ildn (p' := 8) rfl rfl rfl ?_
  refine s_bip (p' := 10) rfl rfl ?_
  refine s_icmp (p' := 27) true rfl (by decide +kernel) rfl ?_
  refine s_newz (p' := 30) (a := 423) rfl (len_s (len_s (len_s (len_s (len_a (len_s (len_s (len_s (len_s (len_a (len_s (len_s (len_s (len_s (len_a (len_s (len_s (len_s (len_s (len_a (len_s (len_s (len_s (len_s (len_a (len_s (len_s (len_s (len_s (len_a (len_s (len_s (len_s (len_s (len_a (len_s (len_s (len_s (len_s (len_a (len_a (len_s (len_s (len_s (len_s (len_s (len_s (len_s (len_s (len_s (len_s HL)))))))))) rfl) rfl))))) rfl))))) rfl))))) rfl))))) rfl))))) rfl))))) rfl))))) rfl))))) rfl rfl ?_
  refine s_dupr (p' := 31) rfl rfl ?_
  refine c_call (p' := 34) (kc := 97) (ls0 := [_]) rfl rfl rfl rfl rfl (mj_rcv_is (rd_nw rfl (len_s (len_s (len_s (len_s (len_a (len_s (len_s (len_s (len_s (len_a (len_s (len_s (len_s (len_s (len_a (len_s (len_s (len_s (len_s (len_a (len_s (len_s (len_s (len_s (len_a (len_s (len_s (len_s (len_s (len_a (len_s (len_s (len_s (len_s (len_a (len_s (len_s (len_s (len_s (len_a (len_a (len_s (len_s (len_s (len_s (len_s (len_s (len_s (len_s (len_s (len_s HL)))))))))) rfl) rfl))))) rfl))))) rfl))))) rfl))))) rfl))))) rfl))))) rfl))))) rfl))))))) rfl rfl rfl ?_
  refine s_aldn (p' := 1) rfl rfl rfl ?_
  refine c_call (p' := 4) (kc := 96) (ls0 := [_]) rfl rfl rfl rfl rfl (mj_rcv_is (rd_nw rfl (len_s (len_s (len_s (len_s (len_a (len_s (len_s (len_s (len_s (len_a (len_s (len_s (len_s (len_s (len_a (len_s (len_s (len_s (len_s (len_a (len_s (len_s (len_s (len_s (len_a (len_s (len_s (len_s (len_s (len_a (len_s (len_s (len_s (len_s (len_a (len_s (len_s (len_s (len_s (len_a (len_a (len_s (len_s (len_s (len_s (len_s (len_s (len_s (len_s (len_s (len_s HL)))))))))) rfl) rfl))))) rfl))))) rfl))))) rfl))))) rfl))))) rfl))))) rfl))))) rfl))))))) rfl rfl rfl ?_
  refine s_aldn (p' := 1) rfl rfl rfl ?_
  refine c_call (p' := 4) (kc := 95) (ls0 := [_]) rfl rfl rfl rfl rfl (mj_rcv_is (rd_nw rfl (len_s (len_s (len_s (len_s (len_a (len_s (len_s (len_s (len_s (len_a (len_s (len_s (len_s (len_s (len_a (len_s (len_s (len_s (len_s (len_a (len_s (len_s (len_s (len_s (len_a (len_s (len_s (len_s (len_s (len_a (len_s (len_s (len_s (len_s (len_a (len_s (len_s (len_s (len_s (len_a (len_a (len_s (len_s (len_s (len_s (len_s (len_s (len_s (len_s (len_s (len_s HL)))))))))) rfl) rfl))))) rfl))))) rfl))))) rfl))))) rfl))))) rfl))))) rfl))))) rfl))))))) rfl rfl rfl ?_
  refine s_aldn (p' := 1) rfl rfl rfl ?_
  refine s_primN (p' := 4) (q := 3) rfl rfl rfl rfl rfl rfl rfl rfl ?_
  refine c_ret rfl ?_
  refine s_aldn (p' := 5) rfl rfl rfl ?_
  refine s_con (p' := 6) rfl rfl ?_
  refine s_pfz (p' := 9) (fs' := [_, _, _]) rfl rfl (rd_nw rfl (len_s (len_s (len_s (len_s (len_a (len_s (len_s (len_s (len_s (len_a (len_s (len_s (len_s (len_s (len_a (len_s (len_s (len_s (len_s (len_a (len_s (len_s (len_s (len_s (len_a (len_s (len_s (len_s (len_s (len_a (len_s (len_s (len_s (len_s (len_a (len_s (len_s (len_s (len_s (len_a (len_a (len_s (len_s (len_s (len_s (len_s (len_s (len_s (len_s (len_s (len_s HL)))))))))) rfl) rfl))))) rfl))))) rfl))))) rfl))))) rfl))))) rfl))))) rfl))))) rfl)))))) rfl rfl rfl rfl ?_
  refine c_ret rfl ?_
  refine s_aldn (p' := 5) rfl rfl rfl ?_
  refine s_sh (p' := 8) (ls' := _) (st' := .ref 1000000 :: _) (h' := _) rfl rfl rfl rfl ?_
  refine s_pfz (p' := 11) (fs' := [_, _, _]) rfl rfl (rd_ss rfl (rd_nw rfl (len_s (len_s (len_s (len_s (len_a (len_s (len_s (len_s (len_s (len_a (len_s (len_s (len_s (len_s (len_a (len_s (len_s (len_s (len_s (len_a (len_s (len_s (len_s (len_s (len_a (len_s (len_s (len_s (len_s (len_a (len_s (len_s (len_s (len_s (len_a (len_s (len_s (len_s (len_s (len_a (len_a (len_s (len_s (len_s (len_s (len_s (len_s (len_s (len_s (len_s (len_s HL)))))))))) rfl) rfl))))) rfl))))) rfl))))) rfl))))) rfl))))) rfl))))) rfl))))) rfl))))))) rfl rfl rfl rfl ?_
  refine c_ret rfl ?_
  refine s_astn (p' := 35) (ls' := [_, _, _, _, _, _, _, _]) rfl rfl rfl rfl ?_
  refine s_con (p' := 36) rfl rfl ?_
  refine s_istn (p' := 37) (ls' := [_, _, _, _, _, _, _, _]) rfl rfl rfl rfl ?_
  refine s_ildn (p' := 38) rfl rfl rfl ?_
  refine s_bip (p' := 40) rfl rfl ?_
  refine s_icmp (p' := 43) false rfl (by decide +kernel) rfl ?_
  refine s_aldn (p' := 44) rfl rfl rfl ?_
  refine s_ildn (p' := 45) rfl rfl rfl ?_
  refine s_ialz (p' := 46) (m := 0) (v := (nI 0)) rfl (rd_sn rfl (rd_sn rfl (rd_app (rd_ss rfl (rd_sn rfl (rd_sn rfl (rd_sn rfl (rd_app (rd_ss rfl (rd_sn rfl (rd_sn rfl (rd_sn rfl (rd_app (rd_ss rfl (rd_sn rfl (rd_sn rfl (rd_sn rfl (rd_app (rd_ss rfl (rd_sn rfl (rd_sn rfl (rd_sn rfl (rd_app (rd_ss rfl (rd_sn rfl (rd_sn rfl (rd_sn rfl (rd_app (rd_ss rfl (rd_sn rfl (rd_sn rfl (rd_sn rfl (rd_app (rd_ss rfl (rd_sn rfl (rd_sn rfl (rd_sn rfl (rd_app (rd_ss rfl (rd_sn rfl (rd_sn rfl (rd_sn rfl (rd_app (rd_nw rfl (len_s (len_s (len_s (len_s (len_s (len_s (len_s (len_s (len_s (len_s HL)))))))))))))))))))))))))))))))))))))))))))))))))))))) (by decide +kernel) rfl (by decide +kernel) rfl ?_
  refine s_ildn (p' := 47) rfl rfl rfl ?_
  refine s_icmp (p' := 145) true rfl (by decide +kernel) rfl ?_
  refine s_incz (p' := 148) (w := (nI 1)) (ls' := [_, _, _, _, _, _, _, _]) rfl rfl rfl (by decide +kernel) rfl rfl ?_
  refine s_goto (p' := 37) rfl rfl ?_
  refine s_ildn (p' := 38) rfl rfl rfl ?_
  refine s_bip (p' := 40) rfl rfl ?_
  refine s_icmp (p' := 43) false rfl (by decide +kernel) rfl ?_
  refine s_aldn (p' := 44) rfl rfl rfl ?_
  refine s_ildn (p' := 45) rfl rfl rfl ?_
  refine s_ialz (p' := 46) (m := 1) (v := (nI 1)) rfl (rd_sn rfl (rd_sn rfl (rd_app (rd_ss rfl (rd_sn rfl (rd_sn rfl (rd_sn rfl (rd_app (rd_ss rfl (rd_sn rfl (rd_sn rfl (rd_sn rfl (rd_app (rd_ss rfl (rd_sn rfl (rd_sn rfl (rd_sn rfl (rd_app (rd_ss rfl (rd_sn rfl (rd_sn rfl (rd_sn rfl (rd_app (rd_ss rfl (rd_sn rfl (rd_sn rfl (rd_sn rfl (rd_app (rd_ss rfl (rd_sn rfl (rd_sn rfl (rd_sn rfl (rd_app (rd_ss rfl (rd_sn rfl (rd_sn rfl (rd_sn rfl (rd_app (rd_ss rfl (rd_sn rfl (rd_sn rfl (rd_sn rfl (rd_app (rd_nw rfl (len_s (len_s (len_s (len_s (len_s (len_s (len_s (len_s (len_s (len_s HL)))))))))))))))))))))))))))))))))))))))))))))))))))))) (by decide +kernel) rfl (by decide +kernel) rfl ?_
  refine s_ildn (p' := 47) rfl rfl rfl ?_
  refine s_icmp (p' := 145) true rfl (by decide +kernel) rfl ?_
  refine s_incz (p' := 148) (w := (nI 2)) (ls' := [_, _, _, _, _, _, _, _]) rfl rfl rfl (by decide +kernel) rfl rfl ?_
  refine s_goto (p' := 37) rfl rfl ?_
  refine s_ildn (p' := 38) rfl rfl rfl ?_
  refine s_bip (p' := 40) rfl rfl ?_
  refine s_icmp (p' := 43) false rfl (by decide +kernel) rfl ?_
  refine s_aldn (p' := 44) rfl rfl rfl ?_
  refine s_ildn (p' := 45) rfl rfl rfl ?_
  refine s_ialz (p' := 46) (m := 2) (v := (nI 2)) rfl (rd_sn rfl (rd_sn rfl (rd_app (rd_ss rfl (rd_sn rfl (rd_sn rfl (rd_sn rfl (rd_app (rd_ss rfl (rd_sn rfl (rd_sn rfl (rd_sn rfl (rd_app (rd_ss rfl (rd_sn rfl (rd_sn rfl (rd_sn rfl (rd_app (rd_ss rfl (rd_sn rfl (rd_sn rfl (rd_sn rfl (rd_app (rd_ss rfl (rd_sn rfl (rd_sn rfl (rd_sn rfl (rd_app (rd_ss rfl (rd_sn rfl (rd_sn rfl (rd_sn rfl (rd_app (rd_ss rfl (rd_sn rfl (rd_sn rfl (rd_sn rfl (rd_app (rd_ss rfl (rd_sn rfl (rd_sn rfl (rd_sn rfl (rd_app (rd_nw rfl (len_s (len_s (len_s (len_s (len_s (len_s (len_s (len_s (len_s (len_s HL)))))))))))))))))))))))))))))))))))))))))))))))))))))) (by decide +kernel) rfl (by decide +kernel) rfl ?_
  refine s_ildn (p' := 47) rfl rfl rfl ?_
  refine s_icmp (p' := 145) true rfl (by decide +kernel) rfl ?_
  refine s_incz (p' := 148) (w := (nI 3)) (ls' := [_, _, _, _, _, _, _, _]) rfl rfl rfl (by decide +kernel) rfl rfl ?_
  refine s_goto (p' := 37) rfl rfl ?_
  refine s_ildn (p' := 38) rfl rfl rfl ?_
  refine s_bip (p' := 40) rfl rfl ?_
  refine s_icmp (p' := 43) false rfl (by decide +kernel) rfl ?_
  refine s_aldn (p' := 44) rfl rfl rfl ?_
  refine s_ildn (p' := 45) rfl rfl rfl ?_
  refine s_ialz (p' := 46) (m := 3) (v := (nI 3)) rfl (rd_sn rfl (rd_sn rfl (rd_app (rd_ss rfl (rd_sn rfl (rd_sn rfl (rd_sn rfl (rd_app (rd_ss rfl (rd_sn rfl (rd_sn rfl (rd_sn rfl (rd_app (rd_ss rfl (rd_sn rfl (rd_sn rfl (rd_sn rfl (rd_app (rd_ss rfl (rd_sn rfl (rd_sn rfl (rd_sn rfl (rd_app (rd_ss rfl (rd_sn rfl (rd_sn rfl (rd_sn rfl (rd_app (rd_ss rfl (rd_sn rfl (rd_sn rfl (rd_sn rfl (rd_app (rd_ss rfl (rd_sn rfl (rd_sn rfl (rd_sn rfl (rd_app (rd_ss rfl (rd_sn rfl (rd_sn rfl (rd_sn rfl (rd_app (rd_nw rfl (len_s (len_s (len_s (len_s (len_s (len_s (len_s (len_s (len_s (len_s HL)))))))))))))))))))))))))))))))))))))))))))))))))))))) (by decide +kernel) rfl (by decide +kernel) rfl ?_
  refine s_ildn (p' := 47) rfl rfl rfl ?_
  refine s_icmp (p' := 145) true rfl (by decide +kernel) rfl ?_
  refine s_incz (p' := 148) (w := (nI 4)) (ls' := [_, _, _, _, _, _, _, _]) rfl rfl rfl (by decide +kernel) rfl rfl ?_
  refine s_goto (p' := 37) rfl rfl ?_
  refine s_ildn (p' := 38) rfl rfl rfl ?_
  refine s_bip (p' := 40) rfl rfl ?_
  refine s_icmp (p' := 43) false rfl (by decide +kernel) rfl ?_
  refine s_aldn (p' := 44) rfl rfl rfl ?_
  refine s_ildn (p' := 45) rfl rfl rfl ?_
  refine s_ialz (p' := 46) (m := 4) (v := (nI 4)) rfl (rd_sn rfl (rd_sn rfl (rd_app (rd_ss rfl (rd_sn rfl (rd_sn rfl (rd_sn rfl (rd_app (rd_ss rfl (rd_sn rfl (rd_sn rfl (rd_sn rfl (rd_app (rd_ss rfl (rd_sn rfl (rd_sn rfl (rd_sn rfl (rd_app (rd_ss rfl (rd_sn rfl (rd_sn rfl (rd_sn rfl (rd_app (rd_ss rfl (rd_sn rfl (rd_sn rfl (rd_sn rfl (rd_app (rd_ss rfl (rd_sn rfl (rd_sn rfl (rd_sn rfl (rd_app (rd_ss rfl (rd_sn rfl (rd_sn rfl (rd_sn rfl (rd_app (rd_ss rfl (rd_sn rfl (rd_sn rfl (rd_sn rfl (rd_app (rd_nw rfl (len_s (len_s (len_s (len_s (len_s (len_s (len_s (len_s (len_s (len_s HL)))))))))))))))))))))))))))))))))))))))))))))))))))))) (by decide +kernel) rfl (by decide +kernel) rfl ?_
  refine s_ildn (p' := 47) rfl rfl rfl ?_
  refine s_icmp (p' := 145) true rfl (by decide +kernel) rfl ?_
  refine s_incz (p' := 148) (w := (nI 5)) (ls' := [_, _, _, _, _, _, _, _]) rfl rfl rfl (by decide +kernel) rfl rfl ?_
  refine s_goto (p' := 37) rfl rfl ?_
  refine s_ildn (p' := 38) rfl rfl rfl ?_
  refine s_bip (p' := 40) rfl rfl ?_
  refine s_icmp (p' := 43) false rfl (by decide +kernel) rfl ?_
  refine s_aldn (p' := 44) rfl rfl rfl ?_
  refine s_ildn (p' := 45) rfl rfl rfl ?_
  refine s_ialz (p' := 46) (m := 5) (v := (nI 5)) rfl (rd_sn rfl (rd_sn rfl (rd_app (rd_ss rfl (rd_sn rfl (rd_sn rfl (rd_sn rfl (rd_app (rd_ss rfl (rd_sn rfl (rd_sn rfl (rd_sn rfl (rd_app (rd_ss rfl (rd_sn rfl (rd_sn rfl (rd_sn rfl (rd_app (rd_ss rfl (rd_sn rfl (rd_sn rfl (rd_sn rfl (rd_app (rd_ss rfl (rd_sn rfl (rd_sn rfl (rd_sn rfl (rd_app (rd_ss rfl (rd_sn rfl (rd_sn rfl (rd_sn rfl (rd_app (rd_ss rfl (rd_sn rfl (rd_sn rfl (rd_sn rfl (rd_app (rd_ss rfl (rd_sn rfl (rd_sn rfl (rd_sn rfl (rd_app (rd_nw rfl (len_s (len_s (len_s (len_s (len_s (len_s (len_s (len_s (len_s (len_s HL)))))))))))))))))))))))))))))))))))))))))))))))))))))) (by decide +kernel) rfl (by decide +kernel) rfl ?_
  refine s_ildn (p' := 47) rfl rfl rfl ?_
  refine s_icmp (p' := 145) true rfl (by decide +kernel) rfl ?_
  refine s_incz (p' := 148) (w := (nI 6)) (ls' := [_, _, _, _, _, _, _, _]) rfl rfl rfl (by decide +kernel) rfl rfl ?_
  refine s_goto (p' := 37) rfl rfl ?_
  refine s_ildn (p' := 38) rfl rfl rfl ?_
  refine s_bip (p' := 40) rfl rfl ?_
  refine s_icmp (p' := 43) false rfl (by decide +kernel) rfl ?_
  refine s_aldn (p' := 44) rfl rfl rfl ?_
  refine s_ildn (p' := 45) rfl rfl rfl ?_
  refine s_ialz (p' := 46) (m := 6) (v := (nI 6)) rfl (rd_sn rfl (rd_sn rfl (rd_app (rd_ss rfl (rd_sn rfl (rd_sn rfl (rd_sn rfl (rd_app (rd_ss rfl (rd_sn rfl (rd_sn rfl (rd_sn rfl (rd_app (rd_ss rfl (rd_sn rfl (rd_sn rfl (rd_sn rfl (rd_app (rd_ss rfl (rd_sn rfl (rd_sn rfl (rd_sn rfl (rd_app (rd_ss rfl (rd_sn rfl (rd_sn rfl (rd_sn rfl (rd_app (rd_ss rfl (rd_sn rfl (rd_sn rfl (rd_sn rfl (rd_app (rd_ss rfl (rd_sn rfl (rd_sn rfl (rd_sn rfl (rd_app (rd_ss rfl (rd_sn rfl (rd_sn rfl (rd_sn rfl (rd_app (rd_nw rfl (len_s (len_s (len_s (len_s (len_s (len_s (len_s (len_s (len_s (len_s HL)))))))))))))))))))))))))))))))))))))))))))))))))))))) (by decide +kernel) rfl (by decide +kernel) rfl ?_
  refine s_ildn (p' := 47) rfl rfl rfl ?_
  refine s_icmp (p' := 145) true rfl (by decide +kernel) rfl ?_
  refine s_incz (p' := 148) (w := (nI 7)) (ls' := [_, _, _, _, _, _, _, _]) rfl rfl rfl (by decide +kernel) rfl rfl ?_
  refine s_goto (p' := 37) rfl rfl ?_
  refine s_ildn (p' := 38) rfl rfl rfl ?_
  refine s_bip (p' := 40) rfl rfl ?_
  refine s_icmp (p' := 43) false rfl (by decide +kernel) rfl ?_
  refine s_aldn (p' := 44) rfl rfl rfl ?_
  refine s_ildn (p' := 45) rfl rfl rfl ?_
  refine s_ialz (p' := 46) (m := 7) (v := (nI 7)) rfl (rd_sn rfl (rd_sn rfl (rd_app (rd_ss rfl (rd_sn rfl (rd_sn rfl (rd_sn rfl (rd_app (rd_ss rfl (rd_sn rfl (rd_sn rfl (rd_sn rfl (rd_app (rd_ss rfl (rd_sn rfl (rd_sn rfl (rd_sn rfl (rd_app (rd_ss rfl (rd_sn rfl (rd_sn rfl (rd_sn rfl (rd_app (rd_ss rfl (rd_sn rfl (rd_sn rfl (rd_sn rfl (rd_app (rd_ss rfl (rd_sn rfl (rd_sn rfl (rd_sn rfl (rd_app (rd_ss rfl (rd_sn rfl (rd_sn rfl (rd_sn rfl (rd_app (rd_ss rfl (rd_sn rfl (rd_sn rfl (rd_sn rfl (rd_app (rd_nw rfl (len_s (len_s (len_s (len_s (len_s (len_s (len_s (len_s (len_s (len_s HL)))))))))))))))))))))))))))))))))))))))))))))))))))))) (by decide +kernel) rfl (by decide +kernel) rfl ?_
  refine s_ildn (p' := 47) rfl rfl rfl ?_
  refine s_icmp (p' := 145) true rfl (by decide +kernel) rfl ?_
  refine s_incz (p' := 148) (w := (nI 8)) (ls' := [_, _, _, _, _, _, _, _]) rfl rfl rfl (by decide +kernel) rfl rfl ?_
  refine s_goto (p' := 37) rfl rfl ?_
  refine s_ildn (p' := 38) rfl rfl rfl ?_
  refine s_bip (p' := 40) rfl rfl ?_
  refine s_icmp (p' := 151) true rfl (by decide +kernel) rfl ?_
  refine s_aldn (p' := 152) rfl rfl rfl ?_
  refine c_aret rfl ?_
  refine c_call (p' := 14) (kc := 98) (ls0 := [_]) rfl rfl rfl rfl rfl (mj_rcv_is (rd_ss rfl (rd_ss rfl (rd_nw rfl (len_s (len_s (len_s (len_s (len_a (len_s (len_s (len_s (len_s (len_a (len_s (len_s (len_s (len_s (len_a (len_s (len_s (len_s (len_s (len_a (len_s (len_s (len_s (len_s (len_a (len_s (len_s (len_s (len_s (len_a (len_s (len_s (len_s (len_s (len_a (len_s (len_s (len_s (len_s (len_a (len_a (len_s (len_s (len_s (len_s (len_s (len_s (len_s (len_s (len_s (len_s HL)))))))))) rfl) rfl))))) rfl))))) rfl))))) rfl))))) rfl))))) rfl))))) rfl))))) rfl))))))))) rfl rfl rfl ?_
  refine s_aldn (p' := 1) rfl rfl rfl ?_
  refine s_gf (p' := 4) rfl (rd_ss rfl (rd_ss rfl (rd_nw rfl (len_s (len_s (len_s (len_s (len_a (len_s (len_s (len_s (len_s (len_a (len_s (len_s (len_s (len_s (len_a (len_s (len_s (len_s (len_s (len_a (len_s (len_s (len_s (len_s (len_a (len_s (len_s (len_s (len_s (len_a (len_s (len_s (len_s (len_s (len_a (len_s (len_s (len_s (len_s (len_a (len_a (len_s (len_s (len_s (len_s (len_s (len_s (len_s (len_s (len_s (len_s HL)))))))))) rfl) rfl))))) rfl))))) rfl))))) rfl))))) rfl))))) rfl))))) rfl))))) rfl)))))))) rfl rfl ?_
  refine c_iret rfl rfl ?_
  refine k_iret rfl rfl ?_
  refine l_icmp (p' := 2541) true rfl rfl (by decide +kernel) rfl ?_
  refine l_incz (p' := 2544) (w := (nI 4)) (ls' := [_, _, _, _, _, _, _, _, _, _]) rfl rfl rfl rfl (by decide +kernel) rfl rfl ?_
  refine l_goto (p' := 28) rfl rfl rfl ?_
  refine l_ild (p' := 30) rfl rfl rfl rfl ?_
  refine l_alds (p' := 31) rfl rfl rfl rfl ?_
  refine l_lens (p' := 32) rfl rfl rfl ?_
  refine l_con (p' := 33) rfl rfl rfl ?_
  refine l_bz (p' := 34) (z := (nI 0)) rfl rfl rfl rfl rfl (by decide +kernel) ?_
  refine l_icmp (p' := 2547) true rfl rfl (by decide +kernel) rfl ?_
  refine l_con (p' := 2548) rfl rfl rfl ?_
  refine l_end rfl rfl ?_
  exact ⟨Nat.le_trans (Nat.le_of_eq (len_s (len_s (len_a (len_s (len_s (len_s (len_s (len_a (len_s (len_s (len_s (len_s (len_a (len_s (len_s (len_s (len_s (len_a (len_s (len_s (len_s (len_s (len_a (len_s (len_s (len_s (len_s (len_a (len_s (len_s (len_s (len_s (len_a (len_s (len_s (len_s (len_s (len_a (len_s (len_s (len_s (len_s (len_a (len_a (len_s (len_s (len_s (len_s (len_s (len_s (len_s (len_s (len_s (len_s HL)))))))))) rfl) rfl))))) rfl))))) rfl))))) rfl))))) rfl))))) rfl))))) rfl))))) rfl))))) rfl)))) (Nat.le_of_ble_eq_true rfl), Nat.le_trans (sz_s rfl (rd_ss rfl (rd_nw rfl (len_s (len_s (len_s (len_s (len_a (len_s (len_s (len_s (len_s (len_a (len_s (len_s (len_s (len_s (len_a (len_s (len_s (len_s (len_s (len_a (len_s (len_s (len_s (len_s (len_a (len_s (len_s (len_s (len_s (len_a (len_s (len_s (len_s (len_s (len_a (len_s (len_s (len_s (len_s (len_a (len_a (len_s (len_s (len_s (len_s (len_s (len_s (len_s (len_s (len_s (len_s HL)))))))))) rfl) rfl))))) rfl))))) rfl))))) rfl))))) rfl))))) rfl))))) rfl))))) rfl))))))) rfl (sz_s rfl (rd_nw rfl (len_s (len_s (len_s (len_s (len_a (len_s (len_s (len_s (len_s (len_a (len_s (len_s (len_s (len_s (len_a (len_s (len_s (len_s (len_s (len_a (len_s (len_s (len_s (len_s (len_a (len_s (len_s (len_s (len_s (len_a (len_s (len_s (len_s (len_s (len_a (len_s (len_s (len_s (len_s (len_a (len_a (len_s (len_s (len_s (len_s (len_s (len_s (len_s (len_s (len_s (len_s HL)))))))))) rfl) rfl))))) rfl))))) rfl))))) rfl))))) rfl))))) rfl))))) rfl))))) rfl)))))) rfl (sz_aa (k := 3) (m := 20043) rfl rfl (sz_sA rfl (rd_sn rfl (rd_sn rfl (rd_sn rfl (rd_app (rd_ss rfl (rd_sn rfl (rd_sn rfl (rd_sn rfl (rd_app (rd_ss rfl (rd_sn rfl (rd_sn rfl (rd_sn rfl (rd_app (rd_ss rfl (rd_sn rfl (rd_sn rfl (rd_sn rfl (rd_app (rd_ss rfl (rd_sn rfl (rd_sn rfl (rd_sn rfl (rd_app (rd_ss rfl (rd_sn rfl (rd_sn rfl (rd_sn rfl (rd_app (rd_ss rfl (rd_sn rfl (rd_sn rfl (rd_sn rfl (rd_app (rd_ss rfl (rd_sn rfl (rd_sn rfl (rd_sn rfl (rd_app (rd_nw rfl (len_s (len_s (len_s (len_s (len_s (len_s (len_s (len_s (len_s (len_s HL)))))))))))))))))))))))))))))))))))))))))))))))))) (sz_s rfl (rd_ss rfl (rd_ss rfl (rd_nw rfl (len_s (len_s (len_s (len_s (len_a (len_s (len_s (len_s (len_s (len_a (len_s (len_s (len_s (len_s (len_a (len_s (len_s (len_s (len_s (len_a (len_s (len_s (len_s (len_s (len_a (len_s (len_s (len_s (len_s (len_a (len_s (len_s (len_s (len_s (len_a (len_a (len_s (len_s (len_s (len_s (len_s (len_s (len_s (len_s (len_s (len_s HL)))))))))) rfl) rfl))))) rfl))))) rfl))))) rfl))))) rfl))))) rfl))))) rfl)))))))) rfl (sz_s rfl (rd_ss rfl (rd_nw rfl (len_s (len_s (len_s (len_s (len_a (len_s (len_s (len_s (len_s (len_a (len_s (len_s (len_s (len_s (len_a (len_s (len_s (len_s (len_s (len_a (len_s (len_s (len_s (len_s (len_a (len_s (len_s (len_s (len_s (len_a (len_s (len_s (len_s (len_s (len_a (len_a (len_s (len_s (len_s (len_s (len_s (len_s (len_s (len_s (len_s (len_s HL)))))))))) rfl) rfl))))) rfl))))) rfl))))) rfl))))) rfl))))) rfl))))) rfl))))))) rfl (sz_s rfl (rd_nw rfl (len_s (len_s (len_s (len_s (len_a (len_s (len_s (len_s (len_s (len_a (len_s (len_s (len_s (len_s (len_a (len_s (len_s (len_s (len_s (len_a (len_s (len_s (len_s (len_s (len_a (len_s (len_s (len_s (len_s (len_a (len_s (len_s (len_s (len_s (len_a (len_a (len_s (len_s (len_s (len_s (len_s (len_s (len_s (len_s (len_s (len_s HL)))))))))) rfl) rfl))))) rfl))))) rfl))))) rfl))))) rfl))))) rfl))))) rfl)))))) rfl (sz_aa (k := 4) (m := 20040) rfl rfl (sz_sA rfl (rd_sn rfl (rd_sn rfl (rd_sn rfl (rd_app (rd_ss rfl (rd_sn rfl (rd_sn rfl (rd_sn rfl (rd_app (rd_ss rfl (rd_sn rfl (rd_sn rfl (rd_sn rfl (rd_app (rd_ss rfl (rd_sn rfl (rd_sn rfl (rd_sn rfl (rd_app (rd_ss rfl (rd_sn rfl (rd_sn rfl (rd_sn rfl (rd_app (rd_ss rfl (rd_sn rfl (rd_sn rfl (rd_sn rfl (rd_app (rd_ss rfl (rd_sn rfl (rd_sn rfl (rd_sn rfl (rd_app (rd_nw rfl (len_s (len_s (len_s (len_s (len_s (len_s (len_s (len_s (len_s (len_s HL))))))))))))))))))))))))))))))))))))))))))))) (sz_s rfl (rd_ss rfl (rd_ss rfl (rd_nw rfl (len_s (len_s (len_s (len_s (len_a (len_s (len_s (len_s (len_s (len_a (len_s (len_s (len_s (len_s (len_a (len_s (len_s (len_s (len_s (len_a (len_s (len_s (len_s (len_s (len_a (len_s (len_s (len_s (len_s (len_a (len_a (len_s (len_s (len_s (len_s (len_s (len_s (len_s (len_s (len_s (len_s HL)))))))))) rfl) rfl))))) rfl))))) rfl))))) rfl))))) rfl))))) rfl)))))))) rfl (sz_s rfl (rd_ss rfl (rd_nw rfl (len_s (len_s (len_s (len_s (len_a (len_s (len_s (len_s (len_s (len_a (len_s (len_s (len_s (len_s (len_a (len_s (len_s (len_s (len_s (len_a (len_s (len_s (len_s (len_s (len_a (len_s (len_s (len_s (len_s (len_a (len_a (len_s (len_s (len_s (len_s (len_s (len_s (len_s (len_s (len_s (len_s HL)))))))))) rfl) rfl))))) rfl))))) rfl))))) rfl))))) rfl))))) rfl))))))) rfl (sz_s rfl (rd_nw rfl (len_s (len_s (len_s (len_s (len_a (len_s (len_s (len_s (len_s (len_a (len_s (len_s (len_s (len_s (len_a (len_s (len_s (len_s (len_s (len_a (len_s (len_s (len_s (len_s (len_a (len_s (len_s (len_s (len_s (len_a (len_a (len_s (len_s (len_s (len_s (len_s (len_s (len_s (len_s (len_s (len_s HL)))))))))) rfl) rfl))))) rfl))))) rfl))))) rfl))))) rfl))))) rfl)))))) rfl (sz_aa (k := 4) (m := 20036) rfl rfl (sz_sA rfl (rd_sn rfl (rd_sn rfl (rd_sn rfl (rd_app (rd_ss rfl (rd_sn rfl (rd_sn rfl (rd_sn rfl (rd_app (rd_ss rfl (rd_sn rfl (rd_sn rfl (rd_sn rfl (rd_app (rd_ss rfl (rd_sn rfl (rd_sn rfl (rd_sn rfl (rd_app (rd_ss rfl (rd_sn rfl (rd_sn rfl (rd_sn rfl (rd_app (rd_ss rfl (rd_sn rfl (rd_sn rfl (rd_sn rfl (rd_app (rd_nw rfl (len_s (len_s (len_s (len_s (len_s (len_s (len_s (len_s (len_s (len_s HL)))))))))))))))))))))))))))))))))))))))) (sz_s rfl (rd_ss rfl (rd_ss rfl (rd_nw rfl (len_s (len_s (len_s (len_s (len_a (len_s (len_s (len_s (len_s (len_a (len_s (len_s (len_s (len_s (len_a (len_s (len_s (len_s (len_s (len_a (len_s (len_s (len_s (len_s (len_a (len_a (len_s (len_s (len_s (len_s (len_s (len_s (len_s (len_s (len_s (len_s HL)))))))))) rfl) rfl))))) rfl))))) rfl))))) rfl))))) rfl)))))))) rfl (sz_s rfl (rd_ss rfl (rd_nw rfl (len_s (len_s (len_s (len_s (len_a (len_s (len_s (len_s (len_s (len_a (len_s (len_s (len_s (len_s (len_a (len_s (len_s (len_s (len_s (len_a (len_s (len_s (len_s (len_s (len_a (len_a (len_s (len_s (len_s (len_s (len_s (len_s (len_s (len_s (len_s (len_s HL)))))))))) rfl) rfl))))) rfl))))) rfl))))) rfl))))) rfl))))))) rfl (sz_s rfl (rd_nw rfl (len_s (len_s (len_s (len_s (len_a (len_s (len_s (len_s (len_s (len_a (len_s (len_s (len_s (len_s (len_a (len_s (len_s (len_s (len_s (len_a (len_s (len_s (len_s (len_s (len_a (len_a (len_s (len_s (len_s (len_s (len_s (len_s (len_s (len_s (len_s (len_s HL)))))))))) rfl) rfl))))) rfl))))) rfl))))) rfl))))) rfl)))))) rfl (sz_aa (k := 4) (m := 20032) rfl rfl (sz_sA rfl (rd_sn rfl (rd_sn rfl (rd_sn rfl (rd_app (rd_ss rfl (rd_sn rfl (rd_sn rfl (rd_sn rfl (rd_app (rd_ss rfl (rd_sn rfl (rd_sn rfl (rd_sn rfl (rd_app (rd_ss rfl (rd_sn rfl (rd_sn rfl (rd_sn rfl (rd_app (rd_ss rfl (rd_sn rfl (rd_sn rfl (rd_sn rfl (rd_app (rd_nw rfl (len_s (len_s (len_s (len_s (len_s (len_s (len_s (len_s (len_s (len_s HL))))))))))))))))))))))))))))))))))) (sz_s rfl (rd_ss rfl (rd_ss rfl (rd_nw rfl (len_s (len_s (len_s (len_s (len_a (len_s (len_s (len_s (len_s (len_a (len_s (len_s (len_s (len_s (len_a (len_s (len_s (len_s (len_s (len_a (len_a (len_s (len_s (len_s (len_s (len_s (len_s (len_s (len_s (len_s (len_s HL)))))))))) rfl) rfl))))) rfl))))) rfl))))) rfl)))))))) rfl (sz_s rfl (rd_ss rfl (rd_nw rfl (len_s (len_s (len_s (len_s (len_a (len_s (len_s (len_s (len_s (len_a (len_s (len_s (len_s (len_s (len_a (len_s (len_s (len_s (len_s (len_a (len_a (len_s (len_s (len_s (len_s (len_s (len_s (len_s (len_s (len_s (len_s HL)))))))))) rfl) rfl))))) rfl))))) rfl))))) rfl))))))) rfl (sz_s rfl (rd_nw rfl (len_s (len_s (len_s (len_s (len_a (len_s (len_s (len_s (len_s (len_a (len_s (len_s (len_s (len_s (len_a (len_s (len_s (len_s (len_s (len_a (len_a (len_s (len_s (len_s (len_s (len_s (len_s (len_s (len_s (len_s (len_s HL)))))))))) rfl) rfl))))) rfl))))) rfl))))) rfl)))))) rfl (sz_aa (k := 4) (m := 20028) rfl rfl (sz_sA rfl (rd_sn rfl (rd_sn rfl (rd_sn rfl (rd_app (rd_ss rfl (rd_sn rfl (rd_sn rfl (rd_sn rfl (rd_app (rd_ss rfl (rd_sn rfl (rd_sn rfl (rd_sn rfl (rd_app (rd_ss rfl (rd_sn rfl (rd_sn rfl (rd_sn rfl (rd_app (rd_nw rfl (len_s (len_s (len_s (len_s (len_s (len_s (len_s (len_s (len_s (len_s HL)))))))))))))))))))))))))))))) (sz_s rfl (rd_ss rfl (rd_ss rfl (rd_nw rfl (len_s (len_s (len_s (len_s (len_a (len_s (len_s (len_s (len_s (len_a (len_s (len_s (len_s (len_s (len_a (len_a (len_s (len_s (len_s (len_s (len_s (len_s (len_s (len_s (len_s (len_s HL)))))))))) rfl) rfl))))) rfl))))) rfl)))))))) rfl (sz_s rfl (rd_ss rfl (rd_nw rfl (len_s (len_s (len_s (len_s (len_a (len_s (len_s (len_s (len_s (len_a (len_s (len_s (len_s (len_s (len_a (len_a (len_s (len_s (len_s (len_s (len_s (len_s (len_s (len_s (len_s (len_s HL)))))))))) rfl) rfl))))) rfl))))) rfl))))))) rfl (sz_s rfl (rd_nw rfl (len_s (len_s (len_s (len_s (len_a (len_s (len_s (len_s (len_s (len_a (len_s (len_s (len_s (len_s (len_a (len_a (len_s (len_s (len_s (len_s (len_s (len_s (len_s (len_s (len_s (len_s HL)))))))))) rfl) rfl))))) rfl))))) rfl)))))) rfl (sz_aa (k := 4) (m := 20024) rfl rfl (sz_sA rfl (rd_sn rfl (rd_sn rfl (rd_sn rfl (rd_app (rd_ss rfl (rd_sn rfl (rd_sn rfl (rd_sn rfl (rd_app (rd_ss rfl (rd_sn rfl (rd_sn rfl (rd_sn rfl (rd_app (rd_nw rfl (len_s (len_s (len_s (len_s (len_s (len_s (len_s (len_s (len_s (len_s HL))))))))))))))))))))))))) (sz_s rfl (rd_ss rfl (rd_ss rfl (rd_nw rfl (len_s (len_s (len_s (len_s (len_a (len_s (len_s (len_s (len_s (len_a (len_a (len_s (len_s (len_s (len_s (len_s (len_s (len_s (len_s (len_s (len_s HL)))))))))) rfl) rfl))))) rfl)))))))) rfl (sz_s rfl (rd_ss rfl (rd_nw rfl (len_s (len_s (len_s (len_s (len_a (len_s (len_s (len_s (len_s (len_a (len_a (len_s (len_s (len_s (len_s (len_s (len_s (len_s (len_s (len_s (len_s HL)))))))))) rfl) rfl))))) rfl))))))) rfl (sz_s rfl (rd_nw rfl (len_s (len_s (len_s (len_s (len_a (len_s (len_s (len_s (len_s (len_a (len_a (len_s (len_s (len_s (len_s (len_s (len_s (len_s (len_s (len_s (len_s HL)))))))))) rfl) rfl))))) rfl)))))) rfl (sz_aa (k := 4) (m := 20020) rfl rfl (sz_sA rfl (rd_sn rfl (rd_sn rfl (rd_sn rfl (rd_app (rd_ss rfl (rd_sn rfl (rd_sn rfl (rd_sn rfl (rd_app (rd_nw rfl (len_s (len_s (len_s (len_s (len_s (len_s (len_s (len_s (len_s (len_s HL)))))))))))))))))))) (sz_s rfl (rd_ss rfl (rd_ss rfl (rd_nw rfl (len_s (len_s (len_s (len_s (len_a (len_a (len_s (len_s (len_s (len_s (len_s (len_s (len_s (len_s (len_s (len_s HL)))))))))) rfl) rfl)))))))) rfl (sz_s rfl (rd_ss rfl (rd_nw rfl (len_s (len_s (len_s (len_s (len_a (len_a (len_s (len_s (len_s (len_s (len_s (len_s (len_s (len_s (len_s (len_s HL)))))))))) rfl) rfl))))))) rfl (sz_s rfl (rd_nw rfl (len_s (len_s (len_s (len_s (len_a (len_a (len_s (len_s (len_s (len_s (len_s (len_s (len_s (len_s (len_s (len_s HL)))))))))) rfl) rfl)))))) rfl (sz_aa (k := 4) (m := 20016) rfl rfl (sz_sA rfl (rd_sn rfl (rd_sn rfl (rd_sn rfl (rd_app (rd_nw rfl (len_s (len_s (len_s (len_s (len_s (len_s (len_s (len_s (len_s (len_s HL))))))))))))))) (sz_s rfl (rd_ss rfl (rd_ss rfl (rd_nw rfl (len_a (len_s (len_s (len_s (len_s (len_s (len_s (len_s (len_s (len_s (len_s HL)))))))))) rfl)))) rfl (sz_s rfl (rd_ss rfl (rd_nw rfl (len_a (len_s (len_s (len_s (len_s (len_s (len_s (len_s (len_s (len_s (len_s HL)))))))))) rfl))) rfl (sz_s rfl (rd_nw rfl (len_a (len_s (len_s (len_s (len_s (len_s (len_s (len_s (len_s (len_s (len_s HL)))))))))) rfl)) rfl (sz_aa (k := 4) (m := 20012) rfl rfl (sz_aa (k := 8) (m := 20008) rfl rfl (sz_s rfl (rd_sn rfl (rd_sn rfl (rd_sn rfl (rd_sn rfl (rd_sn rfl (rd_sn rfl (rd_sn rfl (rd_sn rfl (rd_sn rfl H400))))))))) rfl (sz_s rfl (rd_sn rfl (rd_sn rfl (rd_sn rfl (rd_sn rfl (rd_sn rfl (rd_sn rfl (rd_sn rfl (rd_sn rfl H393)))))))) rfl (sz_sA rfl (rd_ss rfl (rd_ss rfl (rd_ss rfl (rd_ss rfl (rd_ss rfl (rd_ss rfl (rd_ss rfl H395))))))) (sz_sA rfl (rd_ss rfl (rd_ss rfl (rd_ss rfl (rd_ss rfl (rd_ss rfl (rd_ss rfl H395)))))) (sz_sA rfl (rd_ss rfl (rd_ss rfl (rd_ss rfl (rd_ss rfl (rd_ss rfl H395))))) (sz_sA rfl (rd_ss rfl (rd_ss rfl (rd_ss rfl (rd_ss rfl H395)))) (sz_sA rfl (rd_ss rfl (rd_ss rfl (rd_ss rfl H395))) (sz_sA rfl (rd_ss rfl (rd_ss rfl H395)) (sz_sA rfl (rd_ss rfl H395) (sz_sA rfl H395 HZ)))))))))))))))))))))))))))))))))))))))))))))))))))))) (Nat.le_of_ble_eq_true rfl)⟩
theorem p1_39 {xs : Nat → Int32} {h : mj_H} (hk : xs 0 &&& nI 63 = nI 39)   (HL : h.length = 414) (HZ : mj_sz h ≤ 20000) (H0 : mj_rd h 0 = some (.inr (0, [.ref 1, .ref 38, .ref 299, .ref 336, .ref 373, .ref 375, .ref 378, .ref 381, .ref 387, .ref 393, .null, .null, .ref 397, .ref 398, .ref 399, .long (lN 0), .long (lN 0)]))) (H393 : mj_rd h 393 = some (.inr (9, [.ref 394, .ref 395, .ref 396, .int (nI 0), .int (nI 0)]))) (H400 : mj_rd h 400 = some (.inr (17, [.int (nI 0), .ref 401, .ref 402, .ref 1000300, .long (lN 0), .long (lN 0), .ref 410, .null, .null, .null, .ref 411]))) (H410 : mj_rd h 410 = some (.inr (18, [.ref 1000000, .int (nI 0), .int (nI 0)]))) : mj_fin 4 xs h := by
  unfold mj_fin
  refine l_ild (p' := 30) rfl rfl rfl rfl ?_
  refine l_alds (p' := 31) rfl rfl rfl rfl ?_
  refine l_lens (p' := 32) rfl rfl rfl ?_
  refine l_con (p' := 33) rfl rfl rfl ?_
  refine l_bz (p' := 34) (z := (nI 0)) rfl rfl rfl rfl rfl (by decide +kernel) ?_
  refine l_icmp (p' := 37) false rfl rfl (by decide +kernel) rfl ?_
  refine l_alds (p' := 38) rfl rfl rfl rfl ?_
  refine l_ild (p' := 40) rfl rfl rfl rfl ?_
  refine l_ialz (p' := 41) (m := 0) (z := (xs 0)) rfl rfl (by decide +kernel) rfl rfl rfl ?_
  refine l_bip (p' := 43) rfl rfl rfl ?_
  refine l_bz (p' := 44) (z := (nI 39)) rfl rfl rfl rfl rfl hk ?_
  refine l_sp (p' := 2162) (ls' := _) rfl rfl rfl rfl rfl ?_
  refine l_aldn (p' := 2163) rfl rfl rfl rfl ?_
  refine l_call (p' := 2166) (kc := 99) (ls0 := [_, _, _]) rfl rfl rfl rfl rfl rfl (mj_rcv_is H0) rfl rfl rfl ?_
  refine s_con (p' := 1) rfl rfl ?_
  refine s_istn (p' := 2) (ls' := [_, _, _]) rfl rfl rfl rfl ?_
  refine s_con (p' := 3) rfl rfl ?_
  refine s_istn (p' := 4) (ls' := [_, _, _]) rfl rfl rfl rfl ?_
  refine s_ildn (p' := 5) rfl rfl rfl ?_
  refine s_bip (p' := 7) rfl rfl ?_
  refine s_icmp (p' := 10) false rfl (by decide +kernel) rfl ?_
  refine s_aldn (p' := 11) rfl rfl rfl ?_
  refine s_gf (p' := 14) rfl H0 rfl rfl ?_
  refine s_ildn (p' := 15) rfl rfl rfl ?_
  refine c_call (p' := 18) (kc := 98) (ls0 := [_, _, _, _]) rfl rfl rfl rfl rfl (mj_rcv_is H393) rfl rfl rfl ?_
  refine s_ildn (p' := 1) rfl rfl rfl ?_
  refine s_istn (p' := 2) (ls' := [_, _, _, _]) rfl rfl rfl rfl ?_
  refine s_con (p' := 3) rfl rfl ?_
  refine s_istn (p' := 4) (ls' := [_, _, _, _]) rfl rfl rfl rfl ?_
  refine s_ildn (p' := 5) rfl rfl rfl ?_
  refine s_bip (p' := 7) rfl rfl ?_
  refine s_icmp (p' := 10) false rfl (by decide +kernel) rfl ?_
  refine s_aldn (p' := 11) rfl rfl rfl ?_
  refine s_ildn (p' := 12) rfl rfl rfl ?_
  refine c_call (p' := 15) (kc := 97) (ls0 := [_, _, _, _]) rfl rfl rfl rfl rfl (mj_rcv_is H393) rfl rfl rfl ?_
  refine s_ildn (p' := 1) rfl rfl rfl ?_
  refine s_istn (p' := 2) (ls' := [_, _, _, _]) rfl rfl rfl rfl ?_
  refine s_con (p' := 3) rfl rfl ?_
  refine s_istn (p' := 4) (ls' := [_, _, _, _]) rfl rfl rfl rfl ?_
  refine s_ildn (p' := 5) rfl rfl rfl ?_
  refine s_aldn (p' := 6) rfl rfl rfl ?_
  refine s_gf (p' := 9) rfl H393 rfl rfl ?_
  refine s_icmp (p' := 38) true rfl (by decide +kernel) rfl ?_
  refine s_ildn (p' := 39) rfl rfl rfl ?_
  refine c_iret rfl rfl ?_
  refine s_istn (p' := 16) (ls' := [_, _, _, _]) rfl rfl rfl rfl ?_
  refine s_ildn (p' := 17) rfl rfl rfl ?_
  refine s_ildn (p' := 18) rfl rfl rfl ?_
  refine s_icmp (p' := 23) true rfl (by decide +kernel) rfl ?_
  refine s_incz (p' := 26) (w := (nI 1)) (ls' := [_, _, _, _]) rfl rfl rfl (by decide +kernel) rfl rfl ?_
  refine s_goto (p' := 4) rfl rfl ?_
  refine s_ildn (p' := 5) rfl rfl rfl ?_
  refine s_bip (p' := 7) rfl rfl ?_
  refine s_icmp (p' := 10) false rfl (by decide +kernel) rfl ?_
  refine s_aldn (p' := 11) rfl rfl rfl ?_
  refine s_ildn (p' := 12) rfl rfl rfl ?_
  refine c_call (p' := 15) (kc := 97) (ls0 := [_, _, _, _]) rfl rfl rfl rfl rfl (mj_rcv_is H393) rfl rfl rfl ?_
  refine s_ildn (p' := 1) rfl rfl rfl ?_
  refine s_istn (p' := 2) (ls' := [_, _, _, _]) rfl rfl rfl rfl ?_
  refine s_con (p' := 3) rfl rfl ?_
  refine s_istn (p' := 4) (ls' := [_, _, _, _]) rfl rfl rfl rfl ?_
  refine s_ildn (p' := 5) rfl rfl rfl ?_
  refine s_aldn (p' := 6) rfl rfl rfl ?_
  refine s_gf (p' := 9) rfl H393 rfl rfl ?_
  refine s_icmp (p' := 38) true rfl (by decide +kernel) rfl ?_
  refine s_ildn (p' := 39) rfl rfl rfl ?_
  refine c_iret rfl rfl ?_
  refine s_istn (p' := 16) (ls' := [_, _, _, _]) rfl rfl rfl rfl ?_
  refine s_ildn (p' := 17) rfl rfl rfl ?_
  refine s_ildn (p' := 18) rfl rfl rfl ?_
  refine s_icmp (p' := 23) true rfl (by decide +kernel) rfl ?_
  refine s_incz (p' := 26) (w := (nI 2)) (ls' := [_, _, _, _]) rfl rfl rfl (by decide +kernel) rfl rfl ?_
  refine s_goto (p' := 4) rfl rfl ?_
  refine s_ildn (p' := 5) rfl rfl rfl ?_
  refine s_bip (p' := 7) rfl rfl ?_
  refine s_icmp (p' := 10) false rfl (by decide +kernel) rfl ?_
  refine s_aldn (p' := 11) rfl rfl rfl ?_
  refine s_ildn (p' := 12) rfl rfl rfl ?_
  refine c_call (p' := 15) (kc := 97) (ls0 := [_, _, _, _]) rfl rfl rfl rfl rfl (mj_rcv_is H393) rfl rfl rfl ?_
  refine s_ildn (p' := 1) rfl rfl rfl ?_
  refine s_istn (p' := 2) (ls' := [_, _, _, _]) rfl rfl rfl rfl ?_
  refine s_con (p' := 3) rfl rfl ?_
  refine s_istn (p' := 4) (ls' := [_, _, _, _]) rfl rfl rfl rfl ?_
  refine s_ildn (p' := 5) rfl rfl rfl ?_
  refine s_aldn (p' := 6) rfl rfl rfl ?_
  refine s_gf (p' := 9) rfl H393 rfl rfl ?_
  refine s_icmp (p' := 38) true rfl (by decide +kernel) rfl ?_
  refine s_ildn (p' := 39) rfl rfl rfl ?_
  refine c_iret rfl rfl ?_
  refine s_istn (p' := 16) (ls' := [_, _, _, _]) rfl rfl rfl rfl ?_
  refine s_ildn (p' := 17) rfl rfl rfl ?_
  refine s_ildn (p' := 18) rfl rfl rfl ?_
  refine s_icmp (p' := 23) true rfl (by decide +kernel) rfl ?_
  refine s_incz (p' := 26) (w := (nI 3)) (ls' := [_, _, _, _]) rfl rfl rfl (by decide +kernel) rfl rfl ?_
  refine s_goto (p' := 4) rfl rfl ?_
  refine s_ildn (p' := 5) rfl rfl rfl ?_
  refine s_bip (p' := 7) rfl rfl ?_
  refine s_icmp (p' := 10) false rfl (by decide +kernel) rfl ?_
  refine s_aldn (p' := 11) rfl rfl rfl ?_
  refine s_ildn (p' := 12) rfl rfl rfl ?_
  refine c_call (p' := 15) (kc := 97) (ls0 := [_, _, _, _]) rfl rfl rfl rfl rfl (mj_rcv_is H393) rfl rfl rfl ?_
  refine s_ildn (p' := 1) rfl rfl rfl ?_
  refine s_istn (p' := 2) (ls' := [_, _, _, _]) rfl rfl rfl rfl ?_
  refine s_con (p' := 3) rfl rfl ?_
  refine s_istn (p' := 4) (ls' := [_, _, _, _]) rfl rfl rfl rfl ?_
  refine s_ildn (p' := 5) rfl rfl rfl ?_
  refine s_aldn (p' := 6) rfl rfl rfl ?_
  refine s_gf (p' := 9) rfl H393 rfl rfl ?_
  refine s_icmp (p' := 38) true rfl (by decide +kernel) rfl ?_
  refine s_ildn (p' := 39) rfl rfl rfl ?_
  refine c_iret rfl rfl ?_
  refine s_istn (p' := 16) (ls' := [_, _, _, _]) rfl rfl rfl rfl ?_
  refine s_ildn (p' := 17) rfl rfl rfl ?_
  refine s_ildn (p' := 18) rfl rfl rfl ?_
  refine s_icmp (p' := 23) true rfl (by decide +kernel) rfl ?_
  refine s_incz (p' := 26) (w := (nI 4)) (ls' := [_, _, _, _]) rfl rfl rfl (by decide +kernel) rfl rfl ?_
  refine s_goto (p' := 4) rfl rfl ?_
  refine s_ildn (p' := 5) rfl rfl rfl ?_
  refine s_bip (p' := 7) rfl rfl ?_
  refine s_icmp (p' := 10) false rfl (by decide +kernel) rfl ?_
  refine s_aldn (p' := 11) rfl rfl rfl ?_
  refine s_ildn (p' := 12) rfl rfl rfl ?_
  refine c_call (p' := 15) (kc := 97) (ls0 := [_, _, _, _]) rfl rfl rfl rfl rfl (mj_rcv_is H393) rfl rfl rfl ?_
  refine s_ildn (p' := 1) rfl rfl rfl ?_
  refine s_istn (p' := 2) (ls' := [_, _, _, _]) rfl rfl rfl rfl ?_
  refine s_con (p' := 3) rfl rfl ?_
  refine s_istn (p' := 4) (ls' := [_, _, _, _]) rfl rfl rfl rfl ?_
  refine s_ildn (p' := 5) rfl rfl rfl ?_
  refine s_aldn (p' := 6) rfl rfl rfl ?_
  refine s_gf (p' := 9) rfl H393 rfl rfl ?_
  refine s_icmp (p' := 38) true rfl (by decide +kernel) rfl ?_
  refine s_ildn (p' := 39) rfl rfl rfl ?_
  refine c_iret rfl rfl ?_
  refine s_istn (p' := 16) (ls' := [_, _, _, _]) rfl rfl rfl rfl ?_
  refine s_ildn (p' := 17) rfl rfl rfl ?_
  refine s_ildn (p' := 18) rfl rfl rfl ?_
  refine s_icmp (p' := 23) true rfl (by decide +kernel) rfl ?_
  refine s_incz (p' := 26) (w := (nI 5)) (ls' := [_, _, _, _]) rfl rfl rfl (by decide +kernel) rfl rfl ?_
  refine s_goto (p' := 4) rfl rfl ?_
  refine s_ildn (p' := 5) rfl rfl rfl ?_
  refine s_bip (p' := 7) rfl rfl ?_
  refine s_icmp (p' := 10) false rfl (by decide +kernel) rfl ?_
  refine s_aldn (p' := 11) rfl rfl rfl ?_
  refine s_ildn (p' := 12) rfl rfl rfl ?_
  refine c_call (p' := 15) (kc := 97) (ls0 := [_, _, _, _]) rfl rfl rfl rfl rfl (mj_rcv_is H393) rfl rfl rfl ?_
  refine s_ildn (p' := 1) rfl rfl rfl ?_
  refine s_istn (p' := 2) (ls' := [_, _, _, _]) rfl rfl rfl rfl ?_
  refine s_con (p' := 3) rfl rfl ?_
  refine s_istn (p' := 4) (ls' := [_, _, _, _]) rfl rfl rfl rfl ?_
  refine s_ildn (p' := 5) rfl rfl rfl ?_
  refine s_aldn (p' := 6) rfl rfl rfl ?_
  refine s_gf (p' := 9) rfl H393 rfl rfl ?_
  refine s_icmp (p' := 38) true rfl (by decide +kernel) rfl ?_
  refine s_ildn (p' := 39) rfl rfl rfl ?_
  refine c_iret rfl rfl ?_
  refine s_istn (p' := 16) (ls' := [_, _, _, _]) rfl rfl rfl rfl ?_
  refine s_ildn (p' := 17) rfl rfl rfl ?_
  refine s_ildn (p' := 18) rfl rfl rfl ?_
  refine s_icmp (p' := 23) true rfl (by decide +kernel) rfl ?_
  refine s_incz (p' := 26) (w := (nI 6)) (ls' := [_, _, _, _]) rfl rfl rfl (by decide +kernel) rfl rfl ?_
  refine s_goto (p' := 4) rfl rfl ?_
  refine s_ildn (p' := 5) rfl rfl rfl ?_
  refine s_bip (p' := 7) rfl rfl ?_
  refine s_icmp (p' := 10) false rfl (by decide +kernel) rfl ?_
  refine s_aldn (p' := 11) rfl rfl rfl ?_
  refine s_ildn (p' := 12) rfl rfl rfl ?_
  refine c_call (p' := 15) (kc := 97) (ls0 := [_, _, _, _]) rfl rfl rfl rfl rfl (mj_rcv_is H393) rfl rfl rfl ?_
  refine s_ildn (p' := 1) rfl rfl rfl ?_
  refine s_istn (p' := 2) (ls' := [_, _, _, _]) rfl rfl rfl rfl ?_
  refine s_con (p' := 3) rfl rfl ?_
  refine s_istn (p' := 4) (ls' := [_, _, _, _]) rfl rfl rfl rfl ?_
  refine s_ildn (p' := 5) rfl rfl rfl ?_
  refine s_aldn (p' := 6) rfl rfl rfl ?_
  refine s_gf (p' := 9) rfl H393 rfl rfl ?_
  refine s_icmp (p' := 38) true rfl (by decide +kernel) rfl ?_
  refine s_ildn (p' := 39) rfl rfl rfl ?_
  refine c_iret rfl rfl ?_
  refine s_istn (p' := 16) (ls' := [_, _, _, _]) rfl rfl rfl rfl ?_
  refine s_ildn (p' := 17) rfl rfl rfl ?_
  refine s_ildn (p' := 18) rfl rfl rfl ?_
  refine s_icmp (p' := 23) true rfl (by decide +kernel) rfl ?_
  refine s_incz (p' := 26) (w := (nI 7)) (ls' := [_, _, _, _]) rfl rfl rfl (by decide +kernel) rfl rfl ?_
  refine s_goto (p' := 4) rfl rfl ?_
  refine s_ildn (p' := 5) rfl rfl rfl ?_
  refine s_bip (p' := 7) rfl rfl ?_
  refine s_icmp (p' := 10) false rfl (by decide +kernel) rfl ?_
  refine s_aldn (p' := 11) rfl rfl rfl ?_
  refine s_ildn (p' := 12) rfl rfl rfl ?_
  refine c_call (p' := 15) (kc := 97) (ls0 := [_, _, _, _]) rfl rfl rfl rfl rfl (mj_rcv_is H393) rfl rfl rfl ?_
  refine s_ildn (p' := 1) rfl rfl rfl ?_
  refine s_istn (p' := 2) (ls' := [_, _, _, _]) rfl rfl rfl rfl ?_
  refine s_con (p' := 3) rfl rfl ?_
  refine s_istn (p' := 4) (ls' := [_, _, _, _]) rfl rfl rfl rfl ?_
  refine s_ildn (p' := 5) rfl rfl rfl ?_
  refine s_aldn (p' := 6) rfl rfl rfl ?_
  refine s_gf (p' := 9) rfl H393 rfl rfl ?_
  refine s_icmp (p' := 38) true rfl (by decide +kernel) rfl ?_
  refine s_ildn (p' := 39) rfl rfl rfl ?_
  refine c_iret rfl rfl ?_
  refine s_istn (p' := 16) (ls' := [_, _, _, _]) rfl rfl rfl rfl ?_
  refine s_ildn (p' := 17) rfl rfl rfl ?_
  refine s_ildn (p' := 18) rfl rfl rfl ?_
  refine s_icmp (p' := 23) true rfl (by decide +kernel) rfl ?_
  refine s_incz (p' := 26) (w := (nI 8)) (ls' := [_, _, _, _]) rfl rfl rfl (by decide +kernel) rfl rfl ?_
  refine s_goto (p' := 4) rfl rfl ?_
  refine s_ildn (p' := 5) rfl rfl rfl ?_
  refine s_bip (p' := 7) rfl rfl ?_
  refine s_icmp (p' := 29) true rfl (by decide +kernel) rfl ?_
  refine s_con (p' := 30) rfl rfl ?_
  refine c_iret rfl (by decide +kernel) ?_
  refine s_if (p' := 21) false rfl (by decide +kernel) rfl ?_
  refine s_incz (p' := 24) (w := (nI 1)) (ls' := [_, _, _]) rfl rfl rfl (by decide +kernel) rfl rfl ?_
  refine s_incz (p' := 27) (w := (nI 1)) (ls' := [_, _, _]) rfl rfl rfl (by decide +kernel) rfl rfl ?_
  refine s_goto (p' := 4) rfl rfl ?_
  refine s_ildn (p' := 5) rfl rfl rfl ?_
  refine s_bip (p' := 7) rfl rfl ?_
  refine s_icmp (p' := 10) false rfl (by decide +kernel) rfl ?_
  refine s_aldn (p' := 11) rfl rfl rfl ?_
  refine s_gf (p' := 14) rfl H0 rfl rfl ?_
  refine s_ildn (p' := 15) rfl rfl rfl ?_
  refine c_call (p' := 18) (kc := 98) (ls0 := [_, _, _, _]) rfl rfl rfl rfl rfl (mj_rcv_is H393) rfl rfl rfl ?_
  refine s_ildn (p' := 1) rfl rfl rfl ?_
  refine s_istn (p' := 2) (ls' := [_, _, _, _]) rfl rfl rfl rfl ?_
  refine s_con (p' := 3) rfl rfl ?_
  refine s_istn (p' := 4) (ls' := [_, _, _, _]) rfl rfl rfl rfl ?_
  refine s_ildn (p' := 5) rfl rfl rfl ?_
  refine s_bip (p' := 7) rfl rfl ?_
  refine s_icmp (p' := 10) false rfl (by decide +kernel) rfl ?_
  refine s_aldn (p' := 11) rfl rfl rfl ?_
  refine s_ildn (p' := 12) rfl rfl rfl ?_
  refine c_call (p' := 15) (kc := 97) (ls0 := [_, _, _, _]) rfl rfl rfl rfl rfl (mj_rcv_is H393) rfl rfl rfl ?_
  refine s_ildn (p' := 1) rfl rfl rfl ?_
  refine s_istn (p' := 2) (ls' := [_, _, _, _]) rfl rfl rfl rfl ?_
  refine s_con (p' := 3) rfl rfl ?_
  refine s_istn (p' := 4) (ls' := [_, _, _, _]) rfl rfl rfl rfl ?_
  refine s_ildn (p' := 5) rfl rfl rfl ?_
  refine s_aldn (p' := 6) rfl rfl rfl ?_
  refine s_gf (p' := 9) rfl H393 rfl rfl ?_
  refine s_icmp (p' := 38) true rfl (by decide +kernel) rfl ?_
  refine s_ildn (p' := 39) rfl rfl rfl ?_
  refine c_iret rfl rfl ?_
  refine s_istn (p' := 16) (ls' := [_, _, _, _]) rfl rfl rfl rfl ?_
  refine s_ildn (p' := 17) rfl rfl rfl ?_
  refine s_ildn (p' := 18) rfl rfl rfl ?_
  refine s_icmp (p' := 23) true rfl (by decide +kernel) rfl ?_
  refine s_incz (p' := 26) (w := (nI 1)) (ls' := [_, _, _, _]) rfl rfl rfl (by decide +kernel) rfl rfl ?_
  refine s_goto (p' := 4) rfl rfl ?_
  refine s_ildn (p' := 5) rfl rfl rfl ?_
  refine s_bip (p' := 7) rfl rfl ?_
  refine s_icmp (p' := 10) false rfl (by decide +kernel) rfl ?_
  refine s_aldn (p' := 11) rfl rfl rfl ?_
  refine s_ildn (p' := 12) rfl rfl rfl ?_
  refine c_call (p' := 15) (kc := 97) (ls0 := [_, _, _, _]) rfl rfl rfl rfl rfl (mj_rcv_is H393) rfl rfl rfl ?_
  refine s_ildn (p' := 1) rfl rfl rfl ?_
  refine s_istn (p' := 2) (ls' := [_, _, _, _]) rfl rfl rfl rfl ?_
  refine s_con (p' := 3) rfl rfl ?_
  refine s_istn (p' := 4) (ls' := [_, _, _, _]) rfl rfl rfl rfl ?_
  refine s_ildn (p' := 5) rfl rfl rfl ?_
  refine s_aldn (p' := 6) rfl rfl rfl ?_
  refine s_gf (p' := 9) rfl H393 rfl rfl ?_
  refine s_icmp (p' := 38) true rfl (by decide +kernel) rfl ?_
  refine s_ildn (p' := 39) rfl rfl rfl ?_
  refine c_iret rfl rfl ?_
  refine s_istn (p' := 16) (ls' := [_, _, _, _]) rfl rfl rfl rfl ?_
  refine s_ildn (p' := 17) rfl rfl rfl ?_
  refine s_ildn (p' := 18) rfl rfl rfl ?_
  refine s_icmp (p' := 23) true rfl (by decide +kernel) rfl ?_
  refine s_incz (p' := 26) (w := (nI 2)) (ls' := [_, _, _, _]) rfl rfl rfl (by decide +kernel) rfl rfl ?_
  refine s_goto (p' := 4) rfl rfl ?_
  refine s_ildn (p' := 5) rfl rfl rfl ?_
  refine s_bip (p' := 7) rfl rfl ?_
  refine s_icmp (p' := 10) false rfl (by decide +kernel) rfl ?_
  refine s_aldn (p' := 11) rfl rfl rfl ?_
  refine s_ildn (p' := 12) rfl rfl rfl ?_
  refine c_call (p' := 15) (kc := 97) (ls0 := [_, _, _, _]) rfl rfl rfl rfl rfl (mj_rcv_is H393) rfl rfl rfl ?_
  refine s_ildn (p' := 1) rfl rfl rfl ?_
  refine s_istn (p' := 2) (ls' := [_, _, _, _]) rfl rfl rfl rfl ?_
  refine s_con (p' := 3) rfl rfl ?_
  refine s_istn (p' := 4) (ls' := [_, _, _, _]) rfl rfl rfl rfl ?_
  refine s_ildn (p' := 5) rfl rfl rfl ?_
  refine s_aldn (p' := 6) rfl rfl rfl ?_
  refine s_gf (p' := 9) rfl H393 rfl rfl ?_
  refine s_icmp (p' := 38) true rfl (by decide +kernel) rfl ?_
  refine s_ildn (p' := 39) rfl rfl rfl ?_
  refine c_iret rfl rfl ?_
  refine s_istn (p' := 16) (ls' := [_, _, _, _]) rfl rfl rfl rfl ?_
  refine s_ildn (p' := 17) rfl rfl rfl ?_
  refine s_ildn (p' := 18) rfl rfl rfl ?_
  refine s_icmp (p' := 23) true rfl (by decide +kernel) rfl ?_
  refine s_incz (p' := 26) (w := (nI 3)) (ls' := [_, _, _, _]) rfl rfl rfl (by decide +kernel) rfl rfl ?_
  refine s_goto (p' := 4) rfl rfl ?_
  refine s_ildn (p' := 5) rfl rfl rfl ?_
  refine s_bip (p' := 7) rfl rfl ?_
  refine s_icmp (p' := 10) false rfl (by decide +kernel) rfl ?_
  refine s_aldn (p' := 11) rfl rfl rfl ?_
  refine s_ildn (p' := 12) rfl rfl rfl ?_
  refine c_call (p' := 15) (kc := 97) (ls0 := [_, _, _, _]) rfl rfl rfl rfl rfl (mj_rcv_is H393) rfl rfl rfl ?_
  refine s_ildn (p' := 1) rfl rfl rfl ?_
  refine s_istn (p' := 2) (ls' := [_, _, _, _]) rfl rfl rfl rfl ?_
  refine s_con (p' := 3) rfl rfl ?_
  refine s_istn (p' := 4) (ls' := [_, _, _, _]) rfl rfl rfl rfl ?_
  refine s_ildn (p' := 5) rfl rfl rfl ?_
  refine s_aldn (p' := 6) rfl rfl rfl ?_
  refine s_gf (p' := 9) rfl H393 rfl rfl ?_
  refine s_icmp (p' := 38) true rfl (by decide +kernel) rfl ?_
  refine s_ildn (p' := 39) rfl rfl rfl ?_
  refine c_iret rfl rfl ?_
  refine s_istn (p' := 16) (ls' := [_, _, _, _]) rfl rfl rfl rfl ?_
  refine s_ildn (p' := 17) rfl rfl rfl ?_
  refine s_ildn (p' := 18) rfl rfl rfl ?_
  refine s_icmp (p' := 23) true rfl (by decide +kernel) rfl ?_
  refine s_incz (p' := 26) (w := (nI 4)) (ls' := [_, _, _, _]) rfl rfl rfl (by decide +kernel) rfl rfl ?_
  refine s_goto (p' := 4) rfl rfl ?_
  refine s_ildn (p' := 5) rfl rfl rfl ?_
  refine s_bip (p' := 7) rfl rfl ?_
  refine s_icmp (p' := 10) false rfl (by decide +kernel) rfl ?_
  refine s_aldn (p' := 11) rfl rfl rfl ?_
  refine s_ildn (p' := 12) rfl rfl rfl ?_
  refine c_call (p' := 15) (kc := 97) (ls0 := [_, _, _, _]) rfl rfl rfl rfl rfl (mj_rcv_is H393) rfl rfl rfl ?_
  refine s_ildn (p' := 1) rfl rfl rfl ?_
  refine s_istn (p' := 2) (ls' := [_, _, _, _]) rfl rfl rfl rfl ?_
  refine s_con (p' := 3) rfl rfl ?_
  refine s_istn (p' := 4) (ls' := [_, _, _, _]) rfl rfl rfl rfl ?_
  refine s_ildn (p' := 5) rfl rfl rfl ?_
  refine s_aldn (p' := 6) rfl rfl rfl ?_
  refine s_gf (p' := 9) rfl H393 rfl rfl ?_
  refine s_icmp (p' := 38) true rfl (by decide +kernel) rfl ?_
  refine s_ildn (p' := 39) rfl rfl rfl ?_
  refine c_iret rfl rfl ?_
  refine s_istn (p' := 16) (ls' := [_, _, _, _]) rfl rfl rfl rfl ?_
  refine s_ildn (p' := 17) rfl rfl rfl ?_
  refine s_ildn (p' := 18) rfl rfl rfl ?_
  refine s_icmp (p' := 23) true rfl (by decide +kernel) rfl ?_
  refine s_incz (p' := 26) (w := (nI 5)) (ls' := [_, _, _, _]) rfl rfl rfl (by decide +kernel) rfl rfl ?_
  refine s_goto (p' := 4) rfl rfl ?_
  refine s_ildn (p' := 5) rfl rfl rfl ?_
  refine s_bip (p' := 7) rfl rfl ?_
  refine s_icmp (p' := 10) false rfl (by decide +kernel) rfl ?_
  refine s_aldn (p' := 11) rfl rfl rfl ?_
  refine s_ildn (p' := 12) rfl rfl rfl ?_
  refine c_call (p' := 15) (kc := 97) (ls0 := [_, _, _, _]) rfl rfl rfl rfl rfl (mj_rcv_is H393) rfl rfl rfl ?_
  refine s_ildn (p' := 1) rfl rfl rfl ?_
  refine s_istn (p' := 2) (ls' := [_, _, _, _]) rfl rfl rfl rfl ?_
  refine s_con (p' := 3) rfl rfl ?_
  refine s_istn (p' := 4) (ls' := [_, _, _, _]) rfl rfl rfl rfl ?_
  refine s_ildn (p' := 5) rfl rfl rfl ?_
  refine s_aldn (p' := 6) rfl rfl rfl ?_
  refine s_gf (p' := 9) rfl H393 rfl rfl ?_
  refine s_icmp (p' := 38) true rfl (by decide +kernel) rfl ?_
  refine s_ildn (p' := 39) rfl rfl rfl ?_
  refine c_iret rfl rfl ?_
  refine s_istn (p' := 16) (ls' := [_, _, _, _]) rfl rfl rfl rfl ?_
  refine s_ildn (p' := 17) rfl rfl rfl ?_
  refine s_ildn (p' := 18) rfl rfl rfl ?_
  refine s_icmp (p' := 23) true rfl (by decide +kernel) rfl ?_
  refine s_incz (p' := 26) (w := (nI 6)) (ls' := [_, _, _, _]) rfl rfl rfl (by decide +kernel) rfl rfl ?_
  refine s_goto (p' := 4) rfl rfl ?_
  refine s_ildn (p' := 5) rfl rfl rfl ?_
  refine s_bip (p' := 7) rfl rfl ?_
  refine s_icmp (p' := 10) false rfl (by decide +kernel) rfl ?_
  refine s_aldn (p' := 11) rfl rfl rfl ?_
  refine s_ildn (p' := 12) rfl rfl rfl ?_
  refine c_call (p' := 15) (kc := 97) (ls0 := [_, _, _, _]) rfl rfl rfl rfl rfl (mj_rcv_is H393) rfl rfl rfl ?_
  refine s_ildn (p' := 1) rfl rfl rfl ?_
  refine s_istn (p' := 2) (ls' := [_, _, _, _]) rfl rfl rfl rfl ?_
  refine s_con (p' := 3) rfl rfl ?_
  refine s_istn (p' := 4) (ls' := [_, _, _, _]) rfl rfl rfl rfl ?_
  refine s_ildn (p' := 5) rfl rfl rfl ?_
  refine s_aldn (p' := 6) rfl rfl rfl ?_
  refine s_gf (p' := 9) rfl H393 rfl rfl ?_
  refine s_icmp (p' := 38) true rfl (by decide +kernel) rfl ?_
  refine s_ildn (p' := 39) rfl rfl rfl ?_
  refine c_iret rfl rfl ?_
  refine s_istn (p' := 16) (ls' := [_, _, _, _]) rfl rfl rfl rfl ?_
  refine s_ildn (p' := 17) rfl rfl rfl ?_
  refine s_ildn (p' := 18) rfl rfl rfl ?_
  refine s_icmp (p' := 23) true rfl (by decide +kernel) rfl ?_
  refine s_incz (p' := 26) (w := (nI 7)) (ls' := [_, _, _, _]) rfl rfl rfl (by decide +kernel) rfl rfl ?_
  refine s_goto (p' := 4) rfl rfl ?_
  refine s_ildn (p' := 5) rfl rfl rfl ?_
  refine s_bip (p' := 7) rfl rfl ?_
  refine s_icmp (p' := 10) false rfl (by decide +kernel) rfl ?_
  refine s_aldn (p' := 11) rfl rfl rfl ?_
  refine s_ildn (p' := 12) rfl rfl rfl ?_
  refine c_call (p' := 15) (kc := 97) (ls0 := [_, _, _, _]) rfl rfl rfl rfl rfl (mj_rcv_is H393) rfl rfl rfl ?_
  refine s_ildn (p' := 1) rfl rfl rfl ?_
  refine s_istn (p' := 2) (ls' := [_, _, _, _]) rfl rfl rfl rfl ?_
  refine s_con (p' := 3) rfl rfl ?_
  refine s_istn (p' := 4) (ls' := [_, _, _, _]) rfl rfl rfl rfl ?_
  refine s_ildn (p' := 5) rfl rfl rfl ?_
  refine s_aldn (p' := 6) rfl rfl rfl ?_
  refine s_gf (p' := 9) rfl H393 rfl rfl ?_
  refine s_icmp (p' := 38) true rfl (by decide +kernel) rfl ?_
  refine s_ildn (p' := 39) rfl rfl rfl ?_
  refine c_iret rfl rfl ?_
  refine s_istn (p' := 16) (ls' := [_, _, _, _]) rfl rfl rfl rfl ?_
  refine s_ildn (p' := 17) rfl rfl rfl ?_
  refine s_ildn (p' := 18) rfl rfl rfl ?_
  refine s_icmp (p' := 23) true rfl (by decide +kernel) rfl ?_
  refine s_incz (p' := 26) (w := (nI 8)) (ls' := [_, _, _, _]) rfl rfl rfl (by decide +kernel) rfl rfl ?_
  refine s_goto (p' := 4) rfl rfl ?_
  refine s_ildn (p' := 5) rfl rfl rfl ?_
  refine s_bip (p' := 7) rfl rfl ?_
  refine s_icmp (p' := 29) true rfl (by decide +kernel) rfl ?_
  refine s_con (p' := 30) rfl rfl ?_
  refine c_iret rfl (by decide +kernel) ?_
  refine s_if (p' := 21) false rfl (by decide +kernel) rfl ?_
  refine s_incz (p' := 24) (w := (nI 2)) (ls' := [_, _, _]) rfl rfl rfl (by decide +kernel) rfl rfl ?_
  refine s_incz (p' := 27) (w := (nI 2)) (ls' := [_, _, _]) rfl rfl rfl (by decide +kernel) rfl rfl ?_
  refine s_goto (p' := 4) rfl rfl ?_
  refine s_ildn (p' := 5) rfl rfl rfl ?_
  refine s_bip (p' := 7) rfl rfl ?_
  refine s_icmp (p' := 10) false rfl (by decide +kernel) rfl ?_
  refine s_aldn (p' := 11) rfl rfl rfl ?_
  refine s_gf (p' := 14) rfl H0 rfl rfl ?_
  refine s_ildn (p' := 15) rfl rfl rfl ?_
  refine c_call (p' := 18) (kc := 98) (ls0 := [_, _, _, _]) rfl rfl rfl rfl rfl (mj_rcv_is H393) rfl rfl rfl ?_
  refine s_ildn (p' := 1) rfl rfl rfl ?_
  refine s_istn (p' := 2) (ls' := [_, _, _, _]) rfl rfl rfl rfl ?_
  refine s_con (p' := 3) rfl rfl ?_
  refine s_istn (p' := 4) (ls' := [_, _, _, _]) rfl rfl rfl rfl ?_
  refine s_ildn (p' := 5) rfl rfl rfl ?_
  refine s_bip (p' := 7) rfl rfl ?_
  refine s_icmp (p' := 10) false rfl (by decide +kernel) rfl ?_
  refine s_aldn (p' := 11) rfl rfl rfl ?_
  refine s_ildn (p' := 12) rfl rfl rfl ?_
  refine c_call (p' := 15) (kc := 97) (ls0 := [_, _, _, _]) rfl rfl rfl rfl rfl (mj_rcv_is H393) rfl rfl rfl ?_
  refine s_ildn (p' := 1) rfl rfl rfl ?_
  refine s_istn (p' := 2) (ls' := [_, _, _, _]) rfl rfl rfl rfl ?_
  refine s_con (p' := 3) rfl rfl ?_
  refine s_istn (p' := 4) (ls' := [_, _, _, _]) rfl rfl rfl rfl ?_
  refine s_ildn (p' := 5) rfl rfl rfl ?_
  refine s_aldn (p' := 6) rfl rfl rfl ?_
  refine s_gf (p' := 9) rfl H393 rfl rfl ?_
  refine s_icmp (p' := 38) true rfl (by decide +kernel) rfl ?_
  refine s_ildn (p' := 39) rfl rfl rfl ?_
  refine c_iret rfl rfl ?_
  refine s_istn (p' := 16) (ls' := [_, _, _, _]) rfl rfl rfl rfl ?_
  refine s_ildn (p' := 17) rfl rfl rfl ?_
  refine s_ildn (p' := 18) rfl rfl rfl ?_
  refine s_icmp (p' := 23) true rfl (by decide +kernel) rfl ?_
  refine s_incz (p' := 26) (w := (nI 1)) (ls' := [_, _, _, _]) rfl rfl rfl (by decide +kernel) rfl rfl ?_
  refine s_goto (p' := 4) rfl rfl ?_
  refine s_ildn (p' := 5) rfl rfl rfl ?_
  refine s_bip (p' := 7) rfl rfl ?_
  refine s_icmp (p' := 10) false rfl (by decide +kernel) rfl ?_
  refine s_aldn (p' := 11) rfl rfl rfl ?_
  refine s_ildn (p' := 12) rfl rfl rfl ?_
  refine c_call (p' := 15) (kc := 97) (ls0 := [_, _, _, _]) rfl rfl rfl rfl rfl (mj_rcv_is H393) rfl rfl rfl ?_
  refine s_ildn (p' := 1) rfl rfl rfl ?_
  refine s_istn (p' := 2) (ls' := [_, _, _, _]) rfl rfl rfl rfl ?_
  refine s_con (p' := 3) rfl rfl ?_
  refine s_istn (p' := 4) (ls' := [_, _, _, _]) rfl rfl rfl rfl ?_
  refine s_ildn (p' := 5) rfl rfl rfl ?_
  refine s_aldn (p' := 6) rfl rfl rfl ?_
  refine s_gf (p' := 9) rfl H393 rfl rfl ?_
  refine s_icmp (p' := 38) true rfl (by decide +kernel) rfl ?_
  refine s_ildn (p' := 39) rfl rfl rfl ?_
  refine c_iret rfl rfl ?_
  refine s_istn (p' := 16) (ls' := [_, _, _, _]) rfl rfl rfl rfl ?_
  refine s_ildn (p' := 17) rfl rfl rfl ?_
  refine s_ildn (p' := 18) rfl rfl rfl ?_
  refine s_icmp (p' := 23) true rfl (by decide +kernel) rfl ?_
  refine s_incz (p' := 26) (w := (nI 2)) (ls' := [_, _, _, _]) rfl rfl rfl (by decide +kernel) rfl rfl ?_
  refine s_goto (p' := 4) rfl rfl ?_
  refine s_ildn (p' := 5) rfl rfl rfl ?_
  refine s_bip (p' := 7) rfl rfl ?_
  refine s_icmp (p' := 10) false rfl (by decide +kernel) rfl ?_
  refine s_aldn (p' := 11) rfl rfl rfl ?_
  refine s_ildn (p' := 12) rfl rfl rfl ?_
  refine c_call (p' := 15) (kc := 97) (ls0 := [_, _, _, _]) rfl rfl rfl rfl rfl (mj_rcv_is H393) rfl rfl rfl ?_
  refine s_ildn (p' := 1) rfl rfl rfl ?_
  refine s_istn (p' := 2) (ls' := [_, _, _, _]) rfl rfl rfl rfl ?_
  refine s_con (p' := 3) rfl rfl ?_
  refine s_istn (p' := 4) (ls' := [_, _, _, _]) rfl rfl rfl rfl ?_
  refine s_ildn (p' := 5) rfl rfl rfl ?_
  refine s_aldn (p' := 6) rfl rfl rfl ?_
  refine s_gf (p' := 9) rfl H393 rfl rfl ?_
  refine s_icmp (p' := 38) true rfl (by decide +kernel) rfl ?_
  refine s_ildn (p' := 39) rfl rfl rfl ?_
  refine c_iret rfl rfl ?_
  refine s_istn (p' := 16) (ls' := [_, _, _, _]) rfl rfl rfl rfl ?_
  refine s_ildn (p' := 17) rfl rfl rfl ?_
  refine s_ildn (p' := 18) rfl rfl rfl ?_
  refine s_icmp (p' := 23) true rfl (by decide +kernel) rfl ?_
  refine s_incz (p' := 26) (w := (nI 3)) (ls' := [_, _, _, _]) rfl rfl rfl (by decide +kernel) rfl rfl ?_
  refine s_goto (p' := 4) rfl rfl ?_
  refine s_ildn (p' := 5) rfl rfl rfl ?_
  refine s_bip (p' := 7) rfl rfl ?_
  refine s_icmp (p' := 10) false rfl (by decide +kernel) rfl ?_
  refine s_aldn (p' := 11) rfl rfl rfl ?_
  refine s_ildn (p' := 12) rfl rfl rfl ?_
  refine c_call (p' := 15) (kc := 97) (ls0 := [_, _, _, _]) rfl rfl rfl rfl rfl (mj_rcv_is H393) rfl rfl rfl ?_
  refine s_ildn (p' := 1) rfl rfl rfl ?_
  refine s_istn (p' := 2) (ls' := [_, _, _, _]) rfl rfl rfl rfl ?_
  refine s_con (p' := 3) rfl rfl ?_
  refine s_istn (p' := 4) (ls' := [_, _, _, _]) rfl rfl rfl rfl ?_
  refine s_ildn (p' := 5) rfl rfl rfl ?_
  refine s_aldn (p' := 6) rfl rfl rfl ?_
  refine s_gf (p' := 9) rfl H393 rfl rfl ?_
  refine s_icmp (p' := 38) true rfl (by decide +kernel) rfl ?_
  refine s_ildn (p' := 39) rfl rfl rfl ?_
  refine c_iret rfl rfl ?_
  refine s_istn (p' := 16) (ls' := [_, _, _, _]) rfl rfl rfl rfl ?_
  refine s_ildn (p' := 17) rfl rfl rfl ?_
  refine s_ildn (p' := 18) rfl rfl rfl ?_
  refine s_icmp (p' := 23) true rfl (by decide +kernel) rfl ?_
  refine s_incz (p' := 26) (w := (nI 4)) (ls' := [_, _, _, _]) rfl rfl rfl (by decide +kernel) rfl rfl ?_
  refine s_goto (p' := 4) rfl rfl ?_
  refine s_ildn (p' := 5) rfl rfl rfl ?_
  refine s_bip (p' := 7) rfl rfl ?_
  refine s_icmp (p' := 10) false rfl (by decide +kernel) rfl ?_
  refine s_aldn (p' := 11) rfl rfl rfl ?_
  refine s_ildn (p' := 12) rfl rfl rfl ?_
  refine c_call (p' := 15) (kc := 97) (ls0 := [_, _, _, _]) rfl rfl rfl rfl rfl (mj_rcv_is H393) rfl rfl rfl ?_
  refine s_ildn (p' := 1) rfl rfl rfl ?_
  refine s_istn (p' := 2) (ls' := [_, _, _, _]) rfl rfl rfl rfl ?_
  refine s_con (p' := 3) rfl rfl ?_
  refine s_istn (p' := 4) (ls' := [_, _, _, _]) rfl rfl rfl rfl ?_
  refine s_ildn (p' := 5) rfl rfl rfl ?_
  refine s_aldn (p' := 6) rfl rfl rfl ?_
  refine s_gf (p' := 9) rfl H393 rfl rfl ?_
  refine s_icmp (p' := 38) true rfl (by decide +kernel) rfl ?_
  refine s_ildn (p' := 39) rfl rfl rfl ?_
  refine c_iret rfl rfl ?_
  refine s_istn (p' := 16) (ls' := [_, _, _, _]) rfl rfl rfl rfl ?_
  refine s_ildn (p' := 17) rfl rfl rfl ?_
  refine s_ildn (p' := 18) rfl rfl rfl ?_
  refine s_icmp (p' := 23) true rfl (by decide +kernel) rfl ?_
  refine s_incz (p' := 26) (w := (nI 5)) (ls' := [_, _, _, _]) rfl rfl rfl (by decide +kernel) rfl rfl ?_
  refine s_goto (p' := 4) rfl rfl ?_
  refine s_ildn (p' := 5) rfl rfl rfl ?_
  refine s_bip (p' := 7) rfl rfl ?_
  refine s_icmp (p' := 10) false rfl (by decide +kernel) rfl ?_
  refine s_aldn (p' := 11) rfl rfl rfl ?_
  refine s_ildn (p' := 12) rfl rfl rfl ?_
  refine c_call (p' := 15) (kc := 97) (ls0 := [_, _, _, _]) rfl rfl rfl rfl rfl (mj_rcv_is H393) rfl rfl rfl ?_
  refine s_ildn (p' := 1) rfl rfl rfl ?_
  refine s_istn (p' := 2) (ls' := [_, _, _, _]) rfl rfl rfl rfl ?_
  refine s_con (p' := 3) rfl rfl ?_
  refine s_istn (p' := 4) (ls' := [_, _, _, _]) rfl rfl rfl rfl ?_
  refine s_ildn (p' := 5) rfl rfl rfl ?_
  refine s_aldn (p' := 6) rfl rfl rfl ?_
  refine s_gf (p' := 9) rfl H393 rfl rfl ?_
  refine s_icmp (p' := 38) true rfl (by decide +kernel) rfl ?_
  refine s_ildn (p' := 39) rfl rfl rfl ?_
  refine c_iret rfl rfl ?_
  refine s_istn (p' := 16) (ls' := [_, _, _, _]) rfl rfl rfl rfl ?_
  refine s_ildn (p' := 17) rfl rfl rfl ?_
  refine s_ildn (p' := 18) rfl rfl rfl ?_
  refine s_icmp (p' := 23) true rfl (by decide +kernel) rfl ?_
  refine s_incz (p' := 26) (w := (nI 6)) (ls' := [_, _, _, _]) rfl rfl rfl (by decide +kernel) rfl rfl ?_
  refine s_goto (p' := 4) rfl rfl ?_
  refine s_ildn (p' := 5) rfl rfl rfl ?_
  refine s_bip (p' := 7) rfl rfl ?_
  refine s_icmp (p' := 10) false rfl (by decide +kernel) rfl ?_
  refine s_aldn (p' := 11) rfl rfl rfl ?_
  refine s_ildn (p' := 12) rfl rfl rfl ?_
  refine c_call (p' := 15) (kc := 97) (ls0 := [_, _, _, _]) rfl rfl rfl rfl rfl (mj_rcv_is H393) rfl rfl rfl ?_
  refine s_ildn (p' := 1) rfl rfl rfl ?_
  refine s_istn (p' := 2) (ls' := [_, _, _, _]) rfl rfl rfl rfl ?_
  refine s_con (p' := 3) rfl rfl ?_
  refine s_istn (p' := 4) (ls' := [_, _, _, _]) rfl rfl rfl rfl ?_
  refine s_ildn (p' := 5) rfl rfl rfl ?_
  refine s_aldn (p' := 6) rfl rfl rfl ?_
  refine s_gf (p' := 9) rfl H393 rfl rfl ?_
  refine s_icmp (p' := 38) true rfl (by decide +kernel) rfl ?_
  refine s_ildn (p' := 39) rfl rfl rfl ?_
  refine c_iret rfl rfl ?_
  refine s_istn (p' := 16) (ls' := [_, _, _, _]) rfl rfl rfl rfl ?_
  refine s_ildn (p' := 17) rfl rfl rfl ?_
  refine s_ildn (p' := 18) rfl rfl rfl ?_
  refine s_icmp (p' := 23) true rfl (by decide +kernel) rfl ?_
  refine s_incz (p' := 26) (w := (nI 7)) (ls' := [_, _, _, _]) rfl rfl rfl (by decide +kernel) rfl rfl ?_
  refine s_goto (p' := 4) rfl rfl ?_
  refine s_ildn (p' := 5) rfl rfl rfl ?_
  refine s_bip (p' := 7) rfl rfl ?_
  refine s_icmp (p' := 10) false rfl (by decide +kernel) rfl ?_
  refine s_aldn (p' := 11) rfl rfl rfl ?_
  refine s_ildn (p' := 12) rfl rfl rfl ?_
  refine c_call (p' := 15) (kc := 97) (ls0 := [_, _, _, _]) rfl rfl rfl rfl rfl (mj_rcv_is H393) rfl rfl rfl ?_
  refine s_ildn (p' := 1) rfl rfl rfl ?_
  refine s_istn (p' := 2) (ls' := [_, _, _, _]) rfl rfl rfl rfl ?_
  refine s_con (p' := 3) rfl rfl ?_
  refine s_istn (p' := 4) (ls' := [_, _, _, _]) rfl rfl rfl rfl ?_
  refine s_ildn (p' := 5) rfl rfl rfl ?_
  refine s_aldn (p' := 6) rfl rfl rfl ?_
  refine s_gf (p' := 9) rfl H393 rfl rfl ?_
  refine s_icmp (p' := 38) true rfl (by decide +kernel) rfl ?_
  refine s_ildn (p' := 39) rfl rfl rfl ?_
  refine c_iret rfl rfl ?_
  refine s_istn (p' := 16) (ls' := [_, _, _, _]) rfl rfl rfl rfl ?_
  refine s_ildn (p' := 17) rfl rfl rfl ?_
  refine s_ildn (p' := 18) rfl rfl rfl ?_
  refine s_icmp (p' := 23) true rfl (by decide +kernel) rfl ?_
  refine s_incz (p' := 26) (w := (nI 8)) (ls' := [_, _, _, _]) rfl rfl rfl (by decide +kernel) rfl rfl ?_
  refine s_goto (p' := 4) rfl rfl ?_
  refine s_ildn (p' := 5) rfl rfl rfl ?_
  refine s_bip (p' := 7) rfl rfl ?_
  refine s_icmp (p' := 29) true rfl (by decide +kernel) rfl ?_
  refine s_con (p' := 30) rfl rfl ?_
  refine c_iret rfl (by decide +kernel) ?_
  refine s_if (p' := 21) false rfl (by decide +kernel) rfl ?_
  refine s_incz (p' := 24) (w := (nI 3)) (ls' := [_, _, _]) rfl rfl rfl (by decide +kernel) rfl rfl ?_
  refine s_incz (p' := 27) (w := (nI 3)) (ls' := [_, _, _]) rfl rfl rfl (by decide +kernel) rfl rfl ?_
  refine s_goto (p' := 4) rfl rfl ?_
  refine s_ildn (p' := 5) rfl rfl rfl ?_
  refine s_bip (p' := 7) rfl rfl ?_
  refine s_icmp (p' := 10) false rfl (by decide +kernel) rfl ?_
  refine s_aldn (p' := 11) rfl rfl rfl ?_
  refine s_gf (p' := 14) rfl H0 rfl rfl ?_
  refine s_ildn (p' := 15) rfl rfl rfl ?_
  refine c_call (p' := 18) (kc := 98) (ls0 := [_, _, _, _]) rfl rfl rfl rfl rfl (mj_rcv_is H393) rfl rfl rfl ?_
  refine s_ildn (p' := 1) rfl rfl rfl ?_
  refine s_istn (p' := 2) (ls' := [_, _, _, _]) rfl rfl rfl rfl ?_
  refine s_con (p' := 3) rfl rfl ?_
  refine s_istn (p' := 4) (ls' := [_, _, _, _]) rfl rfl rfl rfl ?_
  refine s_ildn (p' := 5) rfl rfl rfl ?_
  refine s_bip (p' := 7) rfl rfl ?_
  refine s_icmp (p' := 10) false rfl (by decide +kernel) rfl ?_
  refine s_aldn (p' := 11) rfl rfl rfl ?_
  refine s_ildn (p' := 12) rfl rfl rfl ?_
  refine c_call (p' := 15) (kc := 97) (ls0 := [_, _, _, _]) rfl rfl rfl rfl rfl (mj_rcv_is H393) rfl rfl rfl ?_
  refine s_ildn (p' := 1) rfl rfl rfl ?_
  refine s_istn (p' := 2) (ls' := [_, _, _, _]) rfl rfl rfl rfl ?_
  refine s_con (p' := 3) rfl rfl ?_
  refine s_istn (p' := 4) (ls' := [_, _, _, _]) rfl rfl rfl rfl ?_
  refine s_ildn (p' := 5) rfl rfl rfl ?_
  refine s_aldn (p' := 6) rfl rfl rfl ?_
  refine s_gf (p' := 9) rfl H393 rfl rfl ?_
  refine s_icmp (p' := 38) true rfl (by decide +kernel) rfl ?_
  refine s_ildn (p' := 39) rfl rfl rfl ?_
  refine c_iret rfl rfl ?_
  refine s_istn (p' := 16) (ls' := [_, _, _, _]) rfl rfl rfl rfl ?_
  refine s_ildn (p' := 17) rfl rfl rfl ?_
  refine s_ildn (p' := 18) rfl rfl rfl ?_
  refine s_icmp (p' := 23) true rfl (by decide +kernel) rfl ?_
  refine s_incz (p' := 26) (w := (nI 1)) (ls' := [_, _, _, _]) rfl rfl rfl (by decide +kernel) rfl rfl ?_
  refine s_goto (p' := 4) rfl rfl ?_
  refine s_ildn (p' := 5) rfl rfl rfl ?_
  refine s_bip (p' := 7) rfl rfl ?_
  refine s_icmp (p' := 10) false rfl (by decide +kernel) rfl ?_
  refine s_aldn (p' := 11) rfl rfl rfl ?_
  refine s_ildn (p' := 12) rfl rfl rfl ?_
  refine c_call (p' := 15) (kc := 97) (ls0 := [_, _, _, _]) rfl rfl rfl rfl rfl (mj_rcv_is H393) rfl rfl rfl ?_
  refine s_ildn (p' := 1) rfl rfl rfl ?_
  refine s_istn (p' := 2) (ls' := [_, _, _, _]) rfl rfl rfl rfl ?_
  refine s_con (p' := 3) rfl rfl ?_
  refine s_istn (p' := 4) (ls' := [_, _, _, _]) rfl rfl rfl rfl ?_
  refine s_ildn (p' := 5) rfl rfl rfl ?_
  refine s_aldn (p' := 6) rfl rfl rfl ?_
  refine s_gf (p' := 9) rfl H393 rfl rfl ?_
  refine s_icmp (p' := 38) true rfl (by decide +kernel) rfl ?_
  refine s_ildn (p' := 39) rfl rfl rfl ?_
  refine c_iret rfl rfl ?_
  refine s_istn (p' := 16) (ls' := [_, _, _, _]) rfl rfl rfl rfl ?_
  refine s_ildn (p' := 17) rfl rfl rfl ?_
  refine s_ildn (p' := 18) rfl rfl rfl ?_
  refine s_icmp (p' := 23) true rfl (by decide +kernel) rfl ?_
  refine s_incz (p' := 26) (w := (nI 2)) (ls' := [_, _, _, _]) rfl rfl rfl (by decide +kernel) rfl rfl ?_
  refine s_goto (p' := 4) rfl rfl ?_
  refine s_ildn (p' := 5) rfl rfl rfl ?_
  refine s_bip (p' := 7) rfl rfl ?_
  refine s_icmp (p' := 10) false rfl (by decide +kernel) rfl ?_
  refine s_aldn (p' := 11) rfl rfl rfl ?_
  refine s_ildn (p' := 12) rfl rfl rfl ?_
  refine c_call (p' := 15) (kc := 97) (ls0 := [_, _, _, _]) rfl rfl rfl rfl rfl (mj_rcv_is H393) rfl rfl rfl ?_
  refine s_ildn (p' := 1) rfl rfl rfl ?_
  refine s_istn (p' := 2) (ls' := [_, _, _, _]) rfl rfl rfl rfl ?_
  refine s_con (p' := 3) rfl rfl ?_
  refine s_istn (p' := 4) (ls' := [_, _, _, _]) rfl rfl rfl rfl ?_
  refine s_ildn (p' := 5) rfl rfl rfl ?_
  refine s_aldn (p' := 6) rfl rfl rfl ?_
  refine s_gf (p' := 9) rfl H393 rfl rfl ?_
  refine s_icmp (p' := 38) true rfl (by decide +kernel) rfl ?_
  refine s_ildn (p' := 39) rfl rfl rfl ?_
  refine c_iret rfl rfl ?_
  refine s_istn (p' := 16) (ls' := [_, _, _, _]) rfl rfl rfl rfl ?_
  refine s_ildn (p' := 17) rfl rfl rfl ?_
  refine s_ildn (p' := 18) rfl rfl rfl ?_
  refine s_icmp (p' := 23) true rfl (by decide +kernel) rfl ?_
  refine s_incz (p' := 26) (w := (nI 3)) (ls' := [_, _, _, _]) rfl rfl rfl (by decide +kernel) rfl rfl ?_
  refine s_goto (p' := 4) rfl rfl ?_
  refine s_ildn (p' := 5) rfl rfl rfl ?_
  refine s_bip (p' := 7) rfl rfl ?_
  refine s_icmp (p' := 10) false rfl (by decide +kernel) rfl ?_
  refine s_aldn (p' := 11) rfl rfl rfl ?_
  refine s_ildn (p' := 12) rfl rfl rfl ?_
  refine c_call (p' := 15) (kc := 97) (ls0 := [_, _, _, _]) rfl rfl rfl rfl rfl (mj_rcv_is H393) rfl rfl rfl ?_
  refine s_ildn (p' := 1) rfl rfl rfl ?_
  refine s_istn (p' := 2) (ls' := [_, _, _, _]) rfl rfl rfl rfl ?_
  refine s_con (p' := 3) rfl rfl ?_
  refine s_istn (p' := 4) (ls' := [_, _, _, _]) rfl rfl rfl rfl ?_
  refine s_ildn (p' := 5) rfl rfl rfl ?_
  refine s_aldn (p' := 6) rfl rfl rfl ?_
  refine s_gf (p' := 9) rfl H393 rfl rfl ?_
  refine s_icmp (p' := 38) true rfl (by decide +kernel) rfl ?_
  refine s_ildn (p' := 39) rfl rfl rfl ?_
  refine c_iret rfl rfl ?_
  refine s_istn (p' := 16) (ls' := [_, _, _, _]) rfl rfl rfl rfl ?_
  refine s_ildn (p' := 17) rfl rfl rfl ?_
  refine s_ildn (p' := 18) rfl rfl rfl ?_
  refine s_icmp (p' := 23) true rfl (by decide +kernel) rfl ?_
  refine s_incz (p' := 26) (w := (nI 4)) (ls' := [_, _, _, _]) rfl rfl rfl (by decide +kernel) rfl rfl ?_
  refine s_goto (p' := 4) rfl rfl ?_
  refine s_ildn (p' := 5) rfl rfl rfl ?_
  refine s_bip (p' := 7) rfl rfl ?_
  refine s_icmp (p' := 10) false rfl (by decide +kernel) rfl ?_
  refine s_aldn (p' := 11) rfl rfl rfl ?_
  refine s_ildn (p' := 12) rfl rfl rfl ?_
  refine c_call (p' := 15) (kc := 97) (ls0 := [_, _, _, _]) rfl rfl rfl rfl rfl (mj_rcv_is H393) rfl rfl rfl ?_
  refine s_ildn (p' := 1) rfl rfl rfl ?_
  refine s_istn (p' := 2) (ls' := [_, _, _, _]) rfl rfl rfl rfl ?_
  refine s_con (p' := 3) rfl rfl ?_
  refine s_istn (p' := 4) (ls' := [_, _, _, _]) rfl rfl rfl rfl ?_
  refine s_ildn (p' := 5) rfl rfl rfl ?_
  refine s_aldn (p' := 6) rfl rfl rfl ?_
  refine s_gf (p' := 9) rfl H393 rfl rfl ?_
  refine s_icmp (p' := 38) true rfl (by decide +kernel) rfl ?_
  refine s_ildn (p' := 39) rfl rfl rfl ?_
  refine c_iret rfl rfl ?_
  refine s_istn (p' := 16) (ls' := [_, _, _, _]) rfl rfl rfl rfl ?_
  refine s_ildn (p' := 17) rfl rfl rfl ?_
  refine s_ildn (p' := 18) rfl rfl rfl ?_
  refine s_icmp (p' := 23) true rfl (by decide +kernel) rfl ?_
  refine s_incz (p' := 26) (w := (nI 5)) (ls' := [_, _, _, _]) rfl rfl rfl (by decide +kernel) rfl rfl ?_
  refine s_goto (p' := 4) rfl rfl ?_
  refine s_ildn (p' := 5) rfl rfl rfl ?_
  refine s_bip (p' := 7) rfl rfl ?_
  refine s_icmp (p' := 10) false rfl (by decide +kernel) rfl ?_
  refine s_aldn (p' := 11) rfl rfl rfl ?_
  refine s_ildn (p' := 12) rfl rfl rfl ?_
  refine c_call (p' := 15) (kc := 97) (ls0 := [_, _, _, _]) rfl rfl rfl rfl rfl (mj_rcv_is H393) rfl rfl rfl ?_
  refine s_ildn (p' := 1) rfl rfl rfl ?_
  refine s_istn (p' := 2) (ls' := [_, _, _, _]) rfl rfl rfl rfl ?_
  refine s_con (p' := 3) rfl rfl ?_
  refine s_istn (p' := 4) (ls' := [_, _, _, _]) rfl rfl rfl rfl ?_
  refine s_ildn (p' := 5) rfl rfl rfl ?_
  refine s_aldn (p' := 6) rfl rfl rfl ?_
  refine s_gf (p' := 9) rfl H393 rfl rfl ?_
  refine s_icmp (p' := 38) true rfl (by decide +kernel) rfl ?_
  refine s_ildn (p' := 39) rfl rfl rfl ?_
  refine c_iret rfl rfl ?_
  refine s_istn (p' := 16) (ls' := [_, _, _, _]) rfl rfl rfl rfl ?_
  refine s_ildn (p' := 17) rfl rfl rfl ?_
  refine s_ildn (p' := 18) rfl rfl rfl ?_
  refine s_icmp (p' := 23) true rfl (by decide +kernel) rfl ?_
  refine s_incz (p' := 26) (w := (nI 6)) (ls' := [_, _, _, _]) rfl rfl rfl (by decide +kernel) rfl rfl ?_
  refine s_goto (p' := 4) rfl rfl ?_
  refine s_ildn (p' := 5) rfl rfl rfl ?_
  refine s_bip (p' := 7) rfl rfl ?_
  refine s_icmp (p' := 10) false rfl (by decide +kernel) rfl ?_
  refine s_aldn (p' := 11) rfl rfl rfl ?_
  refine s_ildn (p' := 12) rfl rfl rfl ?_
  refine c_call (p' := 15) (kc := 97) (ls0 := [_, _, _, _]) rfl rfl rfl rfl rfl (mj_rcv_is H393) rfl rfl rfl ?_
  refine s_ildn (p' := 1) rfl rfl rfl ?_
  refine s_istn (p' := 2) (ls' := [_, _, _, _]) rfl rfl rfl rfl ?_
  refine s_con (p' := 3) rfl rfl ?_
  refine s_istn (p' := 4) (ls' := [_, _, _, _]) rfl rfl rfl rfl ?_
  refine s_ildn (p' := 5) rfl rfl rfl ?_
  refine s_aldn (p' := 6) rfl rfl rfl ?_
  refine s_gf (p' := 9) rfl H393 rfl rfl ?_
  refine s_icmp (p' := 38) true rfl (by decide +kernel) rfl ?_
  refine s_ildn (p' := 39) rfl rfl rfl ?_
  refine c_iret rfl rfl ?_
  refine s_istn (p' := 16) (ls' := [_, _, _, _]) rfl rfl rfl rfl ?_
  refine s_ildn (p' := 17) rfl rfl rfl ?_
  refine s_ildn (p' := 18) rfl rfl rfl ?_
  refine s_icmp (p' := 23) true rfl (by decide +kernel) rfl ?_
  refine s_incz (p' := 26) (w := (nI 7)) (ls' := [_, _, _, _]) rfl rfl rfl (by decide +kernel) rfl rfl ?_
  refine s_goto (p' := 4) rfl rfl ?_
  refine s_ildn (p' := 5) rfl rfl rfl ?_
  refine s_bip (p' := 7) rfl rfl ?_
  refine s_icmp (p' := 10) false rfl (by decide +kernel) rfl ?_
  refine s_aldn (p' := 11) rfl rfl rfl ?_
  refine s_ildn (p' := 12) rfl rfl rfl ?_
  refine c_call (p' := 15) (kc := 97) (ls0 := [_, _, _, _]) rfl rfl rfl rfl rfl (mj_rcv_is H393) rfl rfl rfl ?_
  refine s_ildn (p' := 1) rfl rfl rfl ?_
  refine s_istn (p' := 2) (ls' := [_, _, _, _]) rfl rfl rfl rfl ?_
  refine s_con (p' := 3) rfl rfl ?_
  refine s_istn (p' := 4) (ls' := [_, _, _, _]) rfl rfl rfl rfl ?_
  refine s_ildn (p' := 5) rfl rfl rfl ?_
  refine s_aldn (p' := 6) rfl rfl rfl ?_
  refine s_gf (p' := 9) rfl H393 rfl rfl ?_
  refine s_icmp (p' := 38) true rfl (by decide +kernel) rfl ?_
  refine s_ildn (p' := 39) rfl rfl rfl ?_
  refine c_iret rfl rfl ?_
  refine s_istn (p' := 16) (ls' := [_, _, _, _]) rfl rfl rfl rfl ?_
  refine s_ildn (p' := 17) rfl rfl rfl ?_
  refine s_ildn (p' := 18) rfl rfl rfl ?_
  refine s_icmp (p' := 23) true rfl (by decide +kernel) rfl ?_
  refine s_incz (p' := 26) (w := (nI 8)) (ls' := [_, _, _, _]) rfl rfl rfl (by decide +kernel) rfl rfl ?_
  refine s_goto (p' := 4) rfl rfl ?_
  refine s_ildn (p' := 5) rfl rfl rfl ?_
  refine s_bip (p' := 7) rfl rfl ?_
  refine s_icmp (p' := 29) true rfl (by decide +kernel) rfl ?_
  refine s_con (p' := 30) rfl rfl ?_
  refine c_iret rfl (by decide +kernel) ?_
  refine s_if (p' := 21) false rfl (by decide +kernel) rfl ?_
  refine s_incz (p' := 24) (w := (nI 4)) (ls' := [_, _, _]) rfl rfl rfl (by decide +kernel) rfl rfl ?_
  refine s_incz (p' := 27) (w := (nI 4)) (ls' := [_, _, _]) rfl rfl rfl (by decide +kernel) rfl rfl ?_
  refine s_goto (p' := 4) rfl rfl ?_
  refine s_ildn (p' := 5) rfl rfl rfl ?_
  refine s_bip (p' := 7) rfl rfl ?_
  refine s_icmp (p' := 10) false rfl (by decide +kernel) rfl ?_
  refine s_aldn (p' := 11) rfl rfl rfl ?_
  refine s_gf (p' := 14) rfl H0 rfl rfl ?_
  refine s_ildn (p' := 15) rfl rfl rfl ?_
  refine c_call (p' := 18) (kc := 98) (ls0 := [_, _, _, _]) rfl rfl rfl rfl rfl (mj_rcv_is H393) rfl rfl rfl ?_
  refine s_ildn (p' := 1) rfl rfl rfl ?_
  refine s_istn (p' := 2) (ls' := [_, _, _, _]) rfl rfl rfl rfl ?_
  refine s_con (p' := 3) rfl rfl ?_
  refine s_istn (p' := 4) (ls' := [_, _, _, _]) rfl rfl rfl rfl ?_
  refine s_ildn (p' := 5) rfl rfl rfl ?_
  refine s_bip (p' := 7) rfl rfl ?_
  refine s_icmp (p' := 10) false rfl (by decide +kernel) rfl ?_
  refine s_aldn (p' := 11) rfl rfl rfl ?_
  refine s_ildn (p' := 12) rfl rfl rfl ?_
  refine c_call (p' := 15) (kc := 97) (ls0 := [_, _, _, _]) rfl rfl rfl rfl rfl (mj_rcv_is H393) rfl rfl rfl ?_
  refine s_ildn (p' := 1) rfl rfl rfl ?_
  refine s_istn (p' := 2) (ls' := [_, _, _, _]) rfl rfl rfl rfl ?_
  refine s_con (p' := 3) rfl rfl ?_
  refine s_istn (p' := 4) (ls' := [_, _, _, _]) rfl rfl rfl rfl ?_
  refine s_ildn (p' := 5) rfl rfl rfl ?_
  refine s_aldn (p' := 6) rfl rfl rfl ?_
  refine s_gf (p' := 9) rfl H393 rfl rfl ?_
  refine s_icmp (p' := 38) true rfl (by decide +kernel) rfl ?_
  refine s_ildn (p' := 39) rfl rfl rfl ?_
  refine c_iret rfl rfl ?_
  refine s_istn (p' := 16) (ls' := [_, _, _, _]) rfl rfl rfl rfl ?_
  refine s_ildn (p' := 17) rfl rfl rfl ?_
  refine s_ildn (p' := 18) rfl rfl rfl ?_
  refine s_icmp (p' := 23) true rfl (by decide +kernel) rfl ?_
  refine s_incz (p' := 26) (w := (nI 1)) (ls' := [_, _, _, _]) rfl rfl rfl (by decide +kernel) rfl rfl ?_
  refine s_goto (p' := 4) rfl rfl ?_
  refine s_ildn (p' := 5) rfl rfl rfl ?_
  refine s_bip (p' := 7) rfl rfl ?_
  refine s_icmp (p' := 10) false rfl (by decide +kernel) rfl ?_
  refine s_aldn (p' := 11) rfl rfl rfl ?_
  refine s_ildn (p' := 12) rfl rfl rfl ?_
  refine c_call (p' := 15) (kc := 97) (ls0 := [_, _, _, _]) rfl rfl rfl rfl rfl (mj_rcv_is H393) rfl rfl rfl ?_
  refine s_ildn (p' := 1) rfl rfl rfl ?_
  refine s_istn (p' := 2) (ls' := [_, _, _, _]) rfl rfl rfl rfl ?_
  refine s_con (p' := 3) rfl rfl ?_
  refine s_istn (p' := 4) (ls' := [_, _, _, _]) rfl rfl rfl rfl ?_
  refine s_ildn (p' := 5) rfl rfl rfl ?_
  refine s_aldn (p' := 6) rfl rfl rfl ?_
  refine s_gf (p' := 9) rfl H393 rfl rfl ?_
  refine s_icmp (p' := 38) true rfl (by decide +kernel) rfl ?_
  refine s_ildn (p' := 39) rfl rfl rfl ?_
  refine c_iret rfl rfl ?_
  refine s_istn (p' := 16) (ls' := [_, _, _, _]) rfl rfl rfl rfl ?_
  refine s_ildn (p' := 17) rfl rfl rfl ?_
  refine s_ildn (p' := 18) rfl rfl rfl ?_
  refine s_icmp (p' := 23) true rfl (by decide +kernel) rfl ?_
  refine s_incz (p' := 26) (w := (nI 2)) (ls' := [_, _, _, _]) rfl rfl rfl (by decide +kernel) rfl rfl ?_
  refine s_goto (p' := 4) rfl rfl ?_
  refine s_ildn (p' := 5) rfl rfl rfl ?_
  refine s_bip (p' := 7) rfl rfl ?_
  refine s_icmp (p' := 10) false rfl (by decide +kernel) rfl ?_
  refine s_aldn (p' := 11) rfl rfl rfl ?_
  refine s_ildn (p' := 12) rfl rfl rfl ?_
  refine c_call (p' := 15) (kc := 97) (ls0 := [_, _, _, _]) rfl rfl rfl rfl rfl (mj_rcv_is H393) rfl rfl rfl ?_
  refine s_ildn (p' := 1) rfl rfl rfl ?_
  refine s_istn (p' := 2) (ls' := [_, _, _, _]) rfl rfl rfl rfl ?_
  refine s_con (p' := 3) rfl rfl ?_
  refine s_istn (p' := 4) (ls' := [_, _, _, _]) rfl rfl rfl rfl ?_
  refine s_ildn (p' := 5) rfl rfl rfl ?_
  refine s_aldn (p' := 6) rfl rfl rfl ?_
  refine s_gf (p' := 9) rfl H393 rfl rfl ?_
  refine s_icmp (p' := 38) true rfl (by decide +kernel) rfl ?_
  refine s_ildn (p' := 39) rfl rfl rfl ?_
  refine c_iret rfl rfl ?_
  refine s_istn (p' := 16) (ls' := [_, _, _, _]) rfl rfl rfl rfl ?_
  refine s_ildn (p' := 17) rfl rfl rfl ?_
  refine s_ildn (p' := 18) rfl rfl rfl ?_
  refine s_icmp (p' := 23) true rfl (by decide +kernel) rfl ?_
  refine s_incz (p' := 26) (w := (nI 3)) (ls' := [_, _, _, _]) rfl rfl rfl (by decide +kernel) rfl rfl ?_
  refine s_goto (p' := 4) rfl rfl ?_
  refine s_ildn (p' := 5) rfl rfl rfl ?_
  refine s_bip (p' := 7) rfl rfl ?_
  refine s_icmp (p' := 10) false rfl (by decide +kernel) rfl ?_
  refine s_aldn (p' := 11) rfl rfl rfl ?_
  refine s_ildn (p' := 12) rfl rfl rfl ?_
  refine c_call (p' := 15) (kc := 97) (ls0 := [_, _, _, _]) rfl rfl rfl rfl rfl (mj_rcv_is H393) rfl rfl rfl ?_
  refine s_ildn (p' := 1) rfl rfl rfl ?_
  refine s_istn (p' := 2) (ls' := [_, _, _, _]) rfl rfl rfl rfl ?_
  refine s_con (p' := 3) rfl rfl ?_
  refine s_istn (p' := 4) (ls' := [_, _, _, _]) rfl rfl rfl rfl ?_
  refine s_ildn (p' := 5) rfl rfl rfl ?_
  refine s_aldn (p' := 6) rfl rfl rfl ?_
  refine s_gf (p' := 9) rfl H393 rfl rfl ?_
  refine s_icmp (p' := 38) true rfl (by decide +kernel) rfl ?_
  refine s_ildn (p' := 39) rfl rfl rfl ?_
  refine c_iret rfl rfl ?_
  refine s_istn (p' := 16) (ls' := [_, _, _, _]) rfl rfl rfl rfl ?_
  refine s_ildn (p' := 17) rfl rfl rfl ?_
  refine s_ildn (p' := 18) rfl rfl rfl ?_
  refine s_icmp (p' := 23) true rfl (by decide +kernel) rfl ?_
  refine s_incz (p' := 26) (w := (nI 4)) (ls' := [_, _, _, _]) rfl rfl rfl (by decide +kernel) rfl rfl ?_
  refine s_goto (p' := 4) rfl rfl ?_
  refine s_ildn (p' := 5) rfl rfl rfl ?_
  refine s_bip (p' := 7) rfl rfl ?_
  refine s_icmp (p' := 10) false rfl (by decide +kernel) rfl ?_
  refine s_aldn (p' := 11) rfl rfl rfl ?_
  refine s_ildn (p' := 12) rfl rfl rfl ?_
  refine c_call (p' := 15) (kc := 97) (ls0 := [_, _, _, _]) rfl rfl rfl rfl rfl (mj_rcv_is H393) rfl rfl rfl ?_
  refine s_ildn (p' := 1) rfl rfl rfl ?_
  refine s_istn (p' := 2) (ls' := [_, _, _, _]) rfl rfl rfl rfl ?_
  refine s_con (p' := 3) rfl rfl ?_
  refine s_istn (p' := 4) (ls' := [_, _, _, _]) rfl rfl rfl rfl ?_
  refine s_ildn (p' := 5) rfl rfl rfl ?_
  refine s_aldn (p' := 6) rfl rfl rfl ?_
  refine s_gf (p' := 9) rfl H393 rfl rfl ?_
  refine s_icmp (p' := 38) true rfl (by decide +kernel) rfl ?_
  refine s_ildn (p' := 39) rfl rfl rfl ?_
  refine c_iret rfl rfl ?_
  refine s_istn (p' := 16) (ls' := [_, _, _, _]) rfl rfl rfl rfl ?_
  refine s_ildn (p' := 17) rfl rfl rfl ?_
  refine s_ildn (p' := 18) rfl rfl rfl ?_
  refine s_icmp (p' := 23) true rfl (by decide +kernel) rfl ?_
  refine s_incz (p' := 26) (w := (nI 5)) (ls' := [_, _, _, _]) rfl rfl rfl (by decide +kernel) rfl rfl ?_
  refine s_goto (p' := 4) rfl rfl ?_
  refine s_ildn (p' := 5) rfl rfl rfl ?_
  refine s_bip (p' := 7) rfl rfl ?_
  refine s_icmp (p' := 10) false rfl (by decide +kernel) rfl ?_
  refine s_aldn (p' := 11) rfl rfl rfl ?_
  refine s_ildn (p' := 12) rfl rfl rfl ?_
  refine c_call (p' := 15) (kc := 97) (ls0 := [_, _, _, _]) rfl rfl rfl rfl rfl (mj_rcv_is H393) rfl rfl rfl ?_
  refine s_ildn (p' := 1) rfl rfl rfl ?_
  refine s_istn (p' := 2) (ls' := [_, _, _, _]) rfl rfl rfl rfl ?_
  refine s_con (p' := 3) rfl rfl ?_
  refine s_istn (p' := 4) (ls' := [_, _, _, _]) rfl rfl rfl rfl ?_
  refine s_ildn (p' := 5) rfl rfl rfl ?_
  refine s_aldn (p' := 6) rfl rfl rfl ?_
  refine s_gf (p' := 9) rfl H393 rfl rfl ?_
  refine s_icmp (p' := 38) true rfl (by decide +kernel) rfl ?_
  refine s_ildn (p' := 39) rfl rfl rfl ?_
  refine c_iret rfl rfl ?_
  refine s_istn (p' := 16) (ls' := [_, _, _, _]) rfl rfl rfl rfl ?_
  refine s_ildn (p' := 17) rfl rfl rfl ?_
  refine s_ildn (p' := 18) rfl rfl rfl ?_
  refine s_icmp (p' := 23) true rfl (by decide +kernel) rfl ?_
  refine s_incz (p' := 26) (w := (nI 6)) (ls' := [_, _, _, _]) rfl rfl rfl (by decide +kernel) rfl rfl ?_
  refine s_goto (p' := 4) rfl rfl ?_
  refine s_ildn (p' := 5) rfl rfl rfl ?_
  refine s_bip (p' := 7) rfl rfl ?_
  refine s_icmp (p' := 10) false rfl (by decide +kernel) rfl ?_
  refine s_aldn (p' := 11) rfl rfl rfl ?_
  refine s_ildn (p' := 12) rfl rfl rfl ?_
  refine c_call (p' := 15) (kc := 97) (ls0 := [_, _, _, _]) rfl rfl rfl rfl rfl (mj_rcv_is H393) rfl rfl rfl ?_
  refine s_ildn (p' := 1) rfl rfl rfl ?_
  refine s_istn (p' := 2) (ls' := [_, _, _, _]) rfl rfl rfl rfl ?_
  refine s_con (p' := 3) rfl rfl ?_
  refine s_istn (p' := 4) (ls' := [_, _, _, _]) rfl rfl rfl rfl ?_
  refine s_ildn (p' := 5) rfl rfl rfl ?_
  refine s_aldn (p' := 6) rfl rfl rfl ?_
  refine s_gf (p' := 9) rfl H393 rfl rfl ?_
  refine s_icmp (p' := 38) true rfl (by decide +kernel) rfl ?_
  refine s_ildn (p' := 39) rfl rfl rfl ?_
  refine c_iret rfl rfl ?_
  refine s_istn (p' := 16) (ls' := [_, _, _, _]) rfl rfl rfl rfl ?_
  refine s_ildn (p' := 17) rfl rfl rfl ?_
  refine s_ildn (p' := 18) rfl rfl rfl ?_
  refine s_icmp (p' := 23) true rfl (by decide +kernel) rfl ?_
  refine s_incz (p' := 26) (w := (nI 7)) (ls' := [_, _, _, _]) rfl rfl rfl (by decide +kernel) rfl rfl ?_
  refine s_goto (p' := 4) rfl rfl ?_
  refine s_ildn (p' := 5) rfl rfl rfl ?_
  refine s_bip (p' := 7) rfl rfl ?_
  refine s_icmp (p' := 10) false rfl (by decide +kernel) rfl ?_
  refine s_aldn (p' := 11) rfl rfl rfl ?_
  refine s_ildn (p' := 12) rfl rfl rfl ?_
  refine c_call (p' := 15) (kc := 97) (ls0 := [_, _, _, _]) rfl rfl rfl rfl rfl (mj_rcv_is H393) rfl rfl rfl ?_
  refine s_ildn (p' := 1) rfl rfl rfl ?_
  refine s_istn (p' := 2) (ls' := [_, _, _, _]) rfl rfl rfl rfl ?_
  refine s_con (p' := 3) rfl rfl ?_
  refine s_istn (p' := 4) (ls' := [_, _, _, _]) rfl rfl rfl rfl ?_
  refine s_ildn (p' := 5) rfl rfl rfl ?_
  refine s_aldn (p' := 6) rfl rfl rfl ?_
  refine s_gf (p' := 9) rfl H393 rfl rfl ?_
  refine s_icmp (p' := 38) true rfl (by decide +kernel) rfl ?_
  refine s_ildn (p' := 39) rfl rfl rfl ?_
  refine c_iret rfl rfl ?_
  refine s_istn (p' := 16) (ls' := [_, _, _, _]) rfl rfl rfl rfl ?_
  refine s_ildn (p' := 17) rfl rfl rfl ?_
  refine s_ildn (p' := 18) rfl rfl rfl ?_
  refine s_icmp (p' := 23) true rfl (by decide +kernel) rfl ?_
  refine s_incz (p' := 26) (w := (nI 8)) (ls' := [_, _, _, _]) rfl rfl rfl (by decide +kernel) rfl rfl ?_
  refine s_goto (p' := 4) rfl rfl ?_
  refine s_ildn (p' := 5) rfl rfl rfl ?_
  refine s_bip (p' := 7) rfl rfl ?_
  refine s_icmp (p' := 29) true rfl (by decide +kernel) rfl ?_
  refine s_con (p' := 30) rfl rfl ?_
  refine c_iret rfl (by decide +kernel) ?_
  refine s_if (p' := 21) false rfl (by decide +kernel) rfl ?_
  refine s_incz (p' := 24) (w := (nI 5)) (ls' := [_, _, _]) rfl rfl rfl (by decide +kernel) rfl rfl ?_
  refine s_incz (p' := 27) (w := (nI 5)) (ls' := [_, _, _]) rfl rfl rfl (by decide +kernel) rfl rfl ?_
  refine s_goto (p' := 4) rfl rfl ?_
  refine s_ildn (p' := 5) rfl rfl rfl ?_
  refine s_bip (p' := 7) rfl rfl ?_
  refine s_icmp (p' := 10) false rfl (by decide +kernel) rfl ?_
  refine s_aldn (p' := 11) rfl rfl rfl ?_
  refine s_gf (p' := 14) rfl H0 rfl rfl ?_
  refine s_ildn (p' := 15) rfl rfl rfl ?_
  refine c_call (p' := 18) (kc := 98) (ls0 := [_, _, _, _]) rfl rfl rfl rfl rfl (mj_rcv_is H393) rfl rfl rfl ?_
  refine s_ildn (p' := 1) rfl rfl rfl ?_
  refine s_istn (p' := 2) (ls' := [_, _, _, _]) rfl rfl rfl rfl ?_
  refine s_con (p' := 3) rfl rfl ?_
  refine s_istn (p' := 4) (ls' := [_, _, _, _]) rfl rfl rfl rfl ?_
  refine s_ildn (p' := 5) rfl rfl rfl ?_
  refine s_bip (p' := 7) rfl rfl ?_
  refine s_icmp (p' := 10) false rfl (by decide +kernel) rfl ?_
  refine s_aldn (p' := 11) rfl rfl rfl ?_
  refine s_ildn (p' := 12) rfl rfl rfl ?_
  refine c_call (p' := 15) (kc := 97) (ls0 := [_, _, _, _]) rfl rfl rfl rfl rfl (mj_rcv_is H393) rfl rfl rfl ?_
  refine s_ildn (p' := 1) rfl rfl rfl ?_
  refine s_istn (p' := 2) (ls' := [_, _, _, _]) rfl rfl rfl rfl ?_
  refine s_con (p' := 3) rfl rfl ?_
  refine s_istn (p' := 4) (ls' := [_, _, _, _]) rfl rfl rfl rfl ?_
  refine s_ildn (p' := 5) rfl rfl rfl ?_
  refine s_aldn (p' := 6) rfl rfl rfl ?_
  refine s_gf (p' := 9) rfl H393 rfl rfl ?_
  refine s_icmp (p' := 38) true rfl (by decide +kernel) rfl ?_
  refine s_ildn (p' := 39) rfl rfl rfl ?_
  refine c_iret rfl rfl ?_
  refine s_istn (p' := 16) (ls' := [_, _, _, _]) rfl rfl rfl rfl ?_
  refine s_ildn (p' := 17) rfl rfl rfl ?_
  refine s_ildn (p' := 18) rfl rfl rfl ?_
  refine s_icmp (p' := 23) true rfl (by decide +kernel) rfl ?_
  refine s_incz (p' := 26) (w := (nI 1)) (ls' := [_, _, _, _]) rfl rfl rfl (by decide +kernel) rfl rfl ?_
  refine s_goto (p' := 4) rfl rfl ?_
  refine s_ildn (p' := 5) rfl rfl rfl ?_
  refine s_bip (p' := 7) rfl rfl ?_
  refine s_icmp (p' := 10) false rfl (by decide +kernel) rfl ?_
  refine s_aldn (p' := 11) rfl rfl rfl ?_
  refine s_ildn (p' := 12) rfl rfl rfl ?_
  refine c_call (p' := 15) (kc := 97) (ls0 := [_, _, _, _]) rfl rfl rfl rfl rfl (mj_rcv_is H393) rfl rfl rfl ?_
  refine s_ildn (p' := 1) rfl rfl rfl ?_
  refine s_istn (p' := 2) (ls' := [_, _, _, _]) rfl rfl rfl rfl ?_
  refine s_con (p' := 3) rfl rfl ?_
  refine s_istn (p' := 4) (ls' := [_, _, _, _]) rfl rfl rfl rfl ?_
  refine s_ildn (p' := 5) rfl rfl rfl ?_
  refine s_aldn (p' := 6) rfl rfl rfl ?_
  refine s_gf (p' := 9) rfl H393 rfl rfl ?_
  refine s_icmp (p' := 38) true rfl (by decide +kernel) rfl ?_
  refine s_ildn (p' := 39) rfl rfl rfl ?_
  refine c_iret rfl rfl ?_
  refine s_istn (p' := 16) (ls' := [_, _, _, _]) rfl rfl rfl rfl ?_
  refine s_ildn (p' := 17) rfl rfl rfl ?_
  refine s_ildn (p' := 18) rfl rfl rfl ?_
  refine s_icmp (p' := 23) true rfl (by decide +kernel) rfl ?_
  refine s_incz (p' := 26) (w := (nI 2)) (ls' := [_, _, _, _]) rfl rfl rfl (by decide +kernel) rfl rfl ?_
  refine s_goto (p' := 4) rfl rfl ?_
  refine s_ildn (p' := 5) rfl rfl rfl ?_
  refine s_bip (p' := 7) rfl rfl ?_
  refine s_icmp (p' := 10) false rfl (by decide +kernel) rfl ?_
  refine s_aldn (p' := 11) rfl rfl rfl ?_
  refine s_ildn (p' := 12) rfl rfl rfl ?_
  refine c_call (p' := 15) (kc := 97) (ls0 := [_, _, _, _]) rfl rfl rfl rfl rfl (mj_rcv_is H393) rfl rfl rfl ?_
  refine s_ildn (p' := 1) rfl rfl rfl ?_
  refine s_istn (p' := 2) (ls' := [_, _, _, _]) rfl rfl rfl rfl ?_
  refine s_con (p' := 3) rfl rfl ?_
  refine s_istn (p' := 4) (ls' := [_, _, _, _]) rfl rfl rfl rfl ?_
  refine s_ildn (p' := 5) rfl rfl rfl ?_
  refine s_aldn (p' := 6) rfl rfl rfl ?_
  refine s_gf (p' := 9) rfl H393 rfl rfl ?_
  refine s_icmp (p' := 38) true rfl (by decide +kernel) rfl ?_
  refine s_ildn (p' := 39) rfl rfl rfl ?_
  refine c_iret rfl rfl ?_
  refine s_istn (p' := 16) (ls' := [_, _, _, _]) rfl rfl rfl rfl ?_
  refine s_ildn (p' := 17) rfl rfl rfl ?_
  refine s_ildn (p' := 18) rfl rfl rfl ?_
  refine s_icmp (p' := 23) true rfl (by decide +kernel) rfl ?_
  refine s_incz (p' := 26) (w := (nI 3)) (ls' := [_, _, _, _]) rfl rfl rfl (by decide +kernel) rfl rfl ?_
  refine s_goto (p' := 4) rfl rfl ?_
  refine s_ildn (p' := 5) rfl rfl rfl ?_
  refine s_bip (p' := 7) rfl rfl ?_
  refine s_icmp (p' := 10) false rfl (by decide +kernel) rfl ?_
  refine s_aldn (p' := 11) rfl rfl rfl ?_
  refine s_ildn (p' := 12) rfl rfl rfl ?_
  refine c_call (p' := 15) (kc := 97) (ls0 := [_, _, _, _]) rfl rfl rfl rfl rfl (mj_rcv_is H393) rfl rfl rfl ?_
  refine s_ildn (p' := 1) rfl rfl rfl ?_
  refine s_istn (p' := 2) (ls' := [_, _, _, _]) rfl rfl rfl rfl ?_
  refine s_con (p' := 3) rfl rfl ?_
  refine s_istn (p' := 4) (ls' := [_, _, _, _]) rfl rfl rfl rfl ?_
  refine s_ildn (p' := 5) rfl rfl rfl ?_
  refine s_aldn (p' := 6) rfl rfl rfl ?_
  refine s_gf (p' := 9) rfl H393 rfl rfl ?_
  refine s_icmp (p' := 38) true rfl (by decide +kernel) rfl ?_
  refine s_ildn (p' := 39) rfl rfl rfl ?_
  refine c_iret rfl rfl ?_
  refine s_istn (p' := 16) (ls' := [_, _, _, _]) rfl rfl rfl rfl ?_
  refine s_ildn (p' := 17) rfl rfl rfl ?_
  refine s_ildn (p' := 18) rfl rfl rfl ?_
  refine s_icmp (p' := 23) true rfl (by decide +kernel) rfl ?_
  refine s_incz (p' := 26) (w := (nI 4)) (ls' := [_, _, _, _]) rfl rfl rfl (by decide +kernel) rfl rfl ?_
  refine s_goto (p' := 4) rfl rfl ?_
  refine s_ildn (p' := 5) rfl rfl rfl ?_
  refine s_bip (p' := 7) rfl rfl ?_
  refine s_icmp (p' := 10) false rfl (by decide +kernel) rfl ?_
  refine s_aldn (p' := 11) rfl rfl rfl ?_
  refine s_ildn (p' := 12) rfl rfl rfl ?_
  refine c_call (p' := 15) (kc := 97) (ls0 := [_, _, _, _]) rfl rfl rfl rfl rfl (mj_rcv_is H393) rfl rfl rfl ?_
  refine s_ildn (p' := 1) rfl rfl rfl ?_
  refine s_istn (p' := 2) (ls' := [_, _, _, _]) rfl rfl rfl rfl ?_
  refine s_con (p' := 3) rfl rfl ?_
  refine s_istn (p' := 4) (ls' := [_, _, _, _]) rfl rfl rfl rfl ?_
  refine s_ildn (p' := 5) rfl rfl rfl ?_
  refine s_aldn (p' := 6) rfl rfl rfl ?_
  refine s_gf (p' := 9) rfl H393 rfl rfl ?_
  refine s_icmp (p' := 38) true rfl (by decide +kernel) rfl ?_
  refine s_ildn (p' := 39) rfl rfl rfl ?_
  refine c_iret rfl rfl ?_
  refine s_istn (p' := 16) (ls' := [_, _, _, _]) rfl rfl rfl rfl ?_
  refine s_ildn (p' := 17) rfl rfl rfl ?_
  refine s_ildn (p' := 18) rfl rfl rfl ?_
  refine s_icmp (p' := 23) true rfl (by decide +kernel) rfl ?_
  refine s_incz (p' := 26) (w := (nI 5)) (ls' := [_, _, _, _]) rfl rfl rfl (by decide +kernel) rfl rfl ?_
  refine s_goto (p' := 4) rfl rfl ?_
  refine s_ildn (p' := 5) rfl rfl rfl ?_
  refine s_bip (p' := 7) rfl rfl ?_
  refine s_icmp (p' := 10) false rfl (by decide +kernel) rfl ?_
  refine s_aldn (p' := 11) rfl rfl rfl ?_
  refine s_ildn (p' := 12) rfl rfl rfl ?_
  refine c_call (p' := 15) (kc := 97) (ls0 := [_, _, _, _]) rfl rfl rfl rfl rfl (mj_rcv_is H393) rfl rfl rfl ?_
  refine s_ildn (p' := 1) rfl rfl rfl ?_
  refine s_istn (p' := 2) (ls' := [_, _, _, _]) rfl rfl rfl rfl ?_
  refine s_con (p' := 3) rfl rfl ?_
  refine s_istn (p' := 4) (ls' := [_, _, _, _]) rfl rfl rfl rfl ?_
  refine s_ildn (p' := 5) rfl rfl rfl ?_
  refine s_aldn (p' := 6) rfl rfl rfl ?_
  refine s_gf (p' := 9) rfl H393 rfl rfl ?_
  refine s_icmp (p' := 38) true rfl (by decide +kernel) rfl ?_
  refine s_ildn (p' := 39) rfl rfl rfl ?_
  refine c_iret rfl rfl ?_
  refine s_istn (p' := 16) (ls' := [_, _, _, _]) rfl rfl rfl rfl ?_
  refine s_ildn (p' := 17) rfl rfl rfl ?_
  refine s_ildn (p' := 18) rfl rfl rfl ?_
  refine s_icmp (p' := 23) true rfl (by decide +kernel) rfl ?_
  refine s_incz (p' := 26) (w := (nI 6)) (ls' := [_, _, _, _]) rfl rfl rfl (by decide +kernel) rfl rfl ?_
  refine s_goto (p' := 4) rfl rfl ?_
  refine s_ildn (p' := 5) rfl rfl rfl ?_
  refine s_bip (p' := 7) rfl rfl ?_
  refine s_icmp (p' := 10) false rfl (by decide +kernel) rfl ?_
  refine s_aldn (p' := 11) rfl rfl rfl ?_
  refine s_ildn (p' := 12) rfl rfl rfl ?_
  refine c_call (p' := 15) (kc := 97) (ls0 := [_, _, _, _]) rfl rfl rfl rfl rfl (mj_rcv_is H393) rfl rfl rfl ?_
  refine s_ildn (p' := 1) rfl rfl rfl ?_
  refine s_istn (p' := 2) (ls' := [_, _, _, _]) rfl rfl rfl rfl ?_
  refine s_con (p' := 3) rfl rfl ?_
  refine s_istn (p' := 4) (ls' := [_, _, _, _]) rfl rfl rfl rfl ?_
  refine s_ildn (p' := 5) rfl rfl rfl ?_
  refine s_aldn (p' := 6) rfl rfl rfl ?_
  refine s_gf (p' := 9) rfl H393 rfl rfl ?_
  refine s_icmp (p' := 38) true rfl (by decide +kernel) rfl ?_
  refine s_ildn (p' := 39) rfl rfl rfl ?_
  refine c_iret rfl rfl ?_
  refine s_istn (p' := 16) (ls' := [_, _, _, _]) rfl rfl rfl rfl ?_
  refine s_ildn (p' := 17) rfl rfl rfl ?_
  refine s_ildn (p' := 18) rfl rfl rfl ?_
  refine s_icmp (p' := 23) true rfl (by decide +kernel) rfl ?_
  refine s_incz (p' := 26) (w := (nI 7)) (ls' := [_, _, _, _]) rfl rfl rfl (by decide +kernel) rfl rfl ?_
  refine s_goto (p' := 4) rfl rfl ?_
  refine s_ildn (p' := 5) rfl rfl rfl ?_
  refine s_bip (p' := 7) rfl rfl ?_
  refine s_icmp (p' := 10) false rfl (by decide +kernel) rfl ?_
  refine s_aldn (p' := 11) rfl rfl rfl ?_
  refine s_ildn (p' := 12) rfl rfl rfl ?_
  refine c_call (p' := 15) (kc := 97) (ls0 := [_, _, _, _]) rfl rfl rfl rfl rfl (mj_rcv_is H393) rfl rfl rfl ?_
  refine s_ildn (p' := 1) rfl rfl rfl ?_
  refine s_istn (p' := 2) (ls' := [_, _, _, _]) rfl rfl rfl rfl ?_
  refine s_con (p' := 3) rfl rfl ?_
  refine s_istn (p' := 4) (ls' := [_, _, _, _]) rfl rfl rfl rfl ?_
  refine s_ildn (p' := 5) rfl rfl rfl ?_
  refine s_aldn (p' := 6) rfl rfl rfl ?_
  refine s_gf (p' := 9) rfl H393 rfl rfl ?_
  refine s_icmp (p' := 38) true rfl (by decide +kernel) rfl ?_
  refine s_ildn (p' := 39) rfl rfl rfl ?_
  refine c_iret rfl rfl ?_
  refine s_istn (p' := 16) (ls' := [_, _, _, _]) rfl rfl rfl rfl ?_
  refine s_ildn (p' := 17) rfl rfl rfl ?_
  refine s_ildn (p' := 18) rfl rfl rfl ?_
  refine s_icmp (p' := 23) true rfl (by decide +kernel) rfl ?_
  refine s_incz (p' := 26) (w := (nI 8)) (ls' := [_, _, _, _]) rfl rfl rfl (by decide +kernel) rfl rfl ?_
  refine s_goto (p' := 4) rfl rfl ?_
  refine s_ildn (p' := 5) rfl rfl rfl ?_
  refine s_bip (p' := 7) rfl rfl ?_
  refine s_icmp (p' := 29) true rfl (by decide +kernel) rfl ?_
  refine s_con (p' := 30) rfl rfl ?_
  refine c_iret rfl (by decide +kernel) ?_
  refine s_if (p' := 21) false rfl (by decide +kernel) rfl ?_
  refine s_incz (p' := 24) (w := (nI 6)) (ls' := [_, _, _]) rfl rfl rfl (by decide +kernel) rfl rfl ?_
  refine s_incz (p' := 27) (w := (nI 6)) (ls' := [_, _, _]) rfl rfl rfl (by decide +kernel) rfl rfl ?_
  refine s_goto (p' := 4) rfl rfl ?_
  refine s_ildn (p' := 5) rfl rfl rfl ?_
  refine s_bip (p' := 7) rfl rfl ?_
  refine s_icmp (p' := 10) false rfl (by decide +kernel) rfl ?_
  refine s_aldn (p' := 11) rfl rfl rfl ?_
  refine s_gf (p' := 14) rfl H0 rfl rfl ?_
  refine s_ildn (p' := 15) rfl rfl rfl ?_
  refine c_call (p' := 18) (kc := 98) (ls0 := [_, _, _, _]) rfl rfl rfl rfl rfl (mj_rcv_is H393) rfl rfl rfl ?_
  refine s_ildn (p' := 1) rfl rfl rfl ?_
  refine s_istn (p' := 2) (ls' := [_, _, _, _]) rfl rfl rfl rfl ?_
  refine s_con (p' := 3) rfl rfl ?_
  refine s_istn (p' := 4) (ls' := [_, _, _, _]) rfl rfl rfl rfl ?_
  refine s_ildn (p' := 5) rfl rfl rfl ?_
  refine s_bip (p' := 7) rfl rfl ?_
  refine s_icmp (p' := 10) false rfl (by decide +kernel) rfl ?_
  refine s_aldn (p' := 11) rfl rfl rfl ?_
  refine s_ildn (p' := 12) rfl rfl rfl ?_
  refine c_call (p' := 15) (kc := 97) (ls0 := [_, _, _, _]) rfl rfl rfl rfl rfl (mj_rcv_is H393) rfl rfl rfl ?_
  refine s_ildn (p' := 1) rfl rfl rfl ?_
  refine s_istn (p' := 2) (ls' := [_, _, _, _]) rfl rfl rfl rfl ?_
  refine s_con (p' := 3) rfl rfl ?_
  refine s_istn (p' := 4) (ls' := [_, _, _, _]) rfl rfl rfl rfl ?_
  refine s_ildn (p' := 5) rfl rfl rfl ?_
  refine s_aldn (p' := 6) rfl rfl rfl ?_
  refine s_gf (p' := 9) rfl H393 rfl rfl ?_
  refine s_icmp (p' := 38) true rfl (by decide +kernel) rfl ?_
  refine s_ildn (p' := 39) rfl rfl rfl ?_
  refine c_iret rfl rfl ?_
  refine s_istn (p' := 16) (ls' := [_, _, _, _]) rfl rfl rfl rfl ?_
  refine s_ildn (p' := 17) rfl rfl rfl ?_
  refine s_ildn (p' := 18) rfl rfl rfl ?_
  refine s_icmp (p' := 23) true rfl (by decide +kernel) rfl ?_
  refine s_incz (p' := 26) (w := (nI 1)) (ls' := [_, _, _, _]) rfl rfl rfl (by decide +kernel) rfl rfl ?_
  refine s_goto (p' := 4) rfl rfl ?_
  refine s_ildn (p' := 5) rfl rfl rfl ?_
  refine s_bip (p' := 7) rfl rfl ?_
  refine s_icmp (p' := 10) false rfl (by decide +kernel) rfl ?_
  refine s_aldn (p' := 11) rfl rfl rfl ?_
  refine s_ildn (p' := 12) rfl rfl rfl ?_
  refine c_call (p' := 15) (kc := 97) (ls0 := [_, _, _, _]) rfl rfl rfl rfl rfl (mj_rcv_is H393) rfl rfl rfl ?_
  refine s_ildn (p' := 1) rfl rfl rfl ?_
  refine s_istn (p' := 2) (ls' := [_, _, _, _]) rfl rfl rfl rfl ?_
  refine s_con (p' := 3) rfl rfl ?_
  refine s_istn (p' := 4) (ls' := [_, _, _, _]) rfl rfl rfl rfl ?_
  refine s_ildn (p' := 5) rfl rfl rfl ?_
  refine s_aldn (p' := 6) rfl rfl rfl ?_
  refine s_gf (p' := 9) rfl H393 rfl rfl ?_
  refine s_icmp (p' := 38) true rfl (by decide +kernel) rfl ?_
  refine s_ildn (p' := 39) rfl rfl rfl ?_
  refine c_iret rfl rfl ?_
  refine s_istn (p' := 16) (ls' := [_, _, _, _]) rfl rfl rfl rfl ?_
  refine s_ildn (p' := 17) rfl rfl rfl ?_
  refine s_ildn (p' := 18) rfl rfl rfl ?_
  refine s_icmp (p' := 23) true rfl (by decide +kernel) rfl ?_
  refine s_incz (p' := 26) (w := (nI 2)) (ls' := [_, _, _, _]) rfl rfl rfl (by decide +kernel) rfl rfl ?_
  refine s_goto (p' := 4) rfl rfl ?_
  refine s_ildn (p' := 5) rfl rfl rfl ?_
  refine s_bip (p' := 7) rfl rfl ?_
  refine s_icmp (p' := 10) false rfl (by decide +kernel) rfl ?_
  refine s_aldn (p' := 11) rfl rfl rfl ?_
  refine s_ildn (p' := 12) rfl rfl rfl ?_
  refine c_call (p' := 15) (kc := 97) (ls0 := [_, _, _, _]) rfl rfl rfl rfl rfl (mj_rcv_is H393) rfl rfl rfl ?_
  refine s_ildn (p' := 1) rfl rfl rfl ?_
  refine s_istn (p' := 2) (ls' := [_, _, _, _]) rfl rfl rfl rfl ?_
  refine s_con (p' := 3) rfl rfl ?_
  refine s_istn (p' := 4) (ls' := [_, _, _, _]) rfl rfl rfl rfl ?_
  refine s_ildn (p' := 5) rfl rfl rfl ?_
  refine s_aldn (p' := 6) rfl rfl rfl ?_
  refine s_gf (p' := 9) rfl H393 rfl rfl ?_
  refine s_icmp (p' := 38) true rfl (by decide +kernel) rfl ?_
  refine s_ildn (p' := 39) rfl rfl rfl ?_
  refine c_iret rfl rfl ?_
  refine s_istn (p' := 16) (ls' := [_, _, _, _]) rfl rfl rfl rfl ?_
  refine s_ildn (p' := 17) rfl rfl rfl ?_
  refine s_ildn (p' := 18) rfl rfl rfl ?_
  refine s_icmp (p' := 23) true rfl (by decide +kernel) rfl ?_
  refine s_incz (p' := 26) (w := (nI 3)) (ls' := [_, _, _, _]) rfl rfl rfl (by decide +kernel) rfl rfl ?_
  refine s_goto (p' := 4) rfl rfl ?_
  refine s_ildn (p' := 5) rfl rfl rfl ?_
  refine s_bip (p' := 7) rfl rfl ?_
  refine s_icmp (p' := 10) false rfl (by decide +kernel) rfl ?_
  refine s_aldn (p' := 11) rfl rfl rfl ?_
  refine s_ildn (p' := 12) rfl rfl rfl ?_
  refine c_call (p' := 15) (kc := 97) (ls0 := [_, _, _, _]) rfl rfl rfl rfl rfl (mj_rcv_is H393) rfl rfl rfl ?_
  refine s_ildn (p' := 1) rfl rfl rfl ?_
  refine s_istn (p' := 2) (ls' := [_, _, _, _]) rfl rfl rfl rfl ?_
  refine s_con (p' := 3) rfl rfl ?_
  refine s_istn (p' := 4) (ls' := [_, _, _, _]) rfl rfl rfl rfl ?_
  refine s_ildn (p' := 5) rfl rfl rfl ?_
  refine s_aldn (p' := 6) rfl rfl rfl ?_
  refine s_gf (p' := 9) rfl H393 rfl rfl ?_
  refine s_icmp (p' := 38) true rfl (by decide +kernel) rfl ?_
  refine s_ildn (p' := 39) rfl rfl rfl ?_
  refine c_iret rfl rfl ?_
  refine s_istn (p' := 16) (ls' := [_, _, _, _]) rfl rfl rfl rfl ?_
  refine s_ildn (p' := 17) rfl rfl rfl ?_
  refine s_ildn (p' := 18) rfl rfl rfl ?_
  refine s_icmp (p' := 23) true rfl (by decide +kernel) rfl ?_
  refine s_incz (p' := 26) (w := (nI 4)) (ls' := [_, _, _, _]) rfl rfl rfl (by decide +kernel) rfl rfl ?_
  refine s_goto (p' := 4) rfl rfl ?_
  refine s_ildn (p' := 5) rfl rfl rfl ?_
  refine s_bip (p' := 7) rfl rfl ?_
  refine s_icmp (p' := 10) false rfl (by decide +kernel) rfl ?_
  refine s_aldn (p' := 11) rfl rfl rfl ?_
  refine s_ildn (p' := 12) rfl rfl rfl ?_
  refine c_call (p' := 15) (kc := 97) (ls0 := [_, _, _, _]) rfl rfl rfl rfl rfl (mj_rcv_is H393) rfl rfl rfl ?_
  refine s_ildn (p' := 1) rfl rfl rfl ?_
  refine s_istn (p' := 2) (ls' := [_, _, _, _]) rfl rfl rfl rfl ?_
  refine s_con (p' := 3) rfl rfl ?_
  refine s_istn (p' := 4) (ls' := [_, _, _, _]) rfl rfl rfl rfl ?_
  refine s_ildn (p' := 5) rfl rfl rfl ?_
  refine s_aldn (p' := 6) rfl rfl rfl ?_
  refine s_gf (p' := 9) rfl H393 rfl rfl ?_
  refine s_icmp (p' := 38) true rfl (by decide +kernel) rfl ?_
  refine s_ildn (p' := 39) rfl rfl rfl ?_
  refine c_iret rfl rfl ?_
  refine s_istn (p' := 16) (ls' := [_, _, _, _]) rfl rfl rfl rfl ?_
  refine s_ildn (p' := 17) rfl rfl rfl ?_
  refine s_ildn (p' := 18) rfl rfl rfl ?_
  refine s_icmp (p' := 23) true rfl (by decide +kernel) rfl ?_
  refine s_incz (p' := 26) (w := (nI 5)) (ls' := [_, _, _, _]) rfl rfl rfl (by decide +kernel) rfl rfl ?_
  refine s_goto (p' := 4) rfl rfl ?_
  refine s_ildn (p' := 5) rfl rfl rfl ?_
  refine s_bip (p' := 7) rfl rfl ?_
  refine s_icmp (p' := 10) false rfl (by decide +kernel) rfl ?_
  refine s_aldn (p' := 11) rfl rfl rfl ?_
  refine s_ildn (p' := 12) rfl rfl rfl ?_
  refine c_call (p' := 15) (kc := 97) (ls0 := [_, _, _, _]) rfl rfl rfl rfl rfl (mj_rcv_is H393) rfl rfl rfl ?_
  refine s_ildn (p' := 1) rfl rfl rfl ?_
  refine s_istn (p' := 2) (ls' := [_, _, _, _]) rfl rfl rfl rfl ?_
  refine s_con (p' := 3) rfl rfl ?_
  refine s_istn (p' := 4) (ls' := [_, _, _, _]) rfl rfl rfl rfl ?_
  refine s_ildn (p' := 5) rfl rfl rfl ?_
  refine s_aldn (p' := 6) rfl rfl rfl ?_
  refine s_gf (p' := 9) rfl H393 rfl rfl ?_
  refine s_icmp (p' := 38) true rfl (by decide +kernel) rfl ?_
  refine s_ildn (p' := 39) rfl rfl rfl ?_
  refine c_iret rfl rfl ?_
  refine s_istn (p' := 16) (ls' := [_, _, _, _]) rfl rfl rfl rfl ?_
  refine s_ildn (p' := 17) rfl rfl rfl ?_
  refine s_ildn (p' := 18) rfl rfl rfl ?_
  refine s_icmp (p' := 23) true rfl (by decide +kernel) rfl ?_
  refine s_incz (p' := 26) (w := (nI 6)) (ls' := [_, _, _, _]) rfl rfl rfl (by decide +kernel) rfl rfl ?_
  refine s_goto (p' := 4) rfl rfl ?_
  refine s_ildn (p' := 5) rfl rfl rfl ?_
  refine s_bip (p' := 7) rfl rfl ?_
  refine s_icmp (p' := 10) false rfl (by decide +kernel) rfl ?_
  refine s_aldn (p' := 11) rfl rfl rfl ?_
  refine s_ildn (p' := 12) rfl rfl rfl ?_
  refine c_call (p' := 15) (kc := 97) (ls0 := [_, _, _, _]) rfl rfl rfl rfl rfl (mj_rcv_is H393) rfl rfl rfl ?_
  refine s_ildn (p' := 1) rfl rfl rfl ?_
  refine s_istn (p' := 2) (ls' := [_, _, _, _]) rfl rfl rfl rfl ?_
  refine s_con (p' := 3) rfl rfl ?_
  refine s_istn (p' := 4) (ls' := [_, _, _, _]) rfl rfl rfl rfl ?_
  refine s_ildn (p' := 5) rfl rfl rfl ?_
  refine s_aldn (p' := 6) rfl rfl rfl ?_
  refine s_gf (p' := 9) rfl H393 rfl rfl ?_
  refine s_icmp (p' := 38) true rfl (by decide +kernel) rfl ?_
  refine s_ildn (p' := 39) rfl rfl rfl ?_
  refine c_iret rfl rfl ?_
  refine s_istn (p' := 16) (ls' := [_, _, _, _]) rfl rfl rfl rfl ?_
  refine s_ildn (p' := 17) rfl rfl rfl ?_
  refine s_ildn (p' := 18) rfl rfl rfl ?_
  refine s_icmp (p' := 23) true rfl (by decide +kernel) rfl ?_
  refine s_incz (p' := 26) (w := (nI 7)) (ls' := [_, _, _, _]) rfl rfl rfl (by decide +kernel) rfl rfl ?_
  refine s_goto (p' := 4) rfl rfl ?_
  refine s_ildn (p' := 5) rfl rfl rfl ?_
  refine s_bip (p' := 7) rfl rfl ?_
  refine s_icmp (p' := 10) false rfl (by decide +kernel) rfl ?_
  refine s_aldn (p' := 11) rfl rfl rfl ?_
  refine s_ildn (p' := 12) rfl rfl rfl ?_
  refine c_call (p' := 15) (kc := 97) (ls0 := [_, _, _, _]) rfl rfl rfl rfl rfl (mj_rcv_is H393) rfl rfl rfl ?_
  refine s_ildn (p' := 1) rfl rfl rfl ?_
  refine s_istn (p' := 2) (ls' := [_, _, _, _]) rfl rfl rfl rfl ?_
  refine s_con (p' := 3) rfl rfl ?_
  refine s_istn (p' := 4) (ls' := [_, _, _, _]) rfl rfl rfl rfl ?_
  refine s_ildn (p' := 5) rfl rfl rfl ?_
  refine s_aldn (p' := 6) rfl rfl rfl ?_
  refine s_gf (p' := 9) rfl H393 rfl rfl ?_
  refine s_icmp (p' := 38) true rfl (by decide +kernel) rfl ?_
  refine s_ildn (p' := 39) rfl rfl rfl ?_
  refine c_iret rfl rfl ?_
  refine s_istn (p' := 16) (ls' := [_, _, _, _]) rfl rfl rfl rfl ?_
  refine s_ildn (p' := 17) rfl rfl rfl ?_
  refine s_ildn (p' := 18) rfl rfl rfl ?_
  refine s_icmp (p' := 23) true rfl (by decide +kernel) rfl ?_
  refine s_incz (p' := 26) (w := (nI 8)) (ls' := [_, _, _, _]) rfl rfl rfl (by decide +kernel) rfl rfl ?_
  refine s_goto (p' := 4) rfl rfl ?_
  refine s_ildn (p' := 5) rfl rfl rfl ?_
  refine s_bip (p' := 7) rfl rfl ?_
  refine s_icmp (p' := 29) true rfl (by decide +kernel) rfl ?_
  refine s_con (p' := 30) rfl rfl ?_
  refine c_iret rfl (by decide +kernel) ?_
  refine s_if (p' := 21) false rfl (by decide +kernel) rfl ?_
  refine s_incz (p' := 24) (w := (nI 7)) (ls' := [_, _, _]) rfl rfl rfl (by decide +kernel) rfl rfl ?_
  refine s_incz (p' := 27) (w := (nI 7)) (ls' := [_, _, _]) rfl rfl rfl (by decide +kernel) rfl rfl ?_
  refine s_goto (p' := 4) rfl rfl ?_
  refine s_ildn (p' := 5) rfl rfl rfl ?_
  refine s_bip (p' := 7) rfl rfl ?_
  refine s_icmp (p' := 10) false rfl (by decide +kernel) rfl ?_
  refine s_aldn (p' := 11) rfl rfl rfl ?_
  refine s_gf (p' := 14) rfl H0 rfl rfl ?_
  refine s_ildn (p' := 15) rfl rfl rfl ?_
  refine c_call (p' := 18) (kc := 98) (ls0 := [_, _, _, _]) rfl rfl rfl rfl rfl (mj_rcv_is H393) rfl rfl rfl ?_
  refine s_ildn (p' := 1) rfl rfl rfl ?_
  refine s_istn (p' := 2) (ls' := [_, _, _, _]) rfl rfl rfl rfl ?_
  refine s_con (p' := 3) rfl rfl ?_
  refine s_istn (p' := 4) (ls' := [_, _, _, _]) rfl rfl rfl rfl ?_
  refine s_ildn (p' := 5) rfl rfl rfl ?_
  refine s_bip (p' := 7) rfl rfl ?_
  refine s_icmp (p' := 10) false rfl (by decide +kernel) rfl ?_
  refine s_aldn (p' := 11) rfl rfl rfl ?_
  refine s_ildn (p' := 12) rfl rfl rfl ?_
  refine c_call (p' := 15) (kc := 97) (ls0 := [_, _, _, _]) rfl rfl rfl rfl rfl (mj_rcv_is H393) rfl rfl rfl ?_
  refine s_ildn (p' := 1) rfl rfl rfl ?_
  refine s_istn (p' := 2) (ls' := [_, _, _, _]) rfl rfl rfl rfl ?_
  refine s_con (p' := 3) rfl rfl ?_
  refine s_istn (p' := 4) (ls' := [_, _, _, _]) rfl rfl rfl rfl ?_
  refine s_ildn (p' := 5) rfl rfl rfl ?_
  refine s_aldn (p' := 6) rfl rfl rfl ?_
  refine s_gf (p' := 9) rfl H393 rfl rfl ?_
  refine s_icmp (p' := 38) true rfl (by decide +kernel) rfl ?_
  refine s_ildn (p' := 39) rfl rfl rfl ?_
  refine c_iret rfl rfl ?_
  refine s_istn (p' := 16) (ls' := [_, _, _, _]) rfl rfl rfl rfl ?_
  refine s_ildn (p' := 17) rfl rfl rfl ?_
  refine s_ildn (p' := 18) rfl rfl rfl ?_
  refine s_icmp (p' := 23) true rfl (by decide +kernel) rfl ?_
  refine s_incz (p' := 26) (w := (nI 1)) (ls' := [_, _, _, _]) rfl rfl rfl (by decide +kernel) rfl rfl ?_
  refine s_goto (p' := 4) rfl rfl ?_
  refine s_ildn (p' := 5) rfl rfl rfl ?_
  refine s_bip (p' := 7) rfl rfl ?_
  refine s_icmp (p' := 10) false rfl (by decide +kernel) rfl ?_
  refine s_aldn (p' := 11) rfl rfl rfl ?_
  refine s_ildn (p' := 12) rfl rfl rfl ?_
  refine c_call (p' := 15) (kc := 97) (ls0 := [_, _, _, _]) rfl rfl rfl rfl rfl (mj_rcv_is H393) rfl rfl rfl ?_
  refine s_ildn (p' := 1) rfl rfl rfl ?_
  refine s_istn (p' := 2) (ls' := [_, _, _, _]) rfl rfl rfl rfl ?_
  refine s_con (p' := 3) rfl rfl ?_
  refine s_istn (p' := 4) (ls' := [_, _, _, _]) rfl rfl rfl rfl ?_
  refine s_ildn (p' := 5) rfl rfl rfl ?_
  refine s_aldn (p' := 6) rfl rfl rfl ?_
  refine s_gf (p' := 9) rfl H393 rfl rfl ?_
  refine s_icmp (p' := 38) true rfl (by decide +kernel) rfl ?_
  refine s_ildn (p' := 39) rfl rfl rfl ?_
  refine c_iret rfl rfl ?_
  refine s_istn (p' := 16) (ls' := [_, _, _, _]) rfl rfl rfl rfl ?_
  refine s_ildn (p' := 17) rfl rfl rfl ?_
  refine s_ildn (p' := 18) rfl rfl rfl ?_
  refine s_icmp (p' := 23) true rfl (by decide +kernel) rfl ?_
  refine s_incz (p' := 26) (w := (nI 2)) (ls' := [_, _, _, _]) rfl rfl rfl (by decide +kernel) rfl rfl ?_
  refine s_goto (p' := 4) rfl rfl ?_
  refine s_ildn (p' := 5) rfl rfl rfl ?_
  refine s_bip (p' := 7) rfl rfl ?_
  refine s_icmp (p' := 10) false rfl (by decide +kernel) rfl ?_
  refine s_aldn (p' := 11) rfl rfl rfl ?_
  refine s_ildn (p' := 12) rfl rfl rfl ?_
  refine c_call (p' := 15) (kc := 97) (ls0 := [_, _, _, _]) rfl rfl rfl rfl rfl (mj_rcv_is H393) rfl rfl rfl ?_
  refine s_ildn (p' := 1) rfl rfl rfl ?_
  refine s_istn (p' := 2) (ls' := [_, _, _, _]) rfl rfl rfl rfl ?_
  refine s_con (p' := 3) rfl rfl ?_
  refine s_istn (p' := 4) (ls' := [_, _, _, _]) rfl rfl rfl rfl ?_
  refine s_ildn (p' := 5) rfl rfl rfl ?_
  refine s_aldn (p' := 6) rfl rfl rfl ?_
  refine s_gf (p' := 9) rfl H393 rfl rfl ?_
  refine s_icmp (p' := 38) true rfl (by decide +kernel) rfl ?_
  refine s_ildn (p' := 39) rfl rfl rfl ?_
  refine c_iret rfl rfl ?_
  refine s_istn (p' := 16) (ls' := [_, _, _, _]) rfl rfl rfl rfl ?_
  refine s_ildn (p' := 17) rfl rfl rfl ?_
  refine s_ildn (p' := 18) rfl rfl rfl ?_
  refine s_icmp (p' := 23) true rfl (by decide +kernel) rfl ?_
  refine s_incz (p' := 26) (w := (nI 3)) (ls' := [_, _, _, _]) rfl rfl rfl (by decide +kernel) rfl rfl ?_
  refine s_goto (p' := 4) rfl rfl ?_
  refine s_ildn (p' := 5) rfl rfl rfl ?_
  refine s_bip (p' := 7) rfl rfl ?_
  refine s_icmp (p' := 10) false rfl (by decide +kernel) rfl ?_
  refine s_aldn (p' := 11) rfl rfl rfl ?_
  refine s_ildn (p' := 12) rfl rfl rfl ?_
  refine c_call (p' := 15) (kc := 97) (ls0 := [_, _, _, _]) rfl rfl rfl rfl rfl (mj_rcv_is H393) rfl rfl rfl ?_
  refine s_ildn (p' := 1) rfl rfl rfl ?_
  refine s_istn (p' := 2) (ls' := [_, _, _, _]) rfl rfl rfl rfl ?_
  refine s_con (p' := 3) rfl rfl ?_
  refine s_istn (p' := 4) (ls' := [_, _, _, _]) rfl rfl rfl rfl ?_
  refine s_ildn (p' := 5) rfl rfl rfl ?_
  refine s_aldn (p' := 6) rfl rfl rfl ?_
  refine s_gf (p' := 9) rfl H393 rfl rfl ?_
  refine s_icmp (p' := 38) true rfl (by decide +kernel) rfl ?_
  refine s_ildn (p' := 39) rfl rfl rfl ?_
  refine c_iret rfl rfl ?_
  refine s_istn (p' := 16) (ls' := [_, _, _, _]) rfl rfl rfl rfl ?_
  refine s_ildn (p' := 17) rfl rfl rfl ?_
  refine s_ildn (p' := 18) rfl rfl rfl ?_
  refine s_icmp (p' := 23) true rfl (by decide +kernel) rfl ?_
  refine s_incz (p' := 26) (w := (nI 4)) (ls' := [_, _, _, _]) rfl rfl rfl (by decide +kernel) rfl rfl ?_
  refine s_goto (p' := 4) rfl rfl ?_
  refine s_ildn (p' := 5) rfl rfl rfl ?_
  refine s_bip (p' := 7) rfl rfl ?_
  refine s_icmp (p' := 10) false rfl (by decide +kernel) rfl ?_
  refine s_aldn (p' := 11) rfl rfl rfl ?_
  refine s_ildn (p' := 12) rfl rfl rfl ?_
  refine c_call (p' := 15) (kc := 97) (ls0 := [_, _, _, _]) rfl rfl rfl rfl rfl (mj_rcv_is H393) rfl rfl rfl ?_
  refine s_ildn (p' := 1) rfl rfl rfl ?_
  refine s_istn (p' := 2) (ls' := [_, _, _, _]) rfl rfl rfl rfl ?_
  refine s_con (p' := 3) rfl rfl ?_
  refine s_istn (p' := 4) (ls' := [_, _, _, _]) rfl rfl rfl rfl ?_
  refine s_ildn (p' := 5) rfl rfl rfl ?_
  refine s_aldn (p' := 6) rfl rfl rfl ?_
  refine s_gf (p' := 9) rfl H393 rfl rfl ?_
  refine s_icmp (p' := 38) true rfl (by decide +kernel) rfl ?_
  refine s_ildn (p' := 39) rfl rfl rfl ?_
  refine c_iret rfl rfl ?_
  refine s_istn (p' := 16) (ls' := [_, _, _, _]) rfl rfl rfl rfl ?_
  refine s_ildn (p' := 17) rfl rfl rfl ?_
  refine s_ildn (p' := 18) rfl rfl rfl ?_
  refine s_icmp (p' := 23) true rfl (by decide +kernel) rfl ?_
  refine s_incz (p' := 26) (w := (nI 5)) (ls' := [_, _, _, _]) rfl rfl rfl (by decide +kernel) rfl rfl ?_
  refine s_goto (p' := 4) rfl rfl ?_
  refine s_ildn (p' := 5) rfl rfl rfl ?_
  refine s_bip (p' := 7) rfl rfl ?_
  refine s_icmp (p' := 10) false rfl (by decide +kernel) rfl ?_
  refine s_aldn (p' := 11) rfl rfl rfl ?_
  refine s_ildn (p' := 12) rfl rfl rfl ?_
  refine c_call (p' := 15) (kc := 97) (ls0 := [_, _, _, _]) rfl rfl rfl rfl rfl (mj_rcv_is H393) rfl rfl rfl ?_
  refine s_ildn (p' := 1) rfl rfl rfl ?_
  refine s_istn (p' := 2) (ls' := [_, _, _, _]) rfl rfl rfl rfl ?_
  refine s_con (p' := 3) rfl rfl ?_
  refine s_istn (p' := 4) (ls' := [_, _, _, _]) rfl rfl rfl rfl ?_
  refine s_ildn (p' := 5) rfl rfl rfl ?_
  refine s_aldn (p' := 6) rfl rfl rfl ?_
  refine s_gf (p' := 9) rfl H393 rfl rfl ?_
  refine s_icmp (p' := 38) true rfl (by decide +kernel) rfl ?_
  refine s_ildn (p' := 39) rfl rfl rfl ?_
  refine c_iret rfl rfl ?_
  refine s_istn (p' := 16) (ls' := [_, _, _, _]) rfl rfl rfl rfl ?_
  refine s_ildn (p' := 17) rfl rfl rfl ?_
  refine s_ildn (p' := 18) rfl rfl rfl ?_
  refine s_icmp (p' := 23) true rfl (by decide +kernel) rfl ?_
  refine s_incz (p' := 26) (w := (nI 6)) (ls' := [_, _, _, _]) rfl rfl rfl (by decide +kernel) rfl rfl ?_
  refine s_goto (p' := 4) rfl rfl ?_
  refine s_ildn (p' := 5) rfl rfl rfl ?_
  refine s_bip (p' := 7) rfl rfl ?_
  refine s_icmp (p' := 10) false rfl (by decide +kernel) rfl ?_
  refine s_aldn (p' := 11) rfl rfl rfl ?_
  refine s_ildn (p' := 12) rfl rfl rfl ?_
  refine c_call (p' := 15) (kc := 97) (ls0 := [_, _, _, _]) rfl rfl rfl rfl rfl (mj_rcv_is H393) rfl rfl rfl ?_
  refine s_ildn (p' := 1) rfl rfl rfl ?_
  refine s_istn (p' := 2) (ls' := [_, _, _, _]) rfl rfl rfl rfl ?_
  refine s_con (p' := 3) rfl rfl ?_
  refine s_istn (p' := 4) (ls' := [_, _, _, _]) rfl rfl rfl rfl ?_
  refine s_ildn (p' := 5) rfl rfl rfl ?_
  refine s_aldn (p' := 6) rfl rfl rfl ?_
  refine s_gf (p' := 9) rfl H393 rfl rfl ?_
  refine s_icmp (p' := 38) true rfl (by decide +kernel) rfl ?_
  refine s_ildn (p' := 39) rfl rfl rfl ?_
  refine c_iret rfl rfl ?_
  refine s_istn (p' := 16) (ls' := [_, _, _, _]) rfl rfl rfl rfl ?_
  refine s_ildn (p' := 17) rfl rfl rfl ?_
  refine s_ildn (p' := 18) rfl rfl rfl ?_
  refine s_icmp (p' := 23) true rfl (by decide +kernel) rfl ?_
  refine s_incz (p' := 26) (w := (nI 7)) (ls' := [_, _, _, _]) rfl rfl rfl (by decide +kernel) rfl rfl ?_
  refine s_goto (p' := 4) rfl rfl ?_
  refine s_ildn (p' := 5) rfl rfl rfl ?_
  refine s_bip (p' := 7) rfl rfl ?_
  refine s_icmp (p' := 10) false rfl (by decide +kernel) rfl ?_
  refine s_aldn (p' := 11) rfl rfl rfl ?_
  refine s_ildn (p' := 12) rfl rfl rfl ?_
  refine c_call (p' := 15) (kc := 97) (ls0 := [_, _, _, _]) rfl rfl rfl rfl rfl (mj_rcv_is H393) rfl rfl rfl ?_
  refine s_ildn (p' := 1) rfl rfl rfl ?_
  refine s_istn (p' := 2) (ls' := [_, _, _, _]) rfl rfl rfl rfl ?_
  refine s_con (p' := 3) rfl rfl ?_
  refine s_istn (p' := 4) (ls' := [_, _, _, _]) rfl rfl rfl rfl ?_
  refine s_ildn (p' := 5) rfl rfl rfl ?_
  refine s_aldn (p' := 6) rfl rfl rfl ?_
  refine s_gf (p' := 9) rfl H393 rfl rfl ?_
  refine s_icmp (p' := 38) true rfl (by decide +kernel) rfl ?_
  refine s_ildn (p' := 39) rfl rfl rfl ?_
  refine c_iret rfl rfl ?_
  refine s_istn (p' := 16) (ls' := [_, _, _, _]) rfl rfl rfl rfl ?_
  refine s_ildn (p' := 17) rfl rfl rfl ?_
  refine s_ildn (p' := 18) rfl rfl rfl ?_
  refine s_icmp (p' := 23) true rfl (by decide +kernel) rfl ?_
  refine s_incz (p' := 26) (w := (nI 8)) (ls' := [_, _, _, _]) rfl rfl rfl (by decide +kernel) rfl rfl ?_
  refine s_goto (p' := 4) rfl rfl ?_
  refine s_ildn (p' := 5) rfl rfl rfl ?_
  refine s_bip (p' := 7) rfl rfl ?_
  refine s_icmp (p' := 29) true rfl (by decide +kernel) rfl ?_
  refine s_con (p' := 30) rfl rfl ?_
  refine c_iret rfl (by decide +kernel) ?_
  refine s_if (p' := 21) false rfl (by decide +kernel) rfl ?_
  refine s_incz (p' := 24) (w := (nI 8)) (ls' := [_, _, _]) rfl rfl rfl (by decide +kernel) rfl rfl ?_
  refine s_incz (p' := 27) (w := (nI 8)) (ls' := [_, _, _]) rfl rfl rfl (by decide +kernel) rfl rfl ?_
  refine s_goto (p' := 4) rfl rfl ?_
  refine s_ildn (p' := 5) rfl rfl rfl ?_
  refine s_bip (p' := 7) rfl rfl ?_
  refine s_icmp (p' := 30) true rfl (by decide +kernel) rfl ?_
  refine s_ildn (p' := 31) rfl rfl rfl ?_
  refine k_iret rfl rfl ?_
  refine l_aldn (p' := 2167) rfl rfl rfl rfl ?_
  refine l_call (p' := 2170) (kc := 99) (ls0 := [_, _, _]) rfl rfl rfl rfl rfl rfl (mj_rcv_is H400) rfl rfl rfl ?_
  refine s_aldn (p' := 1) rfl rfl rfl ?_
  refine s_con (p' := 2) rfl rfl ?_
  refine s_pfz (p' := 5) (fs' := [_, _, _, _, _, _, _, _, _, _, _]) rfl rfl H400 rfl rfl rfl rfl ?_
  refine s_con (p' := 6) rfl rfl ?_
  refine s_istn (p' := 7) (ls' := [_, _, _]) rfl rfl rfl rfl ?_
  refine s_con (p' := 8) rfl rfl ?_
  refine s_istn (p' := 9) (ls' := [_, _, _]) rfl rfl rfl rfl ?_
  refine s_ildn (p' := 10) rfl rfl rfl ?_
  refine s_bip (p' := 12) rfl rfl ?_
  refine s_icmp (p' := 15) false rfl (by decide +kernel) rfl ?_
  refine s_ildn (p' := 16) rfl rfl rfl ?_
  refine s_aldn (p' := 17) rfl rfl rfl ?_
  refine s_ildn (p' := 18) rfl rfl rfl ?_
  refine c_call (p' := 21) (kc := 98) (ls0 := [_, _, _, _]) rfl rfl rfl rfl rfl (mj_rcv_is (rd_ss rfl H400)) rfl rfl rfl ?_
  refine s_aldn (p' := 1) rfl rfl rfl ?_
  refine s_ildn (p' := 2) rfl rfl rfl ?_
  refine c_call (p' := 5) (kc := 97) (ls0 := [_, _, _, _, _]) rfl rfl rfl rfl rfl (mj_rcv_is (rd_ss rfl H400)) rfl rfl rfl ?_
  refine s_ildn (p' := 1) rfl rfl rfl ?_
  refine s_istn (p' := 2) (ls' := [_, _, _, _, _]) rfl rfl rfl rfl ?_
  refine s_aldn (p' := 3) rfl rfl rfl ?_
  refine s_gf (p' := 6) rfl (rd_ss rfl H400) rfl rfl ?_
  refine c_call (p' := 11) (kc := 96) (ls0 := [_]) rfl rfl rfl rfl rfl (mj_rcv_is (rd_sn rfl H410)) rfl rfl rfl ?_
  refine s_newz (p' := 3) (a := 414) rfl (len_s HL) rfl rfl ?_
  refine s_dupr (p' := 4) rfl rfl ?_
  refine s_aldn (p' := 5) rfl rfl rfl ?_
  refine c_call (p' := 8) (kc := 95) (ls0 := [_, _]) rfl rfl rfl rfl rfl (mj_rcv_is (rd_nw rfl (len_s HL))) rfl rfl rfl ?_
  refine s_aldn (p' := 1) rfl rfl rfl ?_
  refine s_aldn (p' := 2) rfl rfl rfl ?_
  refine s_pfz (p' := 5) (fs' := [_, _, _, _]) rfl rfl (rd_nw rfl (len_s HL)) rfl rfl rfl rfl ?_
  refine s_aldn (p' := 6) rfl rfl rfl ?_
  refine s_primN (p' := 9) (q := 3) rfl rfl rfl rfl rfl rfl rfl rfl ?_
  refine s_aldn (p' := 10) rfl rfl rfl ?_
  refine s_con (p' := 11) rfl rfl ?_
  refine s_pfz (p' := 14) (fs' := [_, _, _, _]) rfl rfl (rd_ss rfl (rd_nw rfl (len_s HL))) rfl rfl rfl rfl ?_
  refine s_aldn (p' := 15) rfl rfl rfl ?_
  refine s_aldn (p' := 16) rfl rfl rfl ?_
  refine s_gf (p' := 19) rfl (rd_ss rfl (rd_ss rfl (rd_nw rfl (len_s HL)))) rfl rfl ?_
  refine s_gf (p' := 22) rfl (rd_sn rfl (rd_sn rfl (rd_app (rd_sn rfl H410)))) rfl rfl ?_
  refine s_pfz (p' := 25) (fs' := [_, _, _, _]) rfl rfl (rd_ss rfl (rd_ss rfl (rd_nw rfl (len_s HL)))) rfl rfl rfl rfl ?_
  refine c_ret rfl ?_
  refine c_aret rfl ?_
  refine s_astn (p' := 12) (ls' := [_, _, _, _, _]) rfl rfl rfl rfl ?_
  refine s_aldn (p' := 13) rfl rfl rfl ?_
  refine c_call (p' := 18) (kc := 96) (ls0 := [_]) rfl rfl rfl rfl rfl (mj_rcv_is (rd_ss rfl (rd_ss rfl (rd_ss rfl (rd_nw rfl (len_s HL)))))) rfl rfl rfl ?_
  refine s_aldn (p' := 1) rfl rfl rfl ?_
  refine s_gf (p' := 4) rfl (rd_ss rfl (rd_ss rfl (rd_ss rfl (rd_nw rfl (len_s HL))))) rfl rfl ?_
  refine s_aldn (p' := 5) rfl rfl rfl ?_
  refine s_gf (p' := 8) rfl (rd_ss rfl (rd_ss rfl (rd_ss rfl (rd_nw rfl (len_s HL))))) rfl rfl ?_
  refine s_gf (p' := 11) rfl (rd_sn rfl (rd_sn rfl (rd_sn rfl (rd_app (rd_sn rfl H410))))) rfl rfl ?_
  refine s_icmp (p' := 18) true rfl (by decide +kernel) rfl ?_
  refine s_con (p' := 19) rfl rfl ?_
  refine c_iret rfl (by decide +kernel) ?_
  refine s_if (p' := 45) true rfl (by decide +kernel) rfl ?_
  refine s_ildn (p' := 46) rfl rfl rfl ?_
  refine c_iret rfl rfl ?_
  refine s_istn (p' := 6) (ls' := [_, _, _, _]) rfl rfl rfl rfl ?_
  refine s_con (p' := 7) rfl rfl ?_
  refine s_istn (p' := 8) (ls' := [_, _, _, _]) rfl rfl rfl rfl ?_
  refine s_ildn (p' := 9) rfl rfl rfl ?_
  refine s_ildn (p' := 10) rfl rfl rfl ?_
  refine s_icmp (p' := 35) true rfl (by decide +kernel) rfl ?_
  refine s_ildn (p' := 36) rfl rfl rfl ?_
  refine c_iret rfl (by decide +kernel) ?_
  refine s_if (p' := 24) false rfl (by decide +kernel) rfl ?_
  refine s_con (p' := 25) rfl rfl ?_
  refine s_goto (p' := 29) rfl rfl ?_
  refine s_bz (p' := 30) (z := (nI 1)) rfl rfl rfl (by decide +kernel) ?_
  refine s_istn (p' := 31) (ls' := [_, _, _]) rfl rfl rfl rfl ?_
  refine s_incz (p' := 34) (w := (nI 1)) (ls' := [_, _, _]) rfl rfl rfl (by decide +kernel) rfl rfl ?_
  refine s_goto (p' := 9) rfl rfl ?_
  refine s_ildn (p' := 10) rfl rfl rfl ?_
  refine s_bip (p' := 12) rfl rfl ?_
  refine s_icmp (p' := 15) false rfl (by decide +kernel) rfl ?_
  refine s_ildn (p' := 16) rfl rfl rfl ?_
  refine s_aldn (p' := 17) rfl rfl rfl ?_
  refine s_ildn (p' := 18) rfl rfl rfl ?_
  refine c_call (p' := 21) (kc := 98) (ls0 := [_, _, _, _]) rfl rfl rfl rfl rfl (mj_rcv_is (rd_sn rfl (rd_sn rfl (rd_sn rfl (rd_app (rd_ss rfl H400)))))) rfl rfl rfl ?_
  refine s_aldn (p' := 1) rfl rfl rfl ?_
  refine s_ildn (p' := 2) rfl rfl rfl ?_
  refine c_call (p' := 5) (kc := 97) (ls0 := [_, _, _, _, _]) rfl rfl rfl rfl rfl (mj_rcv_is (rd_sn rfl (rd_sn rfl (rd_sn rfl (rd_app (rd_ss rfl H400)))))) rfl rfl rfl ?_
  refine s_ildn (p' := 1) rfl rfl rfl ?_
  refine s_istn (p' := 2) (ls' := [_, _, _, _, _]) rfl rfl rfl rfl ?_
  refine s_aldn (p' := 3) rfl rfl rfl ?_
  refine s_gf (p' := 6) rfl (rd_sn rfl (rd_sn rfl (rd_sn rfl (rd_app (rd_ss rfl H400))))) rfl rfl ?_
  refine c_call (p' := 11) (kc := 96) (ls0 := [_]) rfl rfl rfl rfl rfl (mj_rcv_is (rd_sn rfl (rd_sn rfl (rd_sn rfl (rd_app (rd_sn rfl H410)))))) rfl rfl rfl ?_
  refine s_newz (p' := 3) (a := 415) rfl (len_s (len_s (len_s (len_a (len_s HL) rfl)))) rfl rfl ?_
  refine s_dupr (p' := 4) rfl rfl ?_
  refine s_aldn (p' := 5) rfl rfl rfl ?_
  refine c_call (p' := 8) (kc := 95) (ls0 := [_, _]) rfl rfl rfl rfl rfl (mj_rcv_is (rd_nw rfl (len_s (len_s (len_s (len_a (len_s HL) rfl)))))) rfl rfl rfl ?_
  refine s_aldn (p' := 1) rfl rfl rfl ?_
  refine s_aldn (p' := 2) rfl rfl rfl ?_
  refine s_pfz (p' := 5) (fs' := [_, _, _, _]) rfl rfl (rd_nw rfl (len_s (len_s (len_s (len_a (len_s HL) rfl))))) rfl rfl rfl rfl ?_
  refine s_aldn (p' := 6) rfl rfl rfl ?_
  refine s_primN (p' := 9) (q := 3) rfl rfl rfl rfl rfl rfl rfl rfl ?_
  refine s_aldn (p' := 10) rfl rfl rfl ?_
  refine s_con (p' := 11) rfl rfl ?_
  refine s_pfz (p' := 14) (fs' := [_, _, _, _]) rfl rfl (rd_ss rfl (rd_nw rfl (len_s (len_s (len_s (len_a (len_s HL) rfl)))))) rfl rfl rfl rfl ?_
  refine s_aldn (p' := 15) rfl rfl rfl ?_
  refine s_aldn (p' := 16) rfl rfl rfl ?_
  refine s_gf (p' := 19) rfl (rd_ss rfl (rd_ss rfl (rd_nw rfl (len_s (len_s (len_s (len_a (len_s HL) rfl))))))) rfl rfl ?_
  refine s_gf (p' := 22) rfl (rd_sn rfl (rd_sn rfl (rd_app (rd_sn rfl (rd_sn rfl (rd_sn rfl (rd_app (rd_sn rfl H410)))))))) rfl rfl ?_
  refine s_pfz (p' := 25) (fs' := [_, _, _, _]) rfl rfl (rd_ss rfl (rd_ss rfl (rd_nw rfl (len_s (len_s (len_s (len_a (len_s HL) rfl))))))) rfl rfl rfl rfl ?_
  refine c_ret rfl ?_
  refine c_aret rfl ?_
  refine s_astn (p' := 12) (ls' := [_, _, _, _, _]) rfl rfl rfl rfl ?_
  refine s_aldn (p' := 13) rfl rfl rfl ?_
  refine c_call (p' := 18) (kc := 96) (ls0 := [_]) rfl rfl rfl rfl rfl (mj_rcv_is (rd_ss rfl (rd_ss rfl (rd_ss rfl (rd_nw rfl (len_s (len_s (len_s (len_a (len_s HL) rfl))))))))) rfl rfl rfl ?_
  refine s_aldn (p' := 1) rfl rfl rfl ?_
  refine s_gf (p' := 4) rfl (rd_ss rfl (rd_ss rfl (rd_ss rfl (rd_nw rfl (len_s (len_s (len_s (len_a (len_s HL) rfl)))))))) rfl rfl ?_
  refine s_aldn (p' := 5) rfl rfl rfl ?_
  refine s_gf (p' := 8) rfl (rd_ss rfl (rd_ss rfl (rd_ss rfl (rd_nw rfl (len_s (len_s (len_s (len_a (len_s HL) rfl)))))))) rfl rfl ?_
  refine s_gf (p' := 11) rfl (rd_sn rfl (rd_sn rfl (rd_sn rfl (rd_app (rd_sn rfl (rd_sn rfl (rd_sn rfl (rd_app (rd_sn rfl H410))))))))) rfl rfl ?_
  refine s_icmp (p' := 18) true rfl (by decide +kernel) rfl ?_
  refine s_con (p' := 19) rfl rfl ?_
  refine c_iret rfl (by decide +kernel) ?_
  refine s_if (p' := 45) true rfl (by decide +kernel) rfl ?_
  refine s_ildn (p' := 46) rfl rfl rfl ?_
  refine c_iret rfl rfl ?_
  refine s_istn (p' := 6) (ls' := [_, _, _, _]) rfl rfl rfl rfl ?_
  refine s_con (p' := 7) rfl rfl ?_
  refine s_istn (p' := 8) (ls' := [_, _, _, _]) rfl rfl rfl rfl ?_
  refine s_ildn (p' := 9) rfl rfl rfl ?_
  refine s_ildn (p' := 10) rfl rfl rfl ?_
  refine s_icmp (p' := 35) true rfl (by decide +kernel) rfl ?_
  refine s_ildn (p' := 36) rfl rfl rfl ?_
  refine c_iret rfl (by decide +kernel) ?_
  refine s_if (p' := 24) false rfl (by decide +kernel) rfl ?_
  refine s_con (p' := 25) rfl rfl ?_
  refine s_goto (p' := 29) rfl rfl ?_
  refine s_bz (p' := 30) (z := (nI 2)) rfl rfl rfl (by decide +kernel) ?_
  refine s_istn (p' := 31) (ls' := [_, _, _]) rfl rfl rfl rfl ?_
  refine s_incz (p' := 34) (w := (nI 2)) (ls' := [_, _, _]) rfl rfl rfl (by decide +kernel) rfl rfl ?_
  refine s_goto (p' := 9) rfl rfl ?_
  refine s_ildn (p' := 10) rfl rfl rfl ?_
  refine s_bip (p' := 12) rfl rfl ?_
  refine s_icmp (p' := 15) false rfl (by decide +kernel) rfl ?_
  refine s_ildn (p' := 16) rfl rfl rfl ?_
  refine s_aldn (p' := 17) rfl rfl rfl ?_
  refine s_ildn (p' := 18) rfl rfl rfl ?_
  refine c_call (p' := 21) (kc := 98) (ls0 := [_, _, _, _]) rfl rfl rfl rfl rfl (mj_rcv_is (rd_sn rfl (rd_sn rfl (rd_sn rfl (rd_app (rd_sn rfl (rd_sn rfl (rd_sn rfl (rd_app (rd_ss rfl H400)))))))))) rfl rfl rfl ?_
  refine s_aldn (p' := 1) rfl rfl rfl ?_
  refine s_ildn (p' := 2) rfl rfl rfl ?_
  refine c_call (p' := 5) (kc := 97) (ls0 := [_, _, _, _, _]) rfl rfl rfl rfl rfl (mj_rcv_is (rd_sn rfl (rd_sn rfl (rd_sn rfl (rd_app (rd_sn rfl (rd_sn rfl (rd_sn rfl (rd_app (rd_ss rfl H400)))))))))) rfl rfl rfl ?_
  refine s_ildn (p' := 1) rfl rfl rfl ?_
  refine s_istn (p' := 2) (ls' := [_, _, _, _, _]) rfl rfl rfl rfl ?_
  refine s_aldn (p' := 3) rfl rfl rfl ?_
  refine s_gf (p' := 6) rfl (rd_sn rfl (rd_sn rfl (rd_sn rfl (rd_app (rd_sn rfl (rd_sn rfl (rd_sn rfl (rd_app (rd_ss rfl H400))))))))) rfl rfl ?_
  refine c_call (p' := 11) (kc := 96) (ls0 := [_]) rfl rfl rfl rfl rfl (mj_rcv_is (rd_sn rfl (rd_sn rfl (rd_sn rfl (rd_app (rd_sn rfl (rd_sn rfl (rd_sn rfl (rd_app (rd_sn rfl H410)))))))))) rfl rfl rfl ?_
  refine s_newz (p' := 3) (a := 416) rfl (len_s (len_s (len_s (len_a (len_s (len_s (len_s (len_a (len_s HL) rfl)))) rfl)))) rfl rfl ?_
  refine s_dupr (p' := 4) rfl rfl ?_
  refine s_aldn (p' := 5) rfl rfl rfl ?_
  refine c_call (p' := 8) (kc := 95) (ls0 := [_, _]) rfl rfl rfl rfl rfl (mj_rcv_is (rd_nw rfl (len_s (len_s (len_s (len_a (len_s (len_s (len_s (len_a (len_s HL) rfl)))) rfl)))))) rfl rfl rfl ?_
  refine s_aldn (p' := 1) rfl rfl rfl ?_
  refine s_aldn (p' := 2) rfl rfl rfl ?_
  refine s_pfz (p' := 5) (fs' := [_, _, _, _]) rfl rfl (rd_nw rfl (len_s (len_s (len_s (len_a (len_s (len_s (len_s (len_a (len_s HL) rfl)))) rfl))))) rfl rfl rfl rfl ?_
  refine s_aldn (p' := 6) rfl rfl rfl ?_
  refine s_primN (p' := 9) (q := 3) rfl rfl rfl rfl rfl rfl rfl rfl ?_
  refine s_aldn (p' := 10) rfl rfl rfl ?_
  refine s_con (p' := 11) rfl rfl ?_
  refine s_pfz (p' := 14) (fs' := [_, _, _, _]) rfl rfl (rd_ss rfl (rd_nw rfl (len_s (len_s (len_s (len_a (len_s (len_s (len_s (len_a (len_s HL) rfl)))) rfl)))))) rfl rfl rfl rfl ?_
  refine s_aldn (p' := 15) rfl rfl rfl ?_
  refine s_aldn (p' := 16) rfl rfl rfl ?_
  refine s_gf (p' := 19) rfl (rd_ss rfl (rd_ss rfl (rd_nw rfl (len_s (len_s (len_s (len_a (len_s (len_s (len_s (len_a (len_s HL) rfl)))) rfl))))))) rfl rfl ?_
  refine s_gf (p' := 22) rfl (rd_sn rfl (rd_sn rfl (rd_app (rd_sn rfl (rd_sn rfl (rd_sn rfl (rd_app (rd_sn rfl (rd_sn rfl (rd_sn rfl (rd_app (rd_sn rfl H410)))))))))))) rfl rfl ?_
  refine s_pfz (p' := 25) (fs' := [_, _, _, _]) rfl rfl (rd_ss rfl (rd_ss rfl (rd_nw rfl (len_s (len_s (len_s (len_a (len_s (len_s (len_s (len_a (len_s HL) rfl)))) rfl))))))) rfl rfl rfl rfl ?_
  refine c_ret rfl ?_
  refine c_aret rfl ?_
  refine s_astn (p' := 12) (ls' := [_, _, _, _, _]) rfl rfl rfl rfl ?_
  refine s_aldn (p' := 13) rfl rfl rfl ?_
  refine c_call (p' := 18) (kc := 96) (ls0 := [_]) rfl rfl rfl rfl rfl (mj_rcv_is (rd_ss rfl (rd_ss rfl (rd_ss rfl (rd_nw rfl (len_s (len_s (len_s (len_a (len_s (len_s (len_s (len_a (len_s HL) rfl)))) rfl))))))))) rfl rfl rfl ?_
  refine s_aldn (p' := 1) rfl rfl rfl ?_
  refine s_gf (p' := 4) rfl (rd_ss rfl (rd_ss rfl (rd_ss rfl (rd_nw rfl (len_s (len_s (len_s (len_a (len_s (len_s (len_s (len_a (len_s HL) rfl)))) rfl)))))))) rfl rfl ?_
  refine s_aldn (p' := 5) rfl rfl rfl ?_
  refine s_gf (p' := 8) rfl (rd_ss rfl (rd_ss rfl (rd_ss rfl (rd_nw rfl (len_s (len_s (len_s (len_a (len_s (len_s (len_s (len_a (len_s HL) rfl)))) rfl)))))))) rfl rfl ?_
  refine s_gf (p' := 11) rfl (rd_sn rfl (rd_sn rfl (rd_sn rfl (rd_app (rd_sn rfl (rd_sn rfl (rd_sn rfl (rd_app (rd_sn rfl (rd_sn rfl (rd_sn rfl (rd_app (rd_sn rfl H410))))))))))))) rfl rfl ?_
  refine s_icmp (p' := 18) true rfl (by decide +kernel) rfl ?_
  refine s_con (p' := 19) rfl rfl ?_
  refine c_iret rfl (by decide +kernel) ?_
  refine s_if (p' := 45) true rfl (by decide +kernel) rfl ?_
  refine s_ildn (p' := 46) rfl rfl rfl ?_
  refine c_iret rfl rfl ?_
  refine s_istn (p' := 6) (ls' := [_, _, _, _]) rfl rfl rfl rfl ?_
  refine s_con (p' := 7) rfl rfl ?_
  refine s_istn (p' := 8) (ls' := [_, _, _, _]) rfl rfl rfl rfl ?_
  refine s_ildn (p' := 9) rfl rfl rfl ?_
  refine s_ildn (p' := 10) rfl rfl rfl ?_
  refine s_icmp (p' := 35) true rfl (by decide +kernel) rfl ?_
  refine s_ildn (p' := 36) rfl rfl rfl ?_
  refine c_iret rfl (by decide +kernel) ?_
  refine s_if (p' := 24) false rfl (by decide +kernel) rfl ?_
  refine s_con (p' := 25) rfl rfl ?_
  refine s_goto (p' := 29) rfl rfl ?_
  refine s_bz (p' := 30) (z := (nI 3)) rfl rfl rfl (by decide +kernel) ?_
  refine s_istn (p' := 31) (ls' := [_, _, _]) rfl rfl rfl rfl ?_
  refine s_incz (p' := 34) (w := (nI 3)) (ls' := [_, _, _]) rfl rfl rfl (by decide +kernel) rfl rfl ?_
  refine s_goto (p' := 9) rfl rfl ?_
  refine s_ildn (p' := 10) rfl rfl rfl ?_
  refine s_bip (p' := 12) rfl rfl ?_
  refine s_icmp (p' := 15) false rfl (by decide +kernel) rfl ?_
  refine s_ildn (p' := 16) rfl rfl rfl ?_
  refine s_aldn (p' := 17) rfl rfl rfl ?_
  refine s_ildn (p' := 18) rfl rfl rfl ?_
  refine c_call (p' := 21) (kc := 98) (ls0 := [_, _, _, _]) rfl rfl rfl rfl rfl (mj_rcv_is (rd_sn rfl (rd_sn rfl (rd_sn rfl (rd_app (rd_sn rfl (rd_sn rfl (rd_sn rfl (rd_app (rd_sn rfl (rd_sn rfl (rd_sn rfl (rd_app (rd_ss rfl H400)))))))))))))) rfl rfl rfl ?_
  refine s_aldn (p' := 1) rfl rfl rfl ?_
  refine s_ildn (p' := 2) rfl rfl rfl ?_
  refine c_call (p' := 5) (kc := 97) (ls0 := [_, _, _, _, _]) rfl rfl rfl rfl rfl (mj_rcv_is (rd_sn rfl (rd_sn rfl (rd_sn rfl (rd_app (rd_sn rfl (rd_sn rfl (rd_sn rfl (rd_app (rd_sn rfl (rd_sn rfl (rd_sn rfl (rd_app (rd_ss rfl H400)))))))))))))) rfl rfl rfl ?_
  refine s_ildn (p' := 1) rfl rfl rfl ?_
  refine s_istn (p' := 2) (ls' := [_, _, _, _, _]) rfl rfl rfl rfl ?_
  refine s_aldn (p' := 3) rfl rfl rfl ?_
  refine s_gf (p' := 6) rfl (rd_sn rfl (rd_sn rfl (rd_sn rfl (rd_app (rd_sn rfl (rd_sn rfl (rd_sn rfl (rd_app (rd_sn rfl (rd_sn rfl (rd_sn rfl (rd_app (rd_ss rfl H400))))))))))))) rfl rfl ?_
  refine c_call (p' := 11) (kc := 96) (ls0 := [_]) rfl rfl rfl rfl rfl (mj_rcv_is (rd_sn rfl (rd_sn rfl (rd_sn rfl (rd_app (rd_sn rfl (rd_sn rfl (rd_sn rfl (rd_app (rd_sn rfl (rd_sn rfl (rd_sn rfl (rd_app (rd_sn rfl H410)))))))))))))) rfl rfl rfl ?_
  refine s_newz (p' := 3) (a := 417) rfl (len_s (len_s (len_s (len_a (len_s (len_s (len_s (len_a (len_s (len_s (len_s (len_a (len_s HL) rfl)))) rfl)))) rfl)))) rfl rfl ?_
  refine s_dupr (p' := 4) rfl rfl ?_
  refine s_aldn (p' := 5) rfl rfl rfl ?_
  refine c_call (p' := 8) (kc := 95) (ls0 := [_, _]) rfl rfl rfl rfl rfl (mj_rcv_is (rd_nw rfl (len_s (len_s (len_s (len_a (len_s (len_s (len_s (len_a (len_s (len_s (len_s (len_a (len_s HL) rfl)))) rfl)))) rfl)))))) rfl rfl rfl ?_
  refine s_aldn (p' := 1) rfl rfl rfl ?_
  refine s_aldn (p' := 2) rfl rfl rfl ?_
  refine s_pfz (p' := 5) (fs' := [_, _, _, _]) rfl rfl (rd_nw rfl (len_s (len_s (len_s (len_a (len_s (len_s (len_s (len_a (len_s (len_s (len_s (len_a (len_s HL) rfl)))) rfl)))) rfl))))) rfl rfl rfl rfl ?_
  refine s_aldn (p' := 6) rfl rfl rfl ?_
  refine s_primN (p' := 9) (q := 3) rfl rfl rfl rfl rfl rfl rfl rfl ?_
  refine s_aldn (p' := 10) rfl rfl rfl ?_
  refine s_con (p' := 11) rfl rfl ?_
  refine s_pfz (p' := 14) (fs' := [_, _, _, _]) rfl rfl (rd_ss rfl (rd_nw rfl (len_s (len_s (len_s (len_a (len_s (len_s (len_s (len_a (len_s (len_s (len_s (len_a (len_s HL) rfl)))) rfl)))) rfl)))))) rfl rfl rfl rfl ?_
  refine s_aldn (p' := 15) rfl rfl rfl ?_
  refine s_aldn (p' := 16) rfl rfl rfl ?_
  refine s_gf (p' := 19) rfl (rd_ss rfl (rd_ss rfl (rd_nw rfl (len_s (len_s (len_s (len_a (len_s (len_s (len_s (len_a (len_s (len_s (len_s (len_a (len_s HL) rfl)))) rfl)))) rfl))))))) rfl rfl ?_
  refine s_gf (p' := 22) rfl (rd_sn rfl (rd_sn rfl (rd_app (rd_sn rfl (rd_sn rfl (rd_sn rfl (rd_app (rd_sn rfl (rd_sn rfl (rd_sn rfl (rd_app (rd_sn rfl (rd_sn rfl (rd_sn rfl (rd_app (rd_sn rfl H410)))))))))))))))) rfl rfl ?_
  refine s_pfz (p' := 25) (fs' := [_, _, _, _]) rfl rfl (rd_ss rfl (rd_ss rfl (rd_nw rfl (len_s (len_s (len_s (len_a (len_s (len_s (len_s (len_a (len_s (len_s (len_s (len_a (len_s HL) rfl)))) rfl)))) rfl))))))) rfl rfl rfl rfl ?_
  refine c_ret rfl ?_
  refine c_aret rfl ?_
  refine s_astn (p' := 12) (ls' := [_, _, _, _, _]) rfl rfl rfl rfl ?_
  refine s_aldn (p' := 13) rfl rfl rfl ?_
  refine c_call (p' := 18) (kc := 96) (ls0 := [_]) rfl rfl rfl rfl rfl (mj_rcv_is (rd_ss rfl (rd_ss rfl (rd_ss rfl (rd_nw rfl (len_s (len_s (len_s (len_a (len_s (len_s (len_s (len_a (len_s (len_s (len_s (len_a (len_s HL) rfl)))) rfl)))) rfl))))))))) rfl rfl rfl ?_
  refine s_aldn (p' := 1) rfl rfl rfl ?_
  refine s_gf (p' := 4) rfl (rd_ss rfl (rd_ss rfl (rd_ss rfl (rd_nw rfl (len_s (len_s (len_s (len_a (len_s (len_s (len_s (len_a (len_s (len_s (len_s (len_a (len_s HL) rfl)))) rfl)))) rfl)))))))) rfl rfl ?_
  refine s_aldn (p' := 5) rfl rfl rfl ?_
  refine s_gf (p' := 8) rfl (rd_ss rfl (rd_ss rfl (rd_ss rfl (rd_nw rfl (len_s (len_s (len_s (len_a (len_s (len_s (len_s (len_a (len_s (len_s (len_s (len_a (len_s HL) rfl)))) rfl)))) rfl)))))))) rfl rfl ?_
  refine s_gf (p' := 11) rfl (rd_sn rfl (rd_sn rfl (rd_sn rfl (rd_app (rd_sn rfl (rd_sn rfl (rd_sn rfl (rd_app (rd_sn rfl (rd_sn rfl (rd_sn rfl (rd_app (rd_sn rfl (rd_sn rfl (rd_sn rfl (rd_app (rd_sn rfl H410))))))))))))))))) rfl rfl ?_
  refine s_icmp (p' := 18) true rfl (by decide +kernel) rfl ?_
  refine s_con (p' := 19) rfl rfl ?_
  refine c_iret rfl (by decide +kernel) ?_
  refine s_if (p' := 45) true rfl (by decide +kernel) rfl ?_
  refine s_ildn (p' := 46) rfl rfl rfl ?_
  refine c_iret rfl rfl ?_
  refine s_istn (p' := 6) (ls' := [_, _, _, _]) rfl rfl rfl rfl ?_
  refine s_con (p' := 7) rfl rfl ?_
  refine s_istn (p' := 8) (ls' := [_, _, _, _]) rfl rfl rfl rfl ?_
  refine s_ildn (p' := 9) rfl rfl rfl ?_
  refine s_ildn (p' := 10) rfl rfl rfl ?_
  refine s_icmp (p' := 35) true rfl (by decide +kernel) rfl ?_
  refine s_ildn (p' := 36) rfl rfl rfl ?_
  refine c_iret rfl (by decide +kernel) ?_
  refine s_if (p' := 24) false rfl (by decide +kernel) rfl ?_
  refine s_con (p' := 25) rfl rfl ?_
  refine s_goto (p' := 29) rfl rfl ?_
  refine s_bz (p' := 30) (z := (nI 4)) rfl rfl rfl (by decide +kernel) ?_
  refine s_istn (p' := 31) (ls' := [_, _, _]) rfl rfl rfl rfl ?_
  refine s_incz (p' := 34) (w := (nI 4)) (ls' := [_, _, _]) rfl rfl rfl (by decide +kernel) rfl rfl ?_
  refine s_goto (p' := 9) rfl rfl ?_
  refine s_ildn (p' := 10) rfl rfl rfl ?_
  refine s_bip (p' := 12) rfl rfl ?_
  refine s_icmp (p' := 15) false rfl (by decide +kernel) rfl ?_
  refine s_ildn (p' := 16) rfl rfl rfl ?_
  refine s_aldn (p' := 17) rfl rfl rfl ?_
  refine s_ildn (p' := 18) rfl rfl rfl ?_
  refine c_call (p' := 21) (kc := 98) (ls0 := [_, _, _, _]) rfl rfl rfl rfl rfl (mj_rcv_is (rd_sn rfl (rd_sn rfl (rd_sn rfl (rd_app (rd_sn rfl (rd_sn rfl (rd_sn rfl (rd_app (rd_sn rfl (rd_sn rfl (rd_sn rfl (rd_app (rd_sn rfl (rd_sn rfl (rd_sn rfl (rd_app (rd_ss rfl H400)))))))))))))))))) rfl rfl rfl ?_
  refine s_aldn (p' := 1) rfl rfl rfl ?_
  refine s_ildn (p' := 2) rfl rfl rfl ?_
  refine c_call (p' := 5) (kc := 97) (ls0 := [_, _, _, _, _]) rfl rfl rfl rfl rfl (mj_rcv_is (rd_sn rfl (rd_sn rfl (rd_sn rfl (rd_app (rd_sn rfl (rd_sn rfl (rd_sn rfl (rd_app (rd_sn rfl (rd_sn rfl (rd_sn rfl (rd_app (rd_sn rfl (rd_sn rfl (rd_sn rfl (rd_app (rd_ss rfl H400)))))))))))))))))) rfl rfl rfl ?_
  refine s_ildn (p' := 1) rfl rfl rfl ?_
  refine s_istn (p' := 2) (ls' := [_, _, _, _, _]) rfl rfl rfl rfl ?_
  refine s_aldn (p' := 3) rfl rfl rfl ?_
  refine s_gf (p' := 6) rfl (rd_sn rfl (rd_sn rfl (rd_sn rfl (rd_app (rd_sn rfl (rd_sn rfl (rd_sn rfl (rd_app (rd_sn rfl (rd_sn rfl (rd_sn rfl (rd_app (rd_sn rfl (rd_sn rfl (rd_sn rfl (rd_app (rd_ss rfl H400))))))))))))))))) rfl rfl ?_
  refine c_call (p' := 11) (kc := 96) (ls0 := [_]) rfl rfl rfl rfl rfl (mj_rcv_is (rd_sn rfl (rd_sn rfl (rd_sn rfl (rd_app (rd_sn rfl (rd_sn rfl (rd_sn rfl (rd_app (rd_sn rfl (rd_sn rfl (rd_sn rfl (rd_app (rd_sn rfl (rd_sn rfl (rd_sn rfl (rd_app (rd_sn rfl H410)))))))))))))))))) rfl rfl rfl ?_
  refine s_newz (p' := 3) (a := 418) rfl (len_s (len_s (len_s (len_a (len_s (len_s (len_s (len_a (len_s (len_s (len_s (len_a (len_s (len_s (len_s (len_a (len_s HL) rfl)))) rfl)))) rfl)))) rfl)))) rfl rfl ?_
  refine s_dupr (p' := 4) rfl rfl ?_
  refine s_aldn (p' := 5) rfl rfl rfl ?_
  refine c_call (p' := 8) (kc := 95) (ls0 := [_, _]) rfl rfl rfl rfl rfl (mj_rcv_is (rd_nw rfl (len_s (len_s (len_s (len_a (len_s (len_s (len_s (len_a (len_s (len_s (len_s (len_a (len_s (len_s (len_s (len_a (len_s HL) rfl)))) rfl)))) rfl)))) rfl)))))) rfl rfl rfl ?_
  refine s_aldn (p' := 1) rfl rfl rfl ?_
  refine s_aldn (p' := 2) rfl rfl rfl ?_
  refine s_pfz (p' := 5) (fs' := [_, _, _, _]) rfl rfl (rd_nw rfl (len_s (len_s (len_s (len_a (len_s (len_s (len_s (len_a (len_s (len_s (len_s (len_a (len_s (len_s (len_s (len_a (len_s HL) rfl)))) rfl)))) rfl)))) rfl))))) rfl rfl rfl rfl ?_
  refine s_aldn (p' := 6) rfl rfl rfl ?_
  refine s_primN (p' := 9) (q := 3) rfl rfl rfl rfl rfl rfl rfl rfl ?_
  refine s_aldn (p' := 10) rfl rfl rfl ?_
  refine s_con (p' := 11) rfl rfl ?_
  refine s_pfz (p' := 14) (fs' := [_, _, _, _]) rfl rfl (rd_ss rfl (rd_nw rfl (len_s (len_s (len_s (len_a (len_s (len_s (len_s (len_a (len_s (len_s (len_s (len_a (len_s (len_s (len_s (len_a (len_s HL) rfl)))) rfl)))) rfl)))) rfl)))))) rfl rfl rfl rfl ?_
  refine s_aldn (p' := 15) rfl rfl rfl ?_
  refine s_aldn (p' := 16) rfl rfl rfl ?_
  refine s_gf (p' := 19) rfl (rd_ss rfl (rd_ss rfl (rd_nw rfl (len_s (len_s (len_s (len_a (len_s (len_s (len_s (len_a (len_s (len_s (len_s (len_a (len_s (len_s (len_s (len_a (len_s HL) rfl)))) rfl)))) rfl)))) rfl))))))) rfl rfl ?_
  refine s_gf (p' := 22) rfl (rd_sn rfl (rd_sn rfl (rd_app (rd_sn rfl (rd_sn rfl (rd_sn rfl (rd_app (rd_sn rfl (rd_sn rfl (rd_sn rfl (rd_app (rd_sn rfl (rd_sn rfl (rd_sn rfl (rd_app (rd_sn rfl (rd_sn rfl (rd_sn rfl (rd_app (rd_sn rfl H410)))))))))))))))))))) rfl rfl ?_
  refine s_pfz (p' := 25) (fs' := [_, _, _, _]) rfl rfl (rd_ss rfl (rd_ss rfl (rd_nw rfl (len_s (len_s (len_s (len_a (len_s (len_s (len_s (len_a (len_s (len_s (len_s (len_a (len_s (len_s (len_s (len_a (len_s HL) rfl)))) rfl)))) rfl)))) rfl))))))) rfl rfl rfl rfl ?_
  refine c_ret rfl ?_
  refine c_aret rfl ?_
  refine s_astn (p' := 12) (ls' := [_, _, _, _, _]) rfl rfl rfl rfl ?_
  refine s_aldn (p' := 13) rfl rfl rfl ?_
  refine c_call (p' := 18) (kc := 96) (ls0 := [_]) rfl rfl rfl rfl rfl (mj_rcv_is (rd_ss rfl (rd_ss rfl (rd_ss rfl (rd_nw rfl (len_s (len_s (len_s (len_a (len_s (len_s (len_s (len_a (len_s (len_s (len_s (len_a (len_s (len_s (len_s (len_a (len_s HL) rfl)))) rfl)))) rfl)))) rfl))))))))) rfl rfl rfl ?_
  refine s_aldn (p' := 1) rfl rfl rfl ?_
  refine s_gf (p' := 4) rfl (rd_ss rfl (rd_ss rfl (rd_ss rfl (rd_nw rfl (len_s (len_s (len_s (len_a (len_s (len_s (len_s (len_a (len_s (len_s (len_s (len_a (len_s (len_s (len_s (len_a (len_s HL) rfl)))) rfl)))) rfl)))) rfl)))))))) rfl rfl ?_
  refine s_aldn (p' := 5) rfl rfl rfl ?_
  refine s_gf (p' := 8) rfl (rd_ss rfl (rd_ss rfl (rd_ss rfl (rd_nw rfl (len_s (len_s (len_s (len_a (len_s (len_s (len_s (len_a (len_s (len_s (len_s (len_a (len_s (len_s (len_s (len_a (len_s HL) rfl)))) rfl)))) rfl)))) rfl)))))))) rfl rfl ?_
  refine s_gf (p' := 11) rfl (rd_sn rfl (rd_sn rfl (rd_sn rfl (rd_app (rd_sn rfl (rd_sn rfl (rd_sn rfl (rd_app (rd_sn rfl (rd_sn rfl (rd_sn rfl (rd_app (rd_sn rfl (rd_sn rfl (rd_sn rfl (rd_app (rd_sn rfl (rd_sn rfl (rd_sn rfl (rd_app (rd_sn rfl H410))))))))))))))))))))) rfl rfl ?_
  refine s_icmp (p' := 18) true rfl (by decide +kernel) rfl ?_
  refine s_con (p' := 19) rfl rfl ?_
  refine c_iret rfl (by decide +kernel) ?_
  refine s_if (p' := 45) true rfl (by decide +kernel) rfl ?_
  refine s_ildn (p' := 46) rfl rfl rfl ?_
  refine c_iret rfl rfl ?_
  refine s_istn (p' := 6) (ls' := [_, _, _, _]) rfl rfl rfl rfl ?_
  refine s_con (p' := 7) rfl rfl ?_
  refine s_istn (p' := 8) (ls' := [_, _, _, _]) rfl rfl rfl rfl ?_
  refine s_ildn (p' := 9) rfl rfl rfl ?_
  refine s_ildn (p' := 10) rfl rfl rfl ?_
  refine s_icmp (p' := 35) true rfl (by decide +kernel) rfl ?_
  refine s_ildn (p' := 36) rfl rfl rfl ?_
  refine c_iret rfl (by decide +kernel) ?_
  refine s_if (p' := 24) false rfl (by decide +kernel) rfl ?_
  refine s_con (p' := 25) rfl rfl ?_
  refine s_goto (p' := 29) rfl rfl ?_
  refine s_bz (p' := 30) (z := (nI 5)) rfl rfl rfl (by decide +kernel) ?_
  refine s_istn (p' := 31) (ls' := [_, _, _]) rfl rfl rfl rfl ?_
  refine s_incz (p' := 34) (w := (nI 5)) (ls' := [_, _, _]) rfl rfl rfl (by decide +kernel) rfl rfl ?_
  refine s_goto (p' := 9) rfl rfl ?_
  refine s_ildn (p' := 10) rfl rfl rfl ?_
  refine s_bip (p' := 12) rfl rfl ?_
  refine s_icmp (p' := 15) false rfl (by decide +kernel) rfl ?_
  refine s_ildn (p' := 16) rfl rfl rfl ?_
  refine s_aldn (p' := 17) rfl rfl rfl ?_
  refine s_ildn (p' := 18) rfl rfl rfl ?_
  refine c_call (p' := 21) (kc := 98) (ls0 := [_, _, _, _]) rfl rfl rfl rfl rfl (mj_rcv_is (rd_sn rfl (rd_sn rfl (rd_sn rfl (rd_app (rd_sn rfl (rd_sn rfl (rd_sn rfl (rd_app (rd_sn rfl (rd_sn rfl (rd_sn rfl (rd_app (rd_sn rfl (rd_sn rfl (rd_sn rfl (rd_app (rd_sn rfl (rd_sn rfl (rd_sn rfl (rd_app (rd_ss rfl H400)))))))))))))))))))))) rfl rfl rfl ?_
  refine s_aldn (p' := 1) rfl rfl rfl ?_
  refine s_ildn (p' := 2) rfl rfl rfl ?_
  refine c_call (p' := 5) (kc := 97) (ls0 := [_, _, _, _, _]) rfl rfl rfl rfl rfl (mj_rcv_is (rd_sn rfl (rd_sn rfl (rd_sn rfl (rd_app (rd_sn rfl (rd_sn rfl (rd_sn rfl (rd_app (rd_sn rfl (rd_sn rfl (rd_sn rfl (rd_app (rd_sn rfl (rd_sn rfl (rd_sn rfl (rd_app (rd_sn rfl (rd_sn rfl (rd_sn rfl (rd_app (rd_ss rfl H400)))))))))))))))))))))) rfl rfl rfl ?_
  refine s_ildn (p' := 1) rfl rfl rfl ?_
  refine s_istn (p' := 2) (ls' := [_, _, _, _, _]) rfl rfl rfl rfl ?_
  refine s_aldn (p' := 3) rfl rfl rfl ?_
  refine s_gf (p' := 6) rfl (rd_sn rfl (rd_sn rfl (rd_sn rfl (rd_app (rd_sn rfl (rd_sn rfl (rd_sn rfl (rd_app (rd_sn rfl (rd_sn rfl (rd_sn rfl (rd_app (rd_sn rfl (rd_sn rfl (rd_sn rfl (rd_app (rd_sn rfl (rd_sn rfl (rd_sn rfl (rd_app (rd_ss rfl H400))))))))))))))))))))) rfl rfl ?_
  refine c_call (p' := 11) (kc := 96) (ls0 := [_]) rfl rfl rfl rfl rfl (mj_rcv_is (rd_sn rfl (rd_sn rfl (rd_sn rfl (rd_app (rd_sn rfl (rd_sn rfl (rd_sn rfl (rd_app (rd_sn rfl (rd_sn rfl (rd_sn rfl (rd_app (rd_sn rfl (rd_sn rfl (rd_sn rfl (rd_app (rd_sn rfl (rd_sn rfl (rd_sn rfl (rd_app (rd_sn rfl H410)))))))))))))))))))))) rfl rfl rfl ?_
  refine s_newz (p' := 3) (a := 419) rfl (len_s (len_s (len_s (len_a (len_s (len_s (len_s (len_a (len_s (len_s (len_s (len_a (len_s (len_s (len_s (len_a (len_s (len_s (len_s (len_a (len_s HL) rfl)))) rfl)))) rfl)))) rfl)))) rfl)))) rfl rfl ?_
  refine s_dupr (p' := 4) rfl rfl ?_
  refine s_aldn (p' := 5) rfl rfl rfl ?_
  refine c_call (p' := 8) (kc := 95) (ls0 := [_, _]) rfl rfl rfl rfl rfl (mj_rcv_is (rd_nw rfl (len_s (len_s (len_s (len_a (len_s (len_s (len_s (len_a (len_s (len_s (len_s (len_a (len_s (len_s (len_s (len_a (len_s (len_s (len_s (len_a (len_s HL) rfl)))) rfl)))) rfl)))) rfl)))) rfl)))))) rfl rfl rfl ?_
  refine s_aldn (p' := 1) rfl rfl rfl ?_
  refine s_aldn (p' := 2) rfl rfl rfl ?_
  refine s_pfz (p' := 5) (fs' := [_, _, _, _]) rfl rfl (rd_nw rfl (len_s (len_s (len_s (len_a (len_s (len_s (len_s (len_a (len_s (len_s (len_s (len_a (len_s (len_s (len_s (len_a (len_s (len_s (len_s (len_a (len_s HL) rfl)))) rfl)))) rfl)))) rfl)))) rfl))))) rfl rfl rfl rfl ?_
  refine s_aldn (p' := 6) rfl rfl rfl ?_
  refine s_primN (p' := 9) (q := 3) rfl rfl rfl rfl rfl rfl rfl rfl ?_
  refine s_aldn (p' := 10) rfl rfl rfl ?_
  refine s_con (p' := 11) rfl rfl ?_
  refine s_pfz (p' := 14) (fs' := [_, _, _, _]) rfl rfl (rd_ss rfl (rd_nw rfl (len_s (len_s (len_s (len_a (len_s (len_s (len_s (len_a (len_s (len_s (len_s (len_a (len_s (len_s (len_s (len_a (len_s (len_s (len_s (len_a (len_s HL) rfl)))) rfl)))) rfl)))) rfl)))) rfl)))))) rfl rfl rfl rfl ?_
  refine s_aldn (p' := 15) rfl rfl rfl ?_
  refine s_aldn (p' := 16) rfl rfl rfl ?_
  refine s_gf (p' := 19) rfl (rd_ss rfl (rd_ss rfl (rd_nw rfl (len_s (len_s (len_s (len_a (len_s (len_s (len_s (len_a (len_s (len_s (len_s (len_a (len_s (len_s (len_s (len_a (len_s (len_s (len_s (len_a (len_s HL) rfl)))) rfl)))) rfl)))) rfl)))) rfl))))))) rfl rfl ?_
  refine s_gf (p' := 22) rfl (rd_sn rfl (rd_sn rfl (rd_app (rd_sn rfl (rd_sn rfl (rd_sn rfl (rd_app (rd_sn rfl (rd_sn rfl (rd_sn rfl (rd_app (rd_sn rfl (rd_sn rfl (rd_sn rfl (rd_app (rd_sn rfl (rd_sn rfl (rd_sn rfl (rd_app (rd_sn rfl (rd_sn rfl (rd_sn rfl (rd_app (rd_sn rfl H410)))))))))))))))))))))))) rfl rfl ?_
  refine s_pfz (p' := 25) (fs' := [_, _, _, _]) rfl rfl (rd_ss rfl (rd_ss rfl (rd_nw rfl (len_s (len_s (len_s (len_a (len_s (len_s (len_s (len_a (len_s (len_s (len_s (len_a (len_s (len_s (len_s (len_a (len_s (len_s (len_s (len_a (len_s HL) rfl)))) rfl)))) rfl)))) rfl)))) rfl))))))) rfl rfl rfl rfl ?_
  refine c_ret rfl ?_
  refine c_aret rfl ?_
  refine s_astn (p' := 12) (ls' := [_, _, _, _, _]) rfl rfl rfl rfl ?_
  refine s_aldn (p' := 13) rfl rfl rfl ?_
  refine c_call (p' := 18) (kc := 96) (ls0 := [_]) rfl rfl rfl rfl rfl (mj_rcv_is (rd_ss rfl (rd_ss rfl (rd_ss rfl (rd_nw rfl (len_s (len_s (len_s (len_a (len_s (len_s (len_s (len_a (len_s (len_s (len_s (len_a (len_s (len_s (len_s (len_a (len_s (len_s (len_s (len_a (len_s HL) rfl)))) rfl)))) rfl)))) rfl)))) rfl))))))))) rfl rfl rfl ?_
  refine s_aldn (p' := 1) rfl rfl rfl ?_
  refine s_gf (p' := 4) rfl (rd_ss rfl (rd_ss rfl (rd_ss rfl (rd_nw rfl (len_s (len_s (len_s (len_a (len_s (len_s (len_s (len_a (len_s (len_s (len_s (len_a (len_s (len_s (len_s (len_a (len_s (len_s (len_s (len_a (len_s HL) rfl)))) rfl)))) rfl)))) rfl)))) rfl)))))))) rfl rfl ?_
  refine s_aldn (p' := 5) rfl rfl rfl ?_
  refine s_gf (p' := 8) rfl (rd_ss rfl (rd_ss rfl (rd_ss rfl (rd_nw rfl (len_s (len_s (len_s (len_a (len_s (len_s (len_s (len_a (len_s (len_s (len_s (len_a (len_s (len_s (len_s (len_a (len_s (len_s (len_s (len_a (len_s HL) rfl)))) rfl)))) rfl)))) rfl)))) rfl)))))))) rfl rfl ?_
  refine s_gf (p' := 11) rfl (rd_sn rfl (rd_sn rfl (rd_sn rfl (rd_app (rd_sn rfl (rd_sn rfl (rd_sn rfl (rd_app (rd_sn rfl (rd_sn rfl (rd_sn rfl (rd_app (rd_sn rfl (rd_sn rfl (rd_sn rfl (rd_app (rd_sn rfl (rd_sn rfl (rd_sn rfl (rd_app (rd_sn rfl (rd_sn rfl (rd_sn rfl (rd_app (rd_sn rfl H410))))))))))))))))))))))))) rfl rfl ?_
  refine s_icmp (p' := 18) true rfl (by decide +kernel) rfl ?_
  refine s_con (p' := 19) rfl rfl ?_
  refine c_iret rfl (by decide +kernel) ?_
  refine s_if (p' := 45) true rfl (by decide +kernel) rfl ?_
  refine s_ildn (p' := 46) rfl rfl rfl ?_
  refine c_iret rfl rfl ?_
  refine s_istn (p' := 6) (ls' := [_, _, _, _]) rfl rfl rfl rfl ?_
  refine s_con (p' := 7) rfl rfl ?_
  refine s_istn (p' := 8) (ls' := [_, _, _, _]) rfl rfl rfl rfl ?_
  refine s_ildn (p' := 9) rfl rfl rfl ?_
  refine s_ildn (p' := 10) rfl rfl rfl ?_
  refine s_icmp (p' := 35) true rfl (by decide +kernel) rfl ?_
  refine s_ildn (p' := 36) rfl rfl rfl ?_
  refine c_iret rfl (by decide +kernel) ?_
  refine s_if (p' := 24) false rfl (by decide +kernel) rfl ?_
  refine s_con (p' := 25) rfl rfl ?_
  refine s_goto (p' := 29) rfl rfl ?_
  refine s_bz (p' := 30) (z := (nI 6)) rfl rfl rfl (by decide +kernel) ?_
  refine s_istn (p' := 31) (ls' := [_, _, _]) rfl rfl rfl rfl ?_
  refine s_incz (p' := 34) (w := (nI 6)) (ls' := [_, _, _]) rfl rfl rfl (by decide +kernel) rfl rfl ?_
  refine s_goto (p' := 9) rfl rfl ?_
  refine s_ildn (p' := 10) rfl rfl rfl ?_
  refine s_bip (p' := 12) rfl rfl ?_
  refine s_icmp (p' := 15) false rfl (by decide +kernel) rfl ?_
  refine s_ildn (p' := 16) rfl rfl rfl ?_
  refine s_aldn (p' := 17) rfl rfl rfl ?_
  refine s_ildn (p' := 18) rfl rfl rfl ?_
  refine c_call (p' := 21) (kc := 98) (ls0 := [_, _, _, _]) rfl rfl rfl rfl rfl (mj_rcv_is (rd_sn rfl (rd_sn rfl (rd_sn rfl (rd_app (rd_sn rfl (rd_sn rfl (rd_sn rfl (rd_app (rd_sn rfl (rd_sn rfl (rd_sn rfl (rd_app (rd_sn rfl (rd_sn rfl (rd_sn rfl (rd_app (rd_sn rfl (rd_sn rfl (rd_sn rfl (rd_app (rd_sn rfl (rd_sn rfl (rd_sn rfl (rd_app (rd_ss rfl H400)))))))))))))))))))))))))) rfl rfl rfl ?_
  refine s_aldn (p' := 1) rfl rfl rfl ?_
  refine s_ildn (p' := 2) rfl rfl rfl ?_
  refine c_call (p' := 5) (kc := 97) (ls0 := [_, _, _, _, _]) rfl rfl rfl rfl rfl (mj_rcv_is (rd_sn rfl (rd_sn rfl (rd_sn rfl (rd_app (rd_sn rfl (rd_sn rfl (rd_sn rfl (rd_app (rd_sn rfl (rd_sn rfl (rd_sn rfl (rd_app (rd_sn rfl (rd_sn rfl (rd_sn rfl (rd_app (rd_sn rfl (rd_sn rfl (rd_sn rfl (rd_app (rd_sn rfl (rd_sn rfl (rd_sn rfl (rd_app (rd_ss rfl H400)))))))))))))))))))))))))) rfl rfl rfl ?_
  refine s_ildn (p' := 1) rfl rfl rfl ?_
  refine s_istn (p' := 2) (ls' := [_, _, _, _, _]) rfl rfl rfl rfl ?_
  refine s_aldn (p' := 3) rfl rfl rfl ?_
  refine s_gf (p' := 6) rfl (rd_sn rfl (rd_sn rfl (rd_sn rfl (rd_app (rd_sn rfl (rd_sn rfl (rd_sn rfl (rd_app (rd_sn rfl (rd_sn rfl (rd_sn rfl (rd_app (rd_sn rfl (rd_sn rfl (rd_sn rfl (rd_app (rd_sn rfl (rd_sn rfl (rd_sn rfl (rd_app (rd_sn rfl (rd_sn rfl (rd_sn rfl (rd_app (rd_ss rfl H400))))))))))))))))))))))))) rfl rfl ?_
  refine c_call (p' := 11) (kc := 96) (ls0 := [_]) rfl rfl rfl rfl rfl (mj_rcv_is (rd_sn rfl (rd_sn rfl (rd_sn rfl (rd_app (rd_sn rfl (rd_sn rfl (rd_sn rfl (rd_app (rd_sn rfl (rd_sn rfl (rd_sn rfl (rd_app (rd_sn rfl (rd_sn rfl (rd_sn rfl (rd_app (rd_sn rfl (rd_sn rfl (rd_sn rfl (rd_app (rd_sn rfl (rd_sn rfl (rd_sn rfl (rd_app (rd_sn rfl H410)))))))))))))))))))))))))) rfl rfl rfl ?_
  refine s_newz (p' := 3) (a := 420) rfl (len_s (len_s (len_s (len_a (len_s (len_s (len_s (len_a (len_s (len_s (len_s (len_a (len_s (len_s (len_s (len_a (len_s (len_s (len_s (len_a (len_s (len_s (len_s (len_a (len_s HL) rfl)))) rfl)))) rfl)))) rfl)))) rfl)))) rfl)))) rfl rfl ?_
  refine s_dupr (p' := 4) rfl rfl ?_
  refine s_aldn (p' := 5) rfl rfl rfl ?_
  refine c_call (p' := 8) (kc := 95) (ls0 := [_, _]) rfl rfl rfl rfl rfl (mj_rcv_is (rd_nw rfl (len_s (len_s (len_s (len_a (len_s (len_s (len_s (len_a (len_s (len_s (len_s (len_a (len_s (len_s (len_s (len_a (len_s (len_s (len_s (len_a (len_s (len_s (len_s (len_a (len_s HL) rfl)))) rfl)))) rfl)))) rfl)))) rfl)))) rfl)))))) rfl rfl rfl ?_
  refine s_aldn (p' := 1) rfl rfl rfl ?_
  refine s_aldn (p' := 2) rfl rfl rfl ?_
  refine s_pfz (p' := 5) (fs' := [_, _, _, _]) rfl rfl (rd_nw rfl (len_s (len_s (len_s (len_a (len_s (len_s (len_s (len_a (len_s (len_s (len_s (len_a (len_s (len_s (len_s (len_a (len_s (len_s (len_s (len_a (len_s (len_s (len_s (len_a (len_s HL) rfl)))) rfl)))) rfl)))) rfl)))) rfl)))) rfl))))) rfl rfl rfl rfl ?_
  refine s_aldn (p' := 6) rfl rfl rfl ?_
  refine s_primN (p' := 9) (q := 3) rfl rfl rfl rfl rfl rfl rfl rfl ?_
  refine s_aldn (p' := 10) rfl rfl rfl ?_
  refine s_con (p' := 11) rfl rfl ?_
  refine s_pfz (p' := 14) (fs' := [_, _, _, _]) rfl rfl (rd_ss rfl (rd_nw rfl (len_s (len_s (len_s (len_a (len_s (len_s (len_s (len_a (len_s (len_s (len_s (len_a (len_s (len_s (len_s (len_a (len_s (len_s (len_s (len_a (len_s (len_s (len_s (len_a (len_s HL) rfl)))) rfl)))) rfl)))) rfl)))) rfl)))) rfl)))))) rfl rfl rfl rfl ?_
  refine s_aldn (p' := 15) rfl rfl rfl ?_
  refine s_aldn (p' := 16) rfl rfl rfl ?_
  refine s_gf (p' := 19) rfl (rd_ss rfl (rd_ss rfl (rd_nw rfl (len_s (len_s (len_s (len_a (len_s (len_s (len_s (len_a (len_s (len_s (len_s (len_a (len_s (len_s (len_s (len_a (len_s (len_s (len_s (len_a (len_s (len_s (len_s (len_a (len_s HL) rfl)))) rfl)))) rfl)))) rfl)))) rfl)))) rfl))))))) rfl rfl ?_
  refine s_gf (p' := 22) rfl (rd_sn rfl (rd_sn rfl (rd_app (rd_sn rfl (rd_sn rfl (rd_sn rfl (rd_app (rd_sn rfl (rd_sn rfl (rd_sn rfl (rd_app (rd_sn rfl (rd_sn rfl (rd_sn rfl (rd_app (rd_sn rfl (rd_sn rfl (rd_sn rfl (rd_app (rd_sn rfl (rd_sn rfl (rd_sn rfl (rd_app (rd_sn rfl (rd_sn rfl (rd_sn rfl (rd_app (rd_sn rfl H410)))))))))))))))))))))))))))) rfl rfl ?_
  refine s_pfz (p' := 25) (fs' := [_, _, _, _]) rfl rfl (rd_ss rfl (rd_ss rfl (rd_nw rfl (len_s (len_s (len_s (len_a (len_s (len_s (len_s (len_a (len_s (len_s (len_s (len_a (len_s (len_s (len_s (len_a (len_s (len_s (len_s (len_a (len_s (len_s (len_s (len_a (len_s HL) rfl)))) rfl)))) rfl)))) rfl)))) rfl)))) rfl))))))) rfl rfl rfl rfl ?_
  refine c_ret rfl ?_
  refine c_aret rfl ?_
  refine s_astn (p' := 12) (ls' := [_, _, _, _, _]) rfl rfl rfl rfl ?_
  refine s_aldn (p' := 13) rfl rfl rfl ?_
  refine c_call (p' := 18) (kc := 96) (ls0 := [_]) rfl rfl rfl rfl rfl (mj_rcv_is (rd_ss rfl (rd_ss rfl (rd_ss rfl (rd_nw rfl (len_s (len_s (len_s (len_a (len_s (len_s (len_s (len_a (len_s (len_s (len_s (len_a (len_s (len_s (len_s (len_a (len_s (len_s (len_s (len_a (len_s (len_s (len_s (len_a (len_s HL) rfl)))) rfl)))) rfl)))) rfl)))) rfl)))) rfl))))))))) rfl rfl rfl ?_
  refine s_aldn (p' := 1) rfl rfl rfl ?_
  refine s_gf (p' := 4) rfl (rd_ss rfl (rd_ss rfl (rd_ss rfl (rd_nw rfl (len_s (len_s (len_s (len_a (len_s (len_s (len_s (len_a (len_s (len_s (len_s (len_a (len_s (len_s (len_s (len_a (len_s (len_s (len_s (len_a (len_s (len_s (len_s (len_a (len_s HL) rfl)))) rfl)))) rfl)))) rfl)))) rfl)))) rfl)))))))) rfl rfl ?_
  refine s_aldn (p' := 5) rfl rfl rfl ?_
  refine s_gf (p' := 8) rfl (rd_ss rfl (rd_ss rfl (rd_ss rfl (rd_nw rfl (len_s (len_s (len_s (len_a (len_s (len_s (len_s (len_a (len_s (len_s (len_s (len_a (len_s (len_s (len_s (len_a (len_s (len_s (len_s (len_a (len_s (len_s (len_s (len_a (len_s HL) rfl)))) rfl)))) rfl)))) rfl)))) rfl)))) rfl)))))))) rfl rfl ?_
  refine s_gf (p' := 11) rfl (rd_sn rfl (rd_sn rfl (rd_sn rfl (rd_app (rd_sn rfl (rd_sn rfl (rd_sn rfl (rd_app (rd_sn rfl (rd_sn rfl (rd_sn rfl (rd_app (rd_sn rfl (rd_sn rfl (rd_sn rfl (rd_app (rd_sn rfl (rd_sn rfl (rd_sn rfl (rd_app (rd_sn rfl (rd_sn rfl (rd_sn rfl (rd_app (rd_sn rfl (rd_sn rfl (rd_sn rfl (rd_app (rd_sn rfl H410))))))))))))))))))))))))))))) rfl rfl ?_
  refine s_icmp (p' := 18) true rfl (by decide +kernel) rfl ?_
  refine s_con (p' := 19) rfl rfl ?_
  refine c_iret rfl (by decide +kernel) ?_
  refine s_if (p' := 45) true rfl (by decide +kernel) rfl ?_
  refine s_ildn (p' := 46) rfl rfl rfl ?_
  refine c_iret rfl rfl ?_
  refine s_istn (p' := 6) (ls' := [_, _, _, _]) rfl rfl rfl rfl ?_
  refine s_con (p' := 7) rfl rfl ?_
  refine s_istn (p' := 8) (ls' := [_, _, _, _]) rfl rfl rfl rfl ?_
  refine s_ildn (p' := 9) rfl rfl rfl ?_
  refine s_ildn (p' := 10) rfl rfl rfl ?_
  refine s_icmp (p' := 35) true rfl (by decide +kernel) rfl ?_
  refine s_ildn (p' := 36) rfl rfl rfl ?_
  refine c_iret rfl (by decide +kernel) ?_
  refine s_if (p' := 24) false rfl (by decide +kernel) rfl ?_
  refine s_con (p' := 25) rfl rfl ?_
  refine s_goto (p' := 29) rfl rfl ?_
  refine s_bz (p' := 30) (z := (nI 7)) rfl rfl rfl (by decide +kernel) ?_
  refine s_istn (p' := 31) (ls' := [_, _, _]) rfl rfl rfl rfl ?_
  refine s_incz (p' := 34) (w := (nI 7)) (ls' := [_, _, _]) rfl rfl rfl (by decide +kernel) rfl rfl ?_
  refine s_goto (p' := 9) rfl rfl ?_
  refine s_ildn (p' := 10) rfl rfl rfl ?_
  refine s_bip (p' := 12) rfl rfl ?_
  refine s_icmp (p' := 15) false rfl (by decide +kernel) rfl ?_
  refine s_ildn (p' := 16) rfl rfl rfl ?_
  refine s_aldn (p' := 17) rfl rfl rfl ?_
  refine s_ildn (p' := 18) rfl rfl rfl ?_
  refine c_call (p' := 21) (kc := 98) (ls0 := [_, _, _, _]) rfl rfl rfl rfl rfl (mj_rcv_is (rd_sn rfl (rd_sn rfl (rd_sn rfl (rd_app (rd_sn rfl (rd_sn rfl (rd_sn rfl (rd_app (rd_sn rfl (rd_sn rfl (rd_sn rfl (rd_app (rd_sn rfl (rd_sn rfl (rd_sn rfl (rd_app (rd_sn rfl (rd_sn rfl (rd_sn rfl (rd_app (rd_sn rfl (rd_sn rfl (rd_sn rfl (rd_app (rd_sn rfl (rd_sn rfl (rd_sn rfl (rd_app (rd_ss rfl H400)))))))))))))))))))))))))))))) rfl rfl rfl ?_
  refine s_aldn (p' := 1) rfl rfl rfl ?_
  refine s_ildn (p' := 2) rfl rfl rfl ?_
  refine c_call (p' := 5) (kc := 97) (ls0 := [_, _, _, _, _]) rfl rfl rfl rfl rfl (mj_rcv_is (rd_sn rfl (rd_sn rfl (rd_sn rfl (rd_app (rd_sn rfl (rd_sn rfl (rd_sn rfl (rd_app (rd_sn rfl (rd_sn rfl (rd_sn rfl (rd_app (rd_sn rfl (rd_sn rfl (rd_sn rfl (rd_app (rd_sn rfl (rd_sn rfl (rd_sn rfl (rd_app (rd_sn rfl (rd_sn rfl (rd_sn rfl (rd_app (rd_sn rfl (rd_sn rfl (rd_sn rfl (rd_app (rd_ss rfl H400)))))))))))))))))))))))))))))) rfl rfl rfl ?_
  refine s_ildn (p' := 1) rfl rfl rfl ?_
  refine s_istn (p' := 2) (ls' := [_, _, _, _, _]) rfl rfl rfl rfl ?_
  refine s_aldn (p' := 3) rfl rfl rfl ?_
  refine s_gf (p' := 6) rfl (rd_sn rfl (rd_sn rfl (rd_sn rfl (rd_app (rd_sn rfl (rd_sn rfl (rd_sn rfl (rd_app (rd_sn rfl (rd_sn rfl (rd_sn rfl (rd_app (rd_sn rfl (rd_sn rfl (rd_sn rfl (rd_app (rd_sn rfl (rd_sn rfl (rd_sn rfl (rd_app (rd_sn rfl (rd_sn rfl (rd_sn rfl (rd_app (rd_sn rfl (rd_sn rfl (rd_sn rfl (rd_app (rd_ss rfl H400))))))))))))))))))))))))))))) rfl rfl ?_
  refine c_call (p' := 11) (kc := 96) (ls0 := [_]) rfl rfl rfl rfl rfl (mj_rcv_is (rd_sn rfl (rd_sn rfl (rd_sn rfl (rd_app (rd_sn rfl (rd_sn rfl (rd_sn rfl (rd_app (rd_sn rfl (rd_sn rfl (rd_sn rfl (rd_app (rd_sn rfl (rd_sn rfl (rd_sn rfl (rd_app (rd_sn rfl (rd_sn rfl (rd_sn rfl (rd_app (rd_sn rfl (rd_sn rfl (rd_sn rfl (rd_app (rd_sn rfl (rd_sn rfl (rd_sn rfl (rd_app (rd_sn rfl H410)))))))))))))))))))))))))))))) rfl rfl rfl ?_
  refine s_newz (p' := 3) (a := 421) rfl (len_s (len_s (len_s (len_a (len_s (len_s (len_s (len_a (len_s (len_s (len_s (len_a (len_s (len_s (len_s (len_a (len_s (len_s (len_s (len_a (len_s (len_s (len_s (len_a (len_s (len_s (len_s (len_a (len_s HL) rfl)))) rfl)))) rfl)))) rfl)))) rfl)))) rfl)))) rfl)))) rfl rfl ?_
  refine s_dupr (p' := 4) rfl rfl ?_
  refine s_aldn (p' := 5) rfl rfl rfl ?_
  refine c_call (p' := 8) (kc := 95) (ls0 := [_, _]) rfl rfl rfl rfl rfl (mj_rcv_is (rd_nw rfl (len_s (len_s (len_s (len_a (len_s (len_s (len_s (len_a (len_s (len_s (len_s (len_a (len_s (len_s (len_s (len_a (len_s (len_s (len_s (len_a (len_s (len_s (len_s (len_a (len_s (len_s (len_s (len_a (len_s HL) rfl)))) rfl)))) rfl)))) rfl)))) rfl)))) rfl)))) rfl)))))) rfl rfl rfl ?_
  refine s_aldn (p' := 1) rfl rfl rfl ?_
  refine s_aldn (p' := 2) rfl rfl rfl ?_
  refine s_pfz (p' := 5) (fs' := [_, _, _, _]) rfl rfl (rd_nw rfl (len_s (len_s (len_s (len_a (len_s (len_s (len_s (len_a (len_s (len_s (len_s (len_a (len_s (len_s (len_s (len_a (len_s (len_s (len_s (len_a (len_s (len_s (len_s (len_a (len_s (len_s (len_s (len_a (len_s HL) rfl)))) rfl)))) rfl)))) rfl)))) rfl)))) rfl)))) rfl))))) rfl rfl rfl rfl ?_
  refine s_aldn (p' := 6) rfl rfl rfl ?_
  refine s_primN (p' := 9) (q := 3) rfl rfl rfl rfl rfl rfl rfl rfl ?_
  refine s_aldn (p' := 10) rfl rfl rfl ?_
  refine s_con (p' := 11) rfl rfl ?_
  refine s_pfz (p' := 14) (fs' := [_, _, _, _]) rfl rfl (rd_ss rfl (rd_nw rfl (len_s (len_s (len_s (len_a (len_s (len_s (len_s (len_a (len_s (len_s (len_s (len_a (len_s (len_s (len_s (len_a (len_s (len_s (len_s (len_a (len_s (len_s (len_s (len_a (len_s (len_s (len_s (len_a (len_s HL) rfl)))) rfl)))) rfl)))) rfl)))) rfl)))) rfl)))) rfl)))))) rfl rfl rfl rfl ?_
  refine s_aldn (p' := 15) rfl rfl rfl ?_
  refine s_aldn (p' := 16) rfl rfl rfl ?_
  refine s_gf (p' := 19) rfl (rd_ss rfl (rd_ss rfl (rd_nw rfl (len_s (len_s (len_s (len_a (len_s (len_s (len_s (len_a (len_s (len_s (len_s (len_a (len_s (len_s (len_s (len_a (len_s (len_s (len_s (len_a (len_s (len_s (len_s (len_a (len_s (len_s (len_s (len_a (len_s HL) rfl)))) rfl)))) rfl)))) rfl)))) rfl)))) rfl)))) rfl))))))) rfl rfl ?_
  refine s_gf (p' := 22) rfl (rd_sn rfl (rd_sn rfl (rd_app (rd_sn rfl (rd_sn rfl (rd_sn rfl (rd_app (rd_sn rfl (rd_sn rfl (rd_sn rfl (rd_app (rd_sn rfl (rd_sn rfl (rd_sn rfl (rd_app (rd_sn rfl (rd_sn rfl (rd_sn rfl (rd_app (rd_sn rfl (rd_sn rfl (rd_sn rfl (rd_app (rd_sn rfl (rd_sn rfl (rd_sn rfl (rd_app (rd_sn rfl (rd_sn rfl (rd_sn rfl (rd_app (rd_sn rfl H410)))))))))))))))))))))))))))))))) rfl rfl ?_
  refine s_pfz (p' := 25) (fs' := [_, _, _, _]) rfl rfl (rd_ss rfl (rd_ss rfl (rd_nw rfl (len_s (len_s (len_s (len_a (len_s (len_s (len_s (len_a (len_s (len_s (len_s (len_a (len_s (len_s (len_s (len_a (len_s (len_s (len_s (len_a (len_s (len_s (len_s (len_a (len_s (len_s (len_s (len_a (len_s HL) rfl)))) rfl)))) rfl)))) rfl)))) rfl)))) rfl)))) rfl))))))) rfl rfl rfl rfl ?_
  refine c_ret rfl ?_
  refine c_aret rfl ?_
  refine s_astn (p' := 12) (ls' := [_, _, _, _, _]) rfl rfl rfl rfl ?_
  refine s_aldn (p' := 13) rfl rfl rfl ?_
  refine c_call (p' := 18) (kc := 96) (ls0 := [_]) rfl rfl rfl rfl rfl (mj_rcv_is (rd_ss rfl (rd_ss rfl (rd_ss rfl (rd_nw rfl (len_s (len_s (len_s (len_a (len_s (len_s (len_s (len_a (len_s (len_s (len_s (len_a (len_s (len_s (len_s (len_a (len_s (len_s (len_s (len_a (len_s (len_s (len_s (len_a (len_s (len_s (len_s (len_a (len_s HL) rfl)))) rfl)))) rfl)))) rfl)))) rfl)))) rfl)))) rfl))))))))) rfl rfl rfl ?_
  refine s_aldn (p' := 1) rfl rfl rfl ?_
  refine s_gf (p' := 4) rfl (rd_ss rfl (rd_ss rfl (rd_ss rfl (rd_nw rfl (len_s (len_s (len_s (len_a (len_s (len_s (len_s (len_a (len_s (len_s (len_s (len_a (len_s (len_s (len_s (len_a (len_s (len_s (len_s (len_a (len_s (len_s (len_s (len_a (len_s (len_s (len_s (len_a (len_s HL) rfl)))) rfl)))) rfl)))) rfl)))) rfl)))) rfl)))) rfl)))))))) rfl rfl ?_
  refine s_aldn (p' := 5) rfl rfl rfl ?_
  refine s_gf (p' := 8) rfl (rd_ss rfl (rd_ss rfl (rd_ss rfl (rd_nw rfl (len_s (len_s (len_s (len_a (len_s (len_s (len_s (len_a (len_s (len_s (len_s (len_a (len_s (len_s (len_s (len_a (len_s (len_s (len_s (len_a (len_s (len_s (len_s (len_a (len_s (len_s (len_s (len_a (len_s HL) rfl)))) rfl)))) rfl)))) rfl)))) rfl)))) rfl)))) rfl)))))))) rfl rfl ?_
  refine s_gf (p' := 11) rfl (rd_sn rfl (rd_sn rfl (rd_sn rfl (rd_app (rd_sn rfl (rd_sn rfl (rd_sn rfl (rd_app (rd_sn rfl (rd_sn rfl (rd_sn rfl (rd_app (rd_sn rfl (rd_sn rfl (rd_sn rfl (rd_app (rd_sn rfl (rd_sn rfl (rd_sn rfl (rd_app (rd_sn rfl (rd_sn rfl (rd_sn rfl (rd_app (rd_sn rfl (rd_sn rfl (rd_sn rfl (rd_app (rd_sn rfl (rd_sn rfl (rd_sn rfl (rd_app (rd_sn rfl H410))))))))))))))))))))))))))))))))) rfl rfl ?_
  refine s_icmp (p' := 18) true rfl (by decide +kernel) rfl ?_
  refine s_con (p' := 19) rfl rfl ?_
  refine c_iret rfl (by decide +kernel) ?_
  refine s_if (p' := 45) true rfl (by decide +kernel) rfl ?_
  refine s_ildn (p' := 46) rfl rfl rfl ?_
  refine c_iret rfl rfl ?_
  refine s_istn (p' := 6) (ls' := [_, _, _, _]) rfl rfl rfl rfl ?_
  refine s_con (p' := 7) rfl rfl ?_
  refine s_istn (p' := 8) (ls' := [_, _, _, _]) rfl rfl rfl rfl ?_
  refine s_ildn (p' := 9) rfl rfl rfl ?_
  refine s_ildn (p' := 10) rfl rfl rfl ?_
  refine s_icmp (p' := 35) true rfl (by decide +kernel) rfl ?_
  refine s_ildn (p' := 36) rfl rfl rfl ?_
  refine c_iret rfl (by decide +kernel) ?_
  refine s_if (p' := 24) false rfl (by decide +kernel) rfl ?_
  refine s_con (p' := 25) rfl rfl ?_
  refine s_goto (p' := 29) rfl rfl ?_
  refine s_bz (p' := 30) (z := (nI 8)) rfl rfl rfl (by decide +kernel) ?_
  refine s_istn (p' := 31) (ls' := [_, _, _]) rfl rfl rfl rfl ?_
  refine s_incz (p' := 34) (w := (nI 8)) (ls' := [_, _, _]) rfl rfl rfl (by decide +kernel) rfl rfl ?_
  refine s_goto (p' := 9) rfl rfl ?_
  refine s_ildn (p' := 10) rfl rfl rfl ?_
  refine s_bip (p' := 12) rfl rfl ?_
  refine s_icmp (p' := 37) true rfl (by decide +kernel) rfl ?_
  refine s_ildn (p' := 38) rfl rfl rfl ?_
  refine k_iret rfl rfl ?_
  refine l_icmp (p' := 2541) true rfl rfl (by decide +kernel) rfl ?_
  refine l_incz (p' := 2544) (w := (nI 4)) (ls' := [_, _, _, _, _, _, _, _, _, _]) rfl rfl rfl rfl (by decide +kernel) rfl rfl ?_
  refine l_goto (p' := 28) rfl rfl rfl ?_
  refine l_ild (p' := 30) rfl rfl rfl rfl ?_
  refine l_alds (p' := 31) rfl rfl rfl rfl ?_
  refine l_lens (p' := 32) rfl rfl rfl ?_
  refine l_con (p' := 33) rfl rfl rfl ?_
  refine l_bz (p' := 34) (z := (nI 0)) rfl rfl rfl rfl rfl (by decide +kernel) ?_
  refine l_icmp (p' := 2547) true rfl rfl (by decide +kernel) rfl ?_
  refine l_con (p' := 2548) rfl rfl rfl ?_
  refine l_end rfl rfl ?_
  exact ⟨Nat.le_trans (Nat.le_of_eq (len_s (len_s (len_s (len_a (len_s (len_s (len_s (len_a (len_s (len_s (len_s (len_a (len_s (len_s (len_s (len_a (len_s (len_s (len_s (len_a (len_s (len_s (len_s (len_a (len_s (len_s (len_s (len_a (len_s (len_s (len_s (len_a (len_s HL) rfl)))) rfl)))) rfl)))) rfl)))) rfl)))) rfl)))) rfl)))) rfl))))) (Nat.le_of_ble_eq_true rfl), Nat.le_trans (sz_s rfl (rd_ss rfl (rd_ss rfl (rd_nw rfl (len_s (len_s (len_s (len_a (len_s (len_s (len_s (len_a (len_s (len_s (len_s (len_a (len_s (len_s (len_s (len_a (len_s (len_s (len_s (len_a (len_s (len_s (len_s (len_a (len_s (len_s (len_s (len_a (len_s HL) rfl)))) rfl)))) rfl)))) rfl)))) rfl)))) rfl)))) rfl))))))) rfl (sz_s rfl (rd_ss rfl (rd_nw rfl (len_s (len_s (len_s (len_a (len_s (len_s (len_s (len_a (len_s (len_s (len_s (len_a (len_s (len_s (len_s (len_a (len_s (len_s (len_s (len_a (len_s (len_s (len_s (len_a (len_s (len_s (len_s (len_a (len_s HL) rfl)))) rfl)))) rfl)))) rfl)))) rfl)))) rfl)))) rfl)))))) rfl (sz_s rfl (rd_nw rfl (len_s (len_s (len_s (len_a (len_s (len_s (len_s (len_a (len_s (len_s (len_s (len_a (len_s (len_s (len_s (len_a (len_s (len_s (len_s (len_a (len_s (len_s (len_s (len_a (len_s (len_s (len_s (len_a (len_s HL) rfl)))) rfl)))) rfl)))) rfl)))) rfl)))) rfl)))) rfl))))) rfl (sz_aa (k := 4) (m := 20032) rfl rfl (sz_s rfl (rd_ss rfl (rd_ss rfl (rd_nw rfl (len_s (len_s (len_s (len_a (len_s (len_s (len_s (len_a (len_s (len_s (len_s (len_a (len_s (len_s (len_s (len_a (len_s (len_s (len_s (len_a (len_s (len_s (len_s (len_a (len_s HL) rfl)))) rfl)))) rfl)))) rfl)))) rfl)))) rfl))))))) rfl (sz_s rfl (rd_ss rfl (rd_nw rfl (len_s (len_s (len_s (len_a (len_s (len_s (len_s (len_a (len_s (len_s (len_s (len_a (len_s (len_s (len_s (len_a (len_s (len_s (len_s (len_a (len_s (len_s (len_s (len_a (len_s HL) rfl)))) rfl)))) rfl)))) rfl)))) rfl)))) rfl)))))) rfl (sz_s rfl (rd_nw rfl (len_s (len_s (len_s (len_a (len_s (len_s (len_s (len_a (len_s (len_s (len_s (len_a (len_s (len_s (len_s (len_a (len_s (len_s (len_s (len_a (len_s (len_s (len_s (len_a (len_s HL) rfl)))) rfl)))) rfl)))) rfl)))) rfl)))) rfl))))) rfl (sz_aa (k := 4) (m := 20028) rfl rfl (sz_s rfl (rd_ss rfl (rd_ss rfl (rd_nw rfl (len_s (len_s (len_s (len_a (len_s (len_s (len_s (len_a (len_s (len_s (len_s (len_a (len_s (len_s (len_s (len_a (len_s (len_s (len_s (len_a (len_s HL) rfl)))) rfl)))) rfl)))) rfl)))) rfl))))))) rfl (sz_s rfl (rd_ss rfl (rd_nw rfl (len_s (len_s (len_s (len_a (len_s (len_s (len_s (len_a (len_s (len_s (len_s (len_a (len_s (len_s (len_s (len_a (len_s (len_s (len_s (len_a (len_s HL) rfl)))) rfl)))) rfl)))) rfl)))) rfl)))))) rfl (sz_s rfl (rd_nw rfl (len_s (len_s (len_s (len_a (len_s (len_s (len_s (len_a (len_s (len_s (len_s (len_a (len_s (len_s (len_s (len_a (len_s (len_s (len_s (len_a (len_s HL) rfl)))) rfl)))) rfl)))) rfl)))) rfl))))) rfl (sz_aa (k := 4) (m := 20024) rfl rfl (sz_s rfl (rd_ss rfl (rd_ss rfl (rd_nw rfl (len_s (len_s (len_s (len_a (len_s (len_s (len_s (len_a (len_s (len_s (len_s (len_a (len_s (len_s (len_s (len_a (len_s HL) rfl)))) rfl)))) rfl)))) rfl))))))) rfl (sz_s rfl (rd_ss rfl (rd_nw rfl (len_s (len_s (len_s (len_a (len_s (len_s (len_s (len_a (len_s (len_s (len_s (len_a (len_s (len_s (len_s (len_a (len_s HL) rfl)))) rfl)))) rfl)))) rfl)))))) rfl (sz_s rfl (rd_nw rfl (len_s (len_s (len_s (len_a (len_s (len_s (len_s (len_a (len_s (len_s (len_s (len_a (len_s (len_s (len_s (len_a (len_s HL) rfl)))) rfl)))) rfl)))) rfl))))) rfl (sz_aa (k := 4) (m := 20020) rfl rfl (sz_s rfl (rd_ss rfl (rd_ss rfl (rd_nw rfl (len_s (len_s (len_s (len_a (len_s (len_s (len_s (len_a (len_s (len_s (len_s (len_a (len_s HL) rfl)))) rfl)))) rfl))))))) rfl (sz_s rfl (rd_ss rfl (rd_nw rfl (len_s (len_s (len_s (len_a (len_s (len_s (len_s (len_a (len_s (len_s (len_s (len_a (len_s HL) rfl)))) rfl)))) rfl)))))) rfl (sz_s rfl (rd_nw rfl (len_s (len_s (len_s (len_a (len_s (len_s (len_s (len_a (len_s (len_s (len_s (len_a (len_s HL) rfl)))) rfl)))) rfl))))) rfl (sz_aa (k := 4) (m := 20016) rfl rfl (sz_s rfl (rd_ss rfl (rd_ss rfl (rd_nw rfl (len_s (len_s (len_s (len_a (len_s (len_s (len_s (len_a (len_s HL) rfl)))) rfl))))))) rfl (sz_s rfl (rd_ss rfl (rd_nw rfl (len_s (len_s (len_s (len_a (len_s (len_s (len_s (len_a (len_s HL) rfl)))) rfl)))))) rfl (sz_s rfl (rd_nw rfl (len_s (len_s (len_s (len_a (len_s (len_s (len_s (len_a (len_s HL) rfl)))) rfl))))) rfl (sz_aa (k := 4) (m := 20012) rfl rfl (sz_s rfl (rd_ss rfl (rd_ss rfl (rd_nw rfl (len_s (len_s (len_s (len_a (len_s HL) rfl))))))) rfl (sz_s rfl (rd_ss rfl (rd_nw rfl (len_s (len_s (len_s (len_a (len_s HL) rfl)))))) rfl (sz_s rfl (rd_nw rfl (len_s (len_s (len_s (len_a (len_s HL) rfl))))) rfl (sz_aa (k := 4) (m := 20008) rfl rfl (sz_s rfl (rd_ss rfl (rd_ss rfl (rd_nw rfl (len_s HL)))) rfl (sz_s rfl (rd_ss rfl (rd_nw rfl (len_s HL))) rfl (sz_s rfl (rd_nw rfl (len_s HL)) rfl (sz_aa (k := 4) (m := 20004) rfl rfl (sz_s rfl H400 rfl HZ))))))))))))))))))))))))))))))))) (Nat.le_of_ble_eq_true rfl)⟩
