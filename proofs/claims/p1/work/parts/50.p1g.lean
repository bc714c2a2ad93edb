/-! One call on fresh objects. -/
theorem p1_33_6 {xs : Nat → Int32} {h : mj_H} (hk : xs 0 &&& nI 63 = nI 33) (hx1 : xs 1 = nI 6)  (HL : h.length = 414) (HZ : mj_sz h ≤ 20000) (H0 : mj_rd h 0 = some (.inr (0, [.ref 1, .ref 38, .ref 299, .ref 336, .ref 373, .ref 375, .ref 378, .ref 381, .ref 387, .ref 393, .null, .null, .ref 397, .ref 398, .ref 399, .long (lN 0), .long (lN 0)]))) (H393 : mj_rd h 393 = some (.inr (9, [.ref 394, .ref 395, .ref 396, .int (nI 0), .int (nI 0)]))) (H394 : mj_rd h 394 = some (.inl (0, (24, .inl (fun _ => 0))))) (H400 : mj_rd h 400 = some (.inr (17, [.int (nI 0), .ref 401, .ref 402, .ref 1000300, .long (lN 0), .long (lN 0), .ref 410, .null, .null, .null, .ref 411]))) (H410 : mj_rd h 410 = some (.inr (18, [.ref 1000000, .int (nI 0), .int (nI 0)]))) (H412 : mj_rd h 412 = some (.inl (4, (1, .inr (.inl (fun _ => 0)))))) : mj_fin 4 xs h := by
  unfold mj_fin
  refine l_ild (p' := 30) rfl rfl rfl rfl ?_
  refine l_alds (p' := 31) rfl rfl rfl rfl ?_
  refine l_lens (p' := 32) rfl rfl rfl ?_
  refine l_con (p' := 33) rfl rfl rfl ?_
  refine l_bz (p' := 34) (z := (nI 0)) rfl rfl rfl rfl rfl (by decide +kernel) ?_
  refine l_icmp (p' := 37) false rfl rfl (by decide +kernel) rfl ?_
  refine l_alds (p' := 38) rfl rfl rfl rfl ?_
  refine l_ild (p' := 40) rfl rfl rfl rfl ?_
  refine l_ialz (p' := 41) (m := 0) (z := (xs 0)) rfl rfl (by decide +kernel) rfl rfl rfl ?_
  refine l_bip (p' := 43) rfl rfl rfl ?_
  refine l_bz (p' := 44) (z := (nI 33)) rfl rfl rfl rfl rfl hk ?_
  refine l_sp (p' := 1998) (ls' := _) rfl rfl rfl rfl rfl ?_
  refine l_aldn (p' := 1999) rfl rfl rfl rfl ?_
  refine l_alds (p' := 2000) rfl rfl rfl rfl ?_
  refine l_ild (p' := 2002) rfl rfl rfl rfl ?_
  refine l_con (p' := 2003) rfl rfl rfl ?_
  refine l_bz (p' := 2004) (z := (nI 1)) rfl rfl rfl rfl rfl (by decide +kernel) ?_
  refine l_ialz (p' := 2005) (m := 1) (z := (nI 6)) rfl rfl (by decide +kernel) rfl hx1 rfl ?_
  refine l_aldn (p' := 2006) rfl rfl rfl rfl ?_
  refine l_call (p' := 2009) (kc := 99) (ls0 := [_, _, _, _]) rfl rfl rfl rfl rfl rfl rfl rfl rfl rfl ?_
  refine s_aldn (p' := 1) rfl rfl rfl ?_
  refine s_con (p' := 2) rfl rfl ?_
  refine s_aldn (p' := 3) rfl rfl rfl ?_
  refine s_ildn (p' := 4) rfl rfl rfl ?_
  refine c_call (p' := 7) (kc := 98) (ls0 := [_, _]) rfl rfl rfl rfl rfl (mj_rcv_is H0) rfl rfl rfl ?_
  refine s_ildn (p' := 1) rfl rfl rfl ?_
  refine c_call (p' := 4) (kc := 97) (ls0 := [_]) rfl rfl rfl rfl rfl rfl rfl rfl rfl ?_
  refine s_ildn (p' := 1) rfl rfl rfl ?_
  refine s_if (p' := 4) false rfl (by decide +kernel) rfl ?_
  refine s_ildn (p' := 5) rfl rfl rfl ?_
  refine s_bip (p' := 7) rfl rfl ?_
  refine s_icmp (p' := 10) false rfl (by decide +kernel) rfl ?_
  refine s_con (p' := 11) rfl rfl ?_
  refine s_goto (p' := 15) rfl rfl ?_
  refine c_iret rfl (by decide +kernel) ?_
  refine s_if (p' := 18) true rfl (by decide +kernel) rfl ?_
  refine s_aldn (p' := 19) rfl rfl rfl ?_
  refine s_gf (p' := 22) rfl H0 rfl rfl ?_
  refine s_ildn (p' := 23) rfl rfl rfl ?_
  refine c_call (p' := 26) (kc := 97) (ls0 := [_, _, _, _]) rfl rfl rfl rfl rfl (mj_rcv_is H393) rfl rfl rfl ?_
  refine s_ildn (p' := 1) rfl rfl rfl ?_
  refine s_istn (p' := 2) (ls' := [_, _, _, _]) rfl rfl rfl rfl ?_
  refine s_aldn (p' := 3) rfl rfl rfl ?_
  refine s_gf (p' := 6) rfl H393 rfl rfl ?_
  refine s_aldn (p' := 7) rfl rfl rfl ?_
  refine s_gf (p' := 10) rfl H393 rfl rfl ?_
  refine s_lenz (p' := 11) rfl (mj_rdA_is H394 (by decide)) rfl rfl ?_
  refine s_primV (p' := 14) (q := 5) rfl rfl rfl rfl rfl rfl (p_min (x := (nI 0)) (y := (nI 24)) (z := (nI 0)) (by decide +kernel)) rfl ?_
  refine s_con (p' := 15) rfl rfl ?_
  refine s_bz (p' := 16) (z := (nI 4294967295)) rfl rfl rfl (by decide +kernel) ?_
  refine s_istn (p' := 17) (ls' := [_, _, _, _]) rfl rfl rfl rfl ?_
  refine s_ildn (p' := 18) rfl rfl rfl ?_
  refine s_if (p' := 38) true rfl (by decide +kernel) rfl ?_
  refine s_ildn (p' := 39) rfl rfl rfl ?_
  refine c_iret rfl rfl ?_
  refine c_iret rfl rfl ?_
  refine s_bzL (p' := 8) (z := (lN 6)) rfl rfl rfl (by decide +kernel) ?_
  refine s_lasz (p' := 9) (m := 0) rfl rfl H412 (by decide +kernel) rfl rfl rfl ?_
  refine s_goto (p' := 15) rfl rfl ?_
  refine s_con (p' := 16) rfl rfl ?_
  refine k_iret rfl rfl ?_
  refine l_ist (p' := 2011) (ls' := [_, _, _, _, _, _, _, _, _, _]) rfl rfl rfl rfl rfl ?_
  refine l_aldn (p' := 2012) rfl rfl rfl rfl ?_
  refine l_alds (p' := 2013) rfl rfl rfl rfl ?_
  refine l_ild (p' := 2015) rfl rfl rfl rfl ?_
  refine l_con (p' := 2016) rfl rfl rfl ?_
  refine l_bz (p' := 2017) (z := (nI 1)) rfl rfl rfl rfl rfl (by decide +kernel) ?_
  refine l_ialz (p' := 2018) (m := 1) (z := (nI 6)) rfl rfl (by decide +kernel) rfl hx1 rfl ?_
  refine l_call (p' := 2021) (kc := 99) (ls0 := [_, _, _, _]) rfl rfl rfl rfl rfl rfl (mj_rcv_is (rd_sn rfl H400)) rfl rfl rfl ?_
  refine s_aldn (p' := 1) rfl rfl rfl ?_
  refine s_ildn (p' := 2) rfl rfl rfl ?_
  refine s_con (p' := 3) rfl rfl ?_
  refine s_bip (p' := 5) rfl rfl ?_
  refine c_call (p' := 8) (kc := 98) (ls0 := [_, _, _]) rfl rfl rfl rfl rfl rfl rfl rfl rfl ?_
  refine s_ildn (p' := 1) rfl rfl rfl ?_
  refine s_ildn (p' := 2) rfl rfl rfl ?_
  refine s_icmp (p' := 5) false rfl (by decide +kernel) rfl ?_
  refine s_ildn (p' := 6) rfl rfl rfl ?_
  refine s_ildn (p' := 7) rfl rfl rfl ?_
  refine s_icmp (p' := 10) false rfl (by decide +kernel) rfl ?_
  refine s_con (p' := 11) rfl rfl ?_
  refine s_goto (p' := 15) rfl rfl ?_
  refine c_iret rfl (by decide +kernel) ?_
  refine s_if (p' := 11) false rfl (by decide +kernel) rfl ?_
  refine s_con (p' := 12) rfl rfl ?_
  refine s_goto (p' := 16) rfl rfl ?_
  refine c_call (p' := 19) (kc := 98) (ls0 := [_, _]) rfl rfl rfl rfl rfl (mj_rcv_is (rd_sn rfl H400)) rfl rfl rfl ?_
  refine s_aldn (p' := 1) rfl rfl rfl ?_
  refine s_ildn (p' := 2) rfl rfl rfl ?_
  refine s_pfz (p' := 5) (fs' := [_, _, _, _, _, _, _, _, _, _, _]) rfl rfl (rd_sn rfl H400) rfl rfl rfl rfl ?_
  refine s_ildn (p' := 6) rfl rfl rfl ?_
  refine s_if (p' := 13) true rfl (by decide +kernel) rfl ?_
  refine s_con (p' := 14) rfl rfl ?_
  refine c_iret rfl (by decide +kernel) ?_
  refine s_if (p' := 24) true rfl (by decide +kernel) rfl ?_
  refine s_ildn (p' := 25) rfl rfl rfl ?_
  refine s_istn (p' := 26) (ls' := [_, _, _, _]) rfl rfl rfl rfl ?_
  refine s_aldn (p' := 27) rfl rfl rfl ?_
  refine s_gf (p' := 30) rfl (rd_ss rfl (rd_sn rfl H400)) rfl rfl ?_
  refine c_call (p' := 35) (kc := 98) (ls0 := [_]) rfl rfl rfl rfl rfl (mj_rcv_is (rd_sn rfl (rd_sn rfl H410))) rfl rfl rfl ?_
  refine s_aldn (p' := 1) rfl rfl rfl ?_
  refine s_gf (p' := 4) rfl (rd_sn rfl (rd_sn rfl H410)) rfl rfl ?_
  refine c_iret rfl rfl ?_
  refine s_con (p' := 36) rfl rfl ?_
  refine s_bz (p' := 37) (z := (nI 4294967295)) rfl rfl rfl (by decide +kernel) ?_
  refine s_istn (p' := 38) (ls' := [_, _, _, _]) rfl rfl rfl rfl ?_
  refine s_ildn (p' := 39) rfl rfl rfl ?_
  refine s_if (p' := 69) true rfl (by decide +kernel) rfl ?_
  refine s_ildn (p' := 70) rfl rfl rfl ?_
  refine k_iret rfl rfl ?_
  refine l_ist (p' := 2023) (ls' := [_, _, _, _, _, _, _, _, _, _]) rfl rfl rfl rfl rfl ?_
  refine l_aldn (p' := 2024) rfl rfl rfl rfl ?_
  refine l_call (p' := 2027) (kc := 99) (ls0 := [_]) rfl rfl rfl rfl rfl rfl (mj_rcv_is (rd_ss rfl (rd_sn rfl H400))) rfl rfl rfl ?_
  refine s_aldn (p' := 1) rfl rfl rfl ?_
  refine s_gf (p' := 4) rfl (rd_ss rfl (rd_sn rfl H400)) rfl rfl ?_
  refine k_iret rfl rfl ?_
  refine l_ild (p' := 2029) rfl rfl rfl rfl ?_
  refine l_icmp (p' := 2034) true rfl rfl (by decide +kernel) rfl ?_
  refine l_ild (p' := 2036) rfl rfl rfl rfl ?_
  refine l_if (p' := 2039) false rfl rfl (by decide +kernel) rfl ?_
  refine l_aldn (p' := 2040) rfl rfl rfl rfl ?_
  refine l_con (p' := 2041) rfl rfl rfl ?_
  refine l_lalz (p' := 2042) (m := 0) (v := (lN 6)) rfl rfl (rd_sn rfl (rd_ss rfl H412)) (by decide +kernel) rfl (by decide +kernel) rfl ?_
  refine l_ild (p' := 2044) rfl rfl rfl rfl ?_
  refine l_bzL (p' := 2045) (z := (lN 6)) rfl rfl rfl rfl rfl (by decide +kernel) ?_
  refine l_bz (p' := 2046) (z := (nI 0)) rfl rfl rfl rfl rfl (by decide +kernel) ?_
  refine l_if (p' := 2051) true rfl rfl (by decide +kernel) rfl ?_
  refine l_goto (p' := 2541) rfl rfl rfl ?_
  refine l_incz (p' := 2544) (w := (nI 4)) (ls' := [_, _, _, _, _, _, _, _, _, _]) rfl rfl rfl rfl (by decide +kernel) rfl rfl ?_
  refine l_goto (p' := 28) rfl rfl rfl ?_
  refine l_ild (p' := 30) rfl rfl rfl rfl ?_
  refine l_alds (p' := 31) rfl rfl rfl rfl ?_
  refine l_lens (p' := 32) rfl rfl rfl ?_
  refine l_con (p' := 33) rfl rfl rfl ?_
  refine l_bz (p' := 34) (z := (nI 0)) rfl rfl rfl rfl rfl (by decide +kernel) ?_
  refine l_icmp (p' := 2547) true rfl rfl (by decide +kernel) rfl ?_
  refine l_con (p' := 2548) rfl rfl rfl ?_
  refine l_end rfl rfl ?_
  exact ⟨Nat.le_trans (Nat.le_of_eq (len_s (len_s HL))) (Nat.le_of_ble_eq_true rfl), Nat.le_trans (sz_s rfl (rd_sn rfl H400) rfl (sz_sA rfl H412 HZ)) (Nat.le_of_ble_eq_true rfl)⟩
theorem p1_33_7 {xs : Nat → Int32} {h : mj_H} (hk : xs 0 &&& nI 63 = nI 33) (hx1 : xs 1 = nI 7)  (HL : h.length = 414) (HZ : mj_sz h ≤ 20000) (H0 : mj_rd h 0 = some (.inr (0, [.ref 1, .ref 38, .ref 299, .ref 336, .ref 373, .ref 375, .ref 378, .ref 381, .ref 387, .ref 393, .null, .null, .ref 397, .ref 398, .ref 399, .long (lN 0), .long (lN 0)]))) (H393 : mj_rd h 393 = some (.inr (9, [.ref 394, .ref 395, .ref 396, .int (nI 0), .int (nI 0)]))) (H394 : mj_rd h 394 = some (.inl (0, (24, .inl (fun _ => 0))))) (H400 : mj_rd h 400 = some (.inr (17, [.int (nI 0), .ref 401, .ref 402, .ref 1000300, .long (lN 0), .long (lN 0), .ref 410, .null, .null, .null, .ref 411]))) (H410 : mj_rd h 410 = some (.inr (18, [.ref 1000000, .int (nI 0), .int (nI 0)]))) (H412 : mj_rd h 412 = some (.inl (4, (1, .inr (.inl (fun _ => 0)))))) : mj_fin 4 xs h := by
  unfold mj_fin
  refine l_ild (p' := 30) rfl rfl rfl rfl ?_
  refine l_alds (p' := 31) rfl rfl rfl rfl ?_
  refine l_lens (p' := 32) rfl rfl rfl ?_
  refine l_con (p' := 33) rfl rfl rfl ?_
  refine l_bz (p' := 34) (z := (nI 0)) rfl rfl rfl rfl rfl (by decide +kernel) ?_
  refine l_icmp (p' := 37) false rfl rfl (by decide +kernel) rfl ?_
  refine l_alds (p' := 38) rfl rfl rfl rfl ?_
  refine l_ild (p' := 40) rfl rfl rfl rfl ?_
  refine l_ialz (p' := 41) (m := 0) (z := (xs 0)) rfl rfl (by decide +kernel) rfl rfl rfl ?_
  refine l_bip (p' := 43) rfl rfl rfl ?_
  refine l_bz (p' := 44) (z := (nI 33)) rfl rfl rfl rfl rfl hk ?_
  refine l_sp (p' := 1998) (ls' := _) rfl rfl rfl rfl rfl ?_
  refine l_aldn (p' := 1999) rfl rfl rfl rfl ?_
  refine l_alds (p' := 2000) rfl rfl rfl rfl ?_
  refine l_ild (p' := 2002) rfl rfl rfl rfl ?_
  refine l_con (p' := 2003) rfl rfl rfl ?_
  refine l_bz (p' := 2004) (z := (nI 1)) rfl rfl rfl rfl rfl (by decide +kernel) ?_
  refine l_ialz (p' := 2005) (m := 1) (z := (nI 7)) rfl rfl (by decide +kernel) rfl hx1 rfl ?_
  refine l_aldn (p' := 2006) rfl rfl rfl rfl ?_
  refine l_call (p' := 2009) (kc := 99) (ls0 := [_, _, _, _]) rfl rfl rfl rfl rfl rfl rfl rfl rfl rfl ?_
  refine s_aldn (p' := 1) rfl rfl rfl ?_
  refine s_con (p' := 2) rfl rfl ?_
  refine s_aldn (p' := 3) rfl rfl rfl ?_
  refine s_ildn (p' := 4) rfl rfl rfl ?_
  refine c_call (p' := 7) (kc := 98) (ls0 := [_, _]) rfl rfl rfl rfl rfl (mj_rcv_is H0) rfl rfl rfl ?_
  refine s_ildn (p' := 1) rfl rfl rfl ?_
  refine c_call (p' := 4) (kc := 97) (ls0 := [_]) rfl rfl rfl rfl rfl rfl rfl rfl rfl ?_
  refine s_ildn (p' := 1) rfl rfl rfl ?_
  refine s_if (p' := 4) false rfl (by decide +kernel) rfl ?_
  refine s_ildn (p' := 5) rfl rfl rfl ?_
  refine s_bip (p' := 7) rfl rfl ?_
  refine s_icmp (p' := 10) false rfl (by decide +kernel) rfl ?_
  refine s_con (p' := 11) rfl rfl ?_
  refine s_goto (p' := 15) rfl rfl ?_
  refine c_iret rfl (by decide +kernel) ?_
  refine s_if (p' := 18) true rfl (by decide +kernel) rfl ?_
  refine s_aldn (p' := 19) rfl rfl rfl ?_
  refine s_gf (p' := 22) rfl H0 rfl rfl ?_
  refine s_ildn (p' := 23) rfl rfl rfl ?_
  refine c_call (p' := 26) (kc := 97) (ls0 := [_, _, _, _]) rfl rfl rfl rfl rfl (mj_rcv_is H393) rfl rfl rfl ?_
  refine s_ildn (p' := 1) rfl rfl rfl ?_
  refine s_istn (p' := 2) (ls' := [_, _, _, _]) rfl rfl rfl rfl ?_
  refine s_aldn (p' := 3) rfl rfl rfl ?_
  refine s_gf (p' := 6) rfl H393 rfl rfl ?_
  refine s_aldn (p' := 7) rfl rfl rfl ?_
  refine s_gf (p' := 10) rfl H393 rfl rfl ?_
  refine s_lenz (p' := 11) rfl (mj_rdA_is H394 (by decide)) rfl rfl ?_
  refine s_primV (p' := 14) (q := 5) rfl rfl rfl rfl rfl rfl (p_min (x := (nI 0)) (y := (nI 24)) (z := (nI 0)) (by decide +kernel)) rfl ?_
  refine s_con (p' := 15) rfl rfl ?_
  refine s_bz (p' := 16) (z := (nI 4294967295)) rfl rfl rfl (by decide +kernel) ?_
  refine s_istn (p' := 17) (ls' := [_, _, _, _]) rfl rfl rfl rfl ?_
  refine s_ildn (p' := 18) rfl rfl rfl ?_
  refine s_if (p' := 38) true rfl (by decide +kernel) rfl ?_
  refine s_ildn (p' := 39) rfl rfl rfl ?_
  refine c_iret rfl rfl ?_
  refine c_iret rfl rfl ?_
  refine s_bzL (p' := 8) (z := (lN 7)) rfl rfl rfl (by decide +kernel) ?_
  refine s_lasz (p' := 9) (m := 0) rfl rfl H412 (by decide +kernel) rfl rfl rfl ?_
  refine s_goto (p' := 15) rfl rfl ?_
  refine s_con (p' := 16) rfl rfl ?_
  refine k_iret rfl rfl ?_
  refine l_ist (p' := 2011) (ls' := [_, _, _, _, _, _, _, _, _, _]) rfl rfl rfl rfl rfl ?_
  refine l_aldn (p' := 2012) rfl rfl rfl rfl ?_
  refine l_alds (p' := 2013) rfl rfl rfl rfl ?_
  refine l_ild (p' := 2015) rfl rfl rfl rfl ?_
  refine l_con (p' := 2016) rfl rfl rfl ?_
  refine l_bz (p' := 2017) (z := (nI 1)) rfl rfl rfl rfl rfl (by decide +kernel) ?_
  refine l_ialz (p' := 2018) (m := 1) (z := (nI 7)) rfl rfl (by decide +kernel) rfl hx1 rfl ?_
  refine l_call (p' := 2021) (kc := 99) (ls0 := [_, _, _, _]) rfl rfl rfl rfl rfl rfl (mj_rcv_is (rd_sn rfl H400)) rfl rfl rfl ?_
  refine s_aldn (p' := 1) rfl rfl rfl ?_
  refine s_ildn (p' := 2) rfl rfl rfl ?_
  refine s_con (p' := 3) rfl rfl ?_
  refine s_bip (p' := 5) rfl rfl ?_
  refine c_call (p' := 8) (kc := 98) (ls0 := [_, _, _]) rfl rfl rfl rfl rfl rfl rfl rfl rfl ?_
  refine s_ildn (p' := 1) rfl rfl rfl ?_
  refine s_ildn (p' := 2) rfl rfl rfl ?_
  refine s_icmp (p' := 5) false rfl (by decide +kernel) rfl ?_
  refine s_ildn (p' := 6) rfl rfl rfl ?_
  refine s_ildn (p' := 7) rfl rfl rfl ?_
  refine s_icmp (p' := 10) false rfl (by decide +kernel) rfl ?_
  refine s_con (p' := 11) rfl rfl ?_
  refine s_goto (p' := 15) rfl rfl ?_
  refine c_iret rfl (by decide +kernel) ?_
  refine s_if (p' := 11) false rfl (by decide +kernel) rfl ?_
  refine s_con (p' := 12) rfl rfl ?_
  refine s_goto (p' := 16) rfl rfl ?_
  refine c_call (p' := 19) (kc := 98) (ls0 := [_, _]) rfl rfl rfl rfl rfl (mj_rcv_is (rd_sn rfl H400)) rfl rfl rfl ?_
  refine s_aldn (p' := 1) rfl rfl rfl ?_
  refine s_ildn (p' := 2) rfl rfl rfl ?_
  refine s_pfz (p' := 5) (fs' := [_, _, _, _, _, _, _, _, _, _, _]) rfl rfl (rd_sn rfl H400) rfl rfl rfl rfl ?_
  refine s_ildn (p' := 6) rfl rfl rfl ?_
  refine s_if (p' := 13) true rfl (by decide +kernel) rfl ?_
  refine s_con (p' := 14) rfl rfl ?_
  refine c_iret rfl (by decide +kernel) ?_
  refine s_if (p' := 24) true rfl (by decide +kernel) rfl ?_
  refine s_ildn (p' := 25) rfl rfl rfl ?_
  refine s_istn (p' := 26) (ls' := [_, _, _, _]) rfl rfl rfl rfl ?_
  refine s_aldn (p' := 27) rfl rfl rfl ?_
  refine s_gf (p' := 30) rfl (rd_ss rfl (rd_sn rfl H400)) rfl rfl ?_
  refine c_call (p' := 35) (kc := 98) (ls0 := [_]) rfl rfl rfl rfl rfl (mj_rcv_is (rd_sn rfl (rd_sn rfl H410))) rfl rfl rfl ?_
  refine s_aldn (p' := 1) rfl rfl rfl ?_
  refine s_gf (p' := 4) rfl (rd_sn rfl (rd_sn rfl H410)) rfl rfl ?_
  refine c_iret rfl rfl ?_
  refine s_con (p' := 36) rfl rfl ?_
  refine s_bz (p' := 37) (z := (nI 4294967295)) rfl rfl rfl (by decide +kernel) ?_
  refine s_istn (p' := 38) (ls' := [_, _, _, _]) rfl rfl rfl rfl ?_
  refine s_ildn (p' := 39) rfl rfl rfl ?_
  refine s_if (p' := 69) true rfl (by decide +kernel) rfl ?_
  refine s_ildn (p' := 70) rfl rfl rfl ?_
  refine k_iret rfl rfl ?_
  refine l_ist (p' := 2023) (ls' := [_, _, _, _, _, _, _, _, _, _]) rfl rfl rfl rfl rfl ?_
  refine l_aldn (p' := 2024) rfl rfl rfl rfl ?_
  refine l_call (p' := 2027) (kc := 99) (ls0 := [_]) rfl rfl rfl rfl rfl rfl (mj_rcv_is (rd_ss rfl (rd_sn rfl H400))) rfl rfl rfl ?_
  refine s_aldn (p' := 1) rfl rfl rfl ?_
  refine s_gf (p' := 4) rfl (rd_ss rfl (rd_sn rfl H400)) rfl rfl ?_
  refine k_iret rfl rfl ?_
  refine l_ild (p' := 2029) rfl rfl rfl rfl ?_
  refine l_icmp (p' := 2034) true rfl rfl (by decide +kernel) rfl ?_
  refine l_ild (p' := 2036) rfl rfl rfl rfl ?_
  refine l_if (p' := 2039) false rfl rfl (by decide +kernel) rfl ?_
  refine l_aldn (p' := 2040) rfl rfl rfl rfl ?_
  refine l_con (p' := 2041) rfl rfl rfl ?_
  refine l_lalz (p' := 2042) (m := 0) (v := (lN 7)) rfl rfl (rd_sn rfl (rd_ss rfl H412)) (by decide +kernel) rfl (by decide +kernel) rfl ?_
  refine l_ild (p' := 2044) rfl rfl rfl rfl ?_
  refine l_bzL (p' := 2045) (z := (lN 7)) rfl rfl rfl rfl rfl (by decide +kernel) ?_
  refine l_bz (p' := 2046) (z := (nI 0)) rfl rfl rfl rfl rfl (by decide +kernel) ?_
  refine l_if (p' := 2051) true rfl rfl (by decide +kernel) rfl ?_
  refine l_goto (p' := 2541) rfl rfl rfl ?_
  refine l_incz (p' := 2544) (w := (nI 4)) (ls' := [_, _, _, _, _, _, _, _, _, _]) rfl rfl rfl rfl (by decide +kernel) rfl rfl ?_
  refine l_goto (p' := 28) rfl rfl rfl ?_
  refine l_ild (p' := 30) rfl rfl rfl rfl ?_
  refine l_alds (p' := 31) rfl rfl rfl rfl ?_
  refine l_lens (p' := 32) rfl rfl rfl ?_
  refine l_con (p' := 33) rfl rfl rfl ?_
  refine l_bz (p' := 34) (z := (nI 0)) rfl rfl rfl rfl rfl (by decide +kernel) ?_
  refine l_icmp (p' := 2547) true rfl rfl (by decide +kernel) rfl ?_
  refine l_con (p' := 2548) rfl rfl rfl ?_
  refine l_end rfl rfl ?_
  exact ⟨Nat.le_trans (Nat.le_of_eq (len_s (len_s HL))) (Nat.le_of_ble_eq_true rfl), Nat.le_trans (sz_s rfl (rd_sn rfl H400) rfl (sz_sA rfl H412 HZ)) (Nat.le_of_ble_eq_true rfl)⟩
theorem p1_33_n {xs : Nat → Int32} {h : mj_H} (hk : xs 0 &&& nI 63 = nI 33) {p : Int32} (hx1 : xs 1 = p) (hp : p.toInt < 0) (HL : h.length = 414) (HZ : mj_sz h ≤ 20000) (H0 : mj_rd h 0 = some (.inr (0, [.ref 1, .ref 38, .ref 299, .ref 336, .ref 373, .ref 375, .ref 378, .ref 381, .ref 387, .ref 393, .null, .null, .ref 397, .ref 398, .ref 399, .long (lN 0), .long (lN 0)]))) (H400 : mj_rd h 400 = some (.inr (17, [.int (nI 0), .ref 401, .ref 402, .ref 1000300, .long (lN 0), .long (lN 0), .ref 410, .null, .null, .null, .ref 411]))) : mj_fin 4 xs h := by
  unfold mj_fin
  refine l_ild (p' := 30) rfl rfl rfl rfl ?_
  refine l_alds (p' := 31) rfl rfl rfl rfl ?_
  refine l_lens (p' := 32) rfl rfl rfl ?_
  refine l_con (p' := 33) rfl rfl rfl ?_
  refine l_bz (p' := 34) (z := (nI 0)) rfl rfl rfl rfl rfl (by decide +kernel) ?_
  refine l_icmp (p' := 37) false rfl rfl (by decide +kernel) rfl ?_
  refine l_alds (p' := 38) rfl rfl rfl rfl ?_
  refine l_ild (p' := 40) rfl rfl rfl rfl ?_
  refine l_ialz (p' := 41) (m := 0) (z := (xs 0)) rfl rfl (by decide +kernel) rfl rfl rfl ?_
  refine l_bip (p' := 43) rfl rfl rfl ?_
  refine l_bz (p' := 44) (z := (nI 33)) rfl rfl rfl rfl rfl hk ?_
  refine l_sp (p' := 1998) (ls' := _) rfl rfl rfl rfl rfl ?_
  refine l_aldn (p' := 1999) rfl rfl rfl rfl ?_
  refine l_alds (p' := 2000) rfl rfl rfl rfl ?_
  refine l_ild (p' := 2002) rfl rfl rfl rfl ?_
  refine l_con (p' := 2003) rfl rfl rfl ?_
  refine l_bz (p' := 2004) (z := (nI 1)) rfl rfl rfl rfl rfl (by decide +kernel) ?_
  refine l_ialz (p' := 2005) (m := 1) (z := p) rfl rfl (by decide +kernel) rfl hx1 rfl ?_
  refine l_aldn (p' := 2006) rfl rfl rfl rfl ?_
  refine l_call (p' := 2009) (kc := 99) (ls0 := [_, _, _, _]) rfl rfl rfl rfl rfl rfl rfl rfl rfl rfl ?_
  refine s_aldn (p' := 1) rfl rfl rfl ?_
  refine s_con (p' := 2) rfl rfl ?_
  refine s_aldn (p' := 3) rfl rfl rfl ?_
  refine s_ildn (p' := 4) rfl rfl rfl ?_
  refine c_call (p' := 7) (kc := 98) (ls0 := [_, _]) rfl rfl rfl rfl rfl (mj_rcv_is H0) rfl rfl rfl ?_
  refine s_ildn (p' := 1) rfl rfl rfl ?_
  refine c_call (p' := 4) (kc := 97) (ls0 := [_]) rfl rfl rfl rfl rfl rfl rfl rfl rfl ?_
  refine s_ildn (p' := 1) rfl rfl rfl ?_
  refine s_if (p' := 14) true rfl ((cg_lt (w := 0) (by decide +kernel)).trans (decide_eq_true (by omega))) rfl ?_
  refine s_con (p' := 15) rfl rfl ?_
  refine c_iret rfl (by decide +kernel) ?_
  refine s_if (p' := 7) false rfl (by decide +kernel) rfl ?_
  refine s_thrz (q := 414) rfl HL rfl ?_
  refine K_c (hp := 12) rfl (mj_ocl_is (rd_nw rfl HL)) rfl ?_
  refine s_astn (p' := 13) (ls' := [_, _, _, _]) rfl rfl rfl rfl ?_
  refine s_con (p' := 14) rfl rfl ?_
  refine k_iret rfl rfl ?_
  refine l_ist (p' := 2011) (ls' := [_, _, _, _, _, _, _, _, _, _]) rfl rfl rfl rfl rfl ?_
  refine l_aldn (p' := 2012) rfl rfl rfl rfl ?_
  refine l_alds (p' := 2013) rfl rfl rfl rfl ?_
  refine l_ild (p' := 2015) rfl rfl rfl rfl ?_
  refine l_con (p' := 2016) rfl rfl rfl ?_
  refine l_bz (p' := 2017) (z := (nI 1)) rfl rfl rfl rfl rfl (by decide +kernel) ?_
  refine l_ialz (p' := 2018) (m := 1) (z := p) rfl rfl (by decide +kernel) rfl hx1 rfl ?_
  refine l_call (p' := 2021) (kc := 99) (ls0 := [_, _, _, _]) rfl rfl rfl rfl rfl rfl (mj_rcv_is (rd_app H400)) rfl rfl rfl ?_
  refine s_aldn (p' := 1) rfl rfl rfl ?_
  refine s_ildn (p' := 2) rfl rfl rfl ?_
  refine s_con (p' := 3) rfl rfl ?_
  refine s_bip (p' := 5) rfl rfl ?_
  refine c_call (p' := 8) (kc := 98) (ls0 := [_, _, _]) rfl rfl rfl rfl rfl rfl rfl rfl rfl ?_
  refine s_ildn (p' := 1) rfl rfl rfl ?_
  refine s_ildn (p' := 2) rfl rfl rfl ?_
  refine s_icmp (p' := 14) true rfl ((ch_gt (w := 0) (by decide +kernel)).trans (decide_eq_true (by omega))) rfl ?_
  refine s_con (p' := 15) rfl rfl ?_
  refine c_iret rfl (by decide +kernel) ?_
  refine s_if (p' := 15) true rfl (by decide +kernel) rfl ?_
  refine s_con (p' := 16) rfl rfl ?_
  refine c_call (p' := 19) (kc := 98) (ls0 := [_, _]) rfl rfl rfl rfl rfl (mj_rcv_is (rd_app H400)) rfl rfl rfl ?_
  refine s_aldn (p' := 1) rfl rfl rfl ?_
  refine s_ildn (p' := 2) rfl rfl rfl ?_
  refine s_pfz (p' := 5) (fs' := [_, _, _, _, _, _, _, _, _, _, _]) rfl rfl (rd_app H400) rfl rfl rfl rfl ?_
  refine s_ildn (p' := 6) rfl rfl rfl ?_
  refine s_if (p' := 9) false rfl (by decide +kernel) rfl ?_
  refine s_con (p' := 10) rfl rfl ?_
  refine s_goto (p' := 14) rfl rfl ?_
  refine c_iret rfl (by decide +kernel) ?_
  refine s_if (p' := 22) false rfl (by decide +kernel) rfl ?_
  refine s_con (p' := 23) rfl rfl ?_
  refine k_iret rfl rfl ?_
  refine l_ist (p' := 2023) (ls' := [_, _, _, _, _, _, _, _, _, _]) rfl rfl rfl rfl rfl ?_
  refine l_aldn (p' := 2024) rfl rfl rfl rfl ?_
  refine l_call (p' := 2027) (kc := 99) (ls0 := [_]) rfl rfl rfl rfl rfl rfl (mj_rcv_is (rd_ss rfl (rd_app H400))) rfl rfl rfl ?_
  refine s_aldn (p' := 1) rfl rfl rfl ?_
  refine s_gf (p' := 4) rfl (rd_ss rfl (rd_app H400)) rfl rfl ?_
  refine k_iret rfl rfl ?_
  refine l_ild (p' := 2029) rfl rfl rfl rfl ?_
  refine l_icmp (p' := 2034) true rfl rfl (by decide +kernel) rfl ?_
  refine l_ild (p' := 2036) rfl rfl rfl rfl ?_
  refine l_if (p' := 2051) true rfl rfl (by decide +kernel) rfl ?_
  refine l_goto (p' := 2541) rfl rfl rfl ?_
  refine l_incz (p' := 2544) (w := (nI 4)) (ls' := [_, _, _, _, _, _, _, _, _, _]) rfl rfl rfl rfl (by decide +kernel) rfl rfl ?_
  refine l_goto (p' := 28) rfl rfl rfl ?_
  refine l_ild (p' := 30) rfl rfl rfl rfl ?_
  refine l_alds (p' := 31) rfl rfl rfl rfl ?_
  refine l_lens (p' := 32) rfl rfl rfl ?_
  refine l_con (p' := 33) rfl rfl rfl ?_
  refine l_bz (p' := 34) (z := (nI 0)) rfl rfl rfl rfl rfl (by decide +kernel) ?_
  refine l_icmp (p' := 2547) true rfl rfl (by decide +kernel) rfl ?_
  refine l_con (p' := 2548) rfl rfl rfl ?_
  refine l_end rfl rfl ?_
  exact ⟨Nat.le_trans (Nat.le_of_eq (len_s (len_a HL rfl))) (Nat.le_of_ble_eq_true rfl), Nat.le_trans (sz_s rfl (rd_app H400) rfl (sz_aa (k := 6) (m := 20006) rfl rfl HZ)) (Nat.le_of_ble_eq_true rfl)⟩
theorem p1_33_m {xs : Nat → Int32} {h : mj_H} (hk : xs 0 &&& nI 63 = nI 33) {p : Int32} (hx1 : xs 1 = p) (hp : 7 < p.toInt) (HL : h.length = 414) (HZ : mj_sz h ≤ 20000) (H0 : mj_rd h 0 = some (.inr (0, [.ref 1, .ref 38, .ref 299, .ref 336, .ref 373, .ref 375, .ref 378, .ref 381, .ref 387, .ref 393, .null, .null, .ref 397, .ref 398, .ref 399, .long (lN 0), .long (lN 0)]))) (H400 : mj_rd h 400 = some (.inr (17, [.int (nI 0), .ref 401, .ref 402, .ref 1000300, .long (lN 0), .long (lN 0), .ref 410, .null, .null, .null, .ref 411]))) : mj_fin 4 xs h := by
  unfold mj_fin
  refine l_ild (p' := 30) rfl rfl rfl rfl ?_
  refine l_alds (p' := 31) rfl rfl rfl rfl ?_
  refine l_lens (p' := 32) rfl rfl rfl ?_
  refine l_con (p' := 33) rfl rfl rfl ?_
  refine l_bz (p' := 34) (z := (nI 0)) rfl rfl rfl rfl rfl (by decide +kernel) ?_
  refine l_icmp (p' := 37) false rfl rfl (by decide +kernel) rfl ?_
  refine l_alds (p' := 38) rfl rfl rfl rfl ?_
  refine l_ild (p' := 40) rfl rfl rfl rfl ?_
  refine l_ialz (p' := 41) (m := 0) (z := (xs 0)) rfl rfl (by decide +kernel) rfl rfl rfl ?_
  refine l_bip (p' := 43) rfl rfl rfl ?_
  refine l_bz (p' := 44) (z := (nI 33)) rfl rfl rfl rfl rfl hk ?_
  refine l_sp (p' := 1998) (ls' := _) rfl rfl rfl rfl rfl ?_
  refine l_aldn (p' := 1999) rfl rfl rfl rfl ?_
  refine l_alds (p' := 2000) rfl rfl rfl rfl ?_
  refine l_ild (p' := 2002) rfl rfl rfl rfl ?_
  refine l_con (p' := 2003) rfl rfl rfl ?_
  refine l_bz (p' := 2004) (z := (nI 1)) rfl rfl rfl rfl rfl (by decide +kernel) ?_
  refine l_ialz (p' := 2005) (m := 1) (z := p) rfl rfl (by decide +kernel) rfl hx1 rfl ?_
  refine l_aldn (p' := 2006) rfl rfl rfl rfl ?_
  refine l_call (p' := 2009) (kc := 99) (ls0 := [_, _, _, _]) rfl rfl rfl rfl rfl rfl rfl rfl rfl rfl ?_
  refine s_aldn (p' := 1) rfl rfl rfl ?_
  refine s_con (p' := 2) rfl rfl ?_
  refine s_aldn (p' := 3) rfl rfl rfl ?_
  refine s_ildn (p' := 4) rfl rfl rfl ?_
  refine c_call (p' := 7) (kc := 98) (ls0 := [_, _]) rfl rfl rfl rfl rfl (mj_rcv_is H0) rfl rfl rfl ?_
  refine s_ildn (p' := 1) rfl rfl rfl ?_
  refine c_call (p' := 4) (kc := 97) (ls0 := [_]) rfl rfl rfl rfl rfl rfl rfl rfl rfl ?_
  refine s_ildn (p' := 1) rfl rfl rfl ?_
  refine s_if (p' := 4) false rfl ((cg_lt (w := 0) (by decide +kernel)).trans (decide_eq_false (by omega))) rfl ?_
  refine s_ildn (p' := 5) rfl rfl rfl ?_
  refine s_bip (p' := 7) rfl rfl ?_
  refine s_icmp (p' := 14) true rfl ((cg_ge (w := 8) (by decide +kernel)).trans (decide_eq_true (by omega))) rfl ?_
  refine s_con (p' := 15) rfl rfl ?_
  refine c_iret rfl (by decide +kernel) ?_
  refine s_if (p' := 7) false rfl (by decide +kernel) rfl ?_
  refine s_thrz (q := 414) rfl HL rfl ?_
  refine K_c (hp := 12) rfl (mj_ocl_is (rd_nw rfl HL)) rfl ?_
  refine s_astn (p' := 13) (ls' := [_, _, _, _]) rfl rfl rfl rfl ?_
  refine s_con (p' := 14) rfl rfl ?_
  refine k_iret rfl rfl ?_
  refine l_ist (p' := 2011) (ls' := [_, _, _, _, _, _, _, _, _, _]) rfl rfl rfl rfl rfl ?_
  refine l_aldn (p' := 2012) rfl rfl rfl rfl ?_
  refine l_alds (p' := 2013) rfl rfl rfl rfl ?_
  refine l_ild (p' := 2015) rfl rfl rfl rfl ?_
  refine l_con (p' := 2016) rfl rfl rfl ?_
  refine l_bz (p' := 2017) (z := (nI 1)) rfl rfl rfl rfl rfl (by decide +kernel) ?_
  refine l_ialz (p' := 2018) (m := 1) (z := p) rfl rfl (by decide +kernel) rfl hx1 rfl ?_
  refine l_call (p' := 2021) (kc := 99) (ls0 := [_, _, _, _]) rfl rfl rfl rfl rfl rfl (mj_rcv_is (rd_app H400)) rfl rfl rfl ?_
  refine s_aldn (p' := 1) rfl rfl rfl ?_
  refine s_ildn (p' := 2) rfl rfl rfl ?_
  refine s_con (p' := 3) rfl rfl ?_
  refine s_bip (p' := 5) rfl rfl ?_
  refine c_call (p' := 8) (kc := 98) (ls0 := [_, _, _]) rfl rfl rfl rfl rfl rfl rfl rfl rfl ?_
  refine s_ildn (p' := 1) rfl rfl rfl ?_
  refine s_ildn (p' := 2) rfl rfl rfl ?_
  refine s_icmp (p' := 5) false rfl ((ch_gt (w := 0) (by decide +kernel)).trans (decide_eq_false (by omega))) rfl ?_
  refine s_ildn (p' := 6) rfl rfl rfl ?_
  refine s_ildn (p' := 7) rfl rfl rfl ?_
  refine s_icmp (p' := 14) true rfl ((cg_gt (w := 7) (by decide +kernel)).trans (decide_eq_true (by omega))) rfl ?_
  refine s_con (p' := 15) rfl rfl ?_
  refine c_iret rfl (by decide +kernel) ?_
  refine s_if (p' := 15) true rfl (by decide +kernel) rfl ?_
  refine s_con (p' := 16) rfl rfl ?_
  refine c_call (p' := 19) (kc := 98) (ls0 := [_, _]) rfl rfl rfl rfl rfl (mj_rcv_is (rd_app H400)) rfl rfl rfl ?_
  refine s_aldn (p' := 1) rfl rfl rfl ?_
  refine s_ildn (p' := 2) rfl rfl rfl ?_
  refine s_pfz (p' := 5) (fs' := [_, _, _, _, _, _, _, _, _, _, _]) rfl rfl (rd_app H400) rfl rfl rfl rfl ?_
  refine s_ildn (p' := 6) rfl rfl rfl ?_
  refine s_if (p' := 9) false rfl (by decide +kernel) rfl ?_
  refine s_con (p' := 10) rfl rfl ?_
  refine s_goto (p' := 14) rfl rfl ?_
  refine c_iret rfl (by decide +kernel) ?_
  refine s_if (p' := 22) false rfl (by decide +kernel) rfl ?_
  refine s_con (p' := 23) rfl rfl ?_
  refine k_iret rfl rfl ?_
  refine l_ist (p' := 2023) (ls' := [_, _, _, _, _, _, _, _, _, _]) rfl rfl rfl rfl rfl ?_
  refine l_aldn (p' := 2024) rfl rfl rfl rfl ?_
  refine l_call (p' := 2027) (kc := 99) (ls0 := [_]) rfl rfl rfl rfl rfl rfl (mj_rcv_is (rd_ss rfl (rd_app H400))) rfl rfl rfl ?_
  refine s_aldn (p' := 1) rfl rfl rfl ?_
  refine s_gf (p' := 4) rfl (rd_ss rfl (rd_app H400)) rfl rfl ?_
  refine k_iret rfl rfl ?_
  refine l_ild (p' := 2029) rfl rfl rfl rfl ?_
  refine l_icmp (p' := 2034) true rfl rfl (by decide +kernel) rfl ?_
  refine l_ild (p' := 2036) rfl rfl rfl rfl ?_
  refine l_if (p' := 2051) true rfl rfl (by decide +kernel) rfl ?_
  refine l_goto (p' := 2541) rfl rfl rfl ?_
  refine l_incz (p' := 2544) (w := (nI 4)) (ls' := [_, _, _, _, _, _, _, _, _, _]) rfl rfl rfl rfl (by decide +kernel) rfl rfl ?_
  refine l_goto (p' := 28) rfl rfl rfl ?_
  refine l_ild (p' := 30) rfl rfl rfl rfl ?_
  refine l_alds (p' := 31) rfl rfl rfl rfl ?_
  refine l_lens (p' := 32) rfl rfl rfl ?_
  refine l_con (p' := 33) rfl rfl rfl ?_
  refine l_bz (p' := 34) (z := (nI 0)) rfl rfl rfl rfl rfl (by decide +kernel) ?_
  refine l_icmp (p' := 2547) true rfl rfl (by decide +kernel) rfl ?_
  refine l_con (p' := 2548) rfl rfl rfl ?_
  refine l_end rfl rfl ?_
  exact ⟨Nat.le_trans (Nat.le_of_eq (len_s (len_a HL rfl))) (Nat.le_of_ble_eq_true rfl), Nat.le_trans (sz_s rfl (rd_app H400) rfl (sz_aa (k := 6) (m := 20006) rfl rfl HZ)) (Nat.le_of_ble_eq_true rfl)⟩
theorem p1_41_0 {xs : Nat → Int32} {h : mj_H} (hk : xs 0 &&& nI 63 = nI 41) (hx1 : xs 1 = nI 0) {q : Int32} (hx2 : xs 2 = q) (hq : 0 ≤ q.toInt ∧ q.toInt ≤ 7) (HL : h.length = 414) (HZ : mj_sz h ≤ 20000) (H0 : mj_rd h 0 = some (.inr (0, [.ref 1, .ref 38, .ref 299, .ref 336, .ref 373, .ref 375, .ref 378, .ref 381, .ref 387, .ref 393, .null, .null, .ref 397, .ref 398, .ref 399, .long (lN 0), .long (lN 0)]))) (H397 : mj_rd h 397 = some (.inl (0, (8, .inl (fun _ => 0))))) (H400 : mj_rd h 400 = some (.inr (17, [.int (nI 0), .ref 401, .ref 402, .ref 1000300, .long (lN 0), .long (lN 0), .ref 410, .null, .null, .null, .ref 411]))) (H411 : mj_rd h 411 = some (.inl (0, (8, .inl (fun _ => 0))))) (H412 : mj_rd h 412 = some (.inl (4, (1, .inr (.inl (fun _ => 0)))))) : mj_fin 4 xs h := by
  unfold mj_fin
  refine l_ild (p' := 30) rfl rfl rfl rfl ?_
  refine l_alds (p' := 31) rfl rfl rfl rfl ?_
  refine l_lens (p' := 32) rfl rfl rfl ?_
  refine l_con (p' := 33) rfl rfl rfl ?_
  refine l_bz (p' := 34) (z := (nI 0)) rfl rfl rfl rfl rfl (by decide +kernel) ?_
  refine l_icmp (p' := 37) false rfl rfl (by decide +kernel) rfl ?_
  refine l_alds (p' := 38) rfl rfl rfl rfl ?_
  refine l_ild (p' := 40) rfl rfl rfl rfl ?_
  refine l_ialz (p' := 41) (m := 0) (z := (xs 0)) rfl rfl (by decide +kernel) rfl rfl rfl ?_
  refine l_bip (p' := 43) rfl rfl rfl ?_
  refine l_bz (p' := 44) (z := (nI 41)) rfl rfl rfl rfl rfl hk ?_
  refine l_sp (p' := 2188) (ls' := _) rfl rfl rfl rfl rfl ?_
  refine l_aldn (p' := 2189) rfl rfl rfl rfl ?_
  refine l_alds (p' := 2190) rfl rfl rfl rfl ?_
  refine l_ild (p' := 2192) rfl rfl rfl rfl ?_
  refine l_con (p' := 2193) rfl rfl rfl ?_
  refine l_bz (p' := 2194) (z := (nI 1)) rfl rfl rfl rfl rfl (by decide +kernel) ?_
  refine l_ialz (p' := 2195) (m := 1) (z := (nI 0)) rfl rfl (by decide +kernel) rfl hx1 rfl ?_
  refine l_alds (p' := 2196) rfl rfl rfl rfl ?_
  refine l_ild (p' := 2198) rfl rfl rfl rfl ?_
  refine l_con (p' := 2199) rfl rfl rfl ?_
  refine l_bz (p' := 2200) (z := (nI 2)) rfl rfl rfl rfl rfl (by decide +kernel) ?_
  refine l_ialz (p' := 2201) (m := 2) (z := q) rfl rfl (by decide +kernel) rfl hx2 rfl ?_
  refine l_aldn (p' := 2202) rfl rfl rfl rfl ?_
  refine l_call (p' := 2205) (kc := 99) (ls0 := [_, _, _, _, _]) rfl rfl rfl rfl rfl rfl rfl rfl rfl rfl ?_
  refine s_aldn (p' := 1) rfl rfl rfl ?_
  refine s_con (p' := 2) rfl rfl ?_
  refine s_aldn (p' := 3) rfl rfl rfl ?_
  refine s_ildn (p' := 4) rfl rfl rfl ?_
  refine s_ildn (p' := 5) rfl rfl rfl ?_
  refine c_call (p' := 8) (kc := 98) (ls0 := [_, _, _, _]) rfl rfl rfl rfl rfl (mj_rcv_is H0) rfl rfl rfl ?_
  refine s_ildn (p' := 1) rfl rfl rfl ?_
  refine c_call (p' := 4) (kc := 97) (ls0 := [_]) rfl rfl rfl rfl rfl rfl rfl rfl rfl ?_
  refine s_ildn (p' := 1) rfl rfl rfl ?_
  refine s_if (p' := 4) false rfl (by decide +kernel) rfl ?_
  refine s_ildn (p' := 5) rfl rfl rfl ?_
  refine s_bip (p' := 7) rfl rfl ?_
  refine s_icmp (p' := 10) false rfl (by decide +kernel) rfl ?_
  refine s_con (p' := 11) rfl rfl ?_
  refine s_goto (p' := 15) rfl rfl ?_
  refine c_iret rfl (by decide +kernel) ?_
  refine s_if (p' := 7) false rfl (by decide +kernel) rfl ?_
  refine s_ildn (p' := 8) rfl rfl rfl ?_
  refine c_call (p' := 11) (kc := 97) (ls0 := [_]) rfl rfl rfl rfl rfl rfl rfl rfl rfl ?_
  refine s_ildn (p' := 1) rfl rfl rfl ?_
  refine s_if (p' := 4) false rfl ((cg_lt (w := 0) (by decide +kernel)).trans (decide_eq_false (by omega))) rfl ?_
  refine s_ildn (p' := 5) rfl rfl rfl ?_
  refine s_bip (p' := 7) rfl rfl ?_
  refine s_icmp (p' := 10) false rfl ((cg_ge (w := 8) (by decide +kernel)).trans (decide_eq_false (by omega))) rfl ?_
  refine s_con (p' := 11) rfl rfl ?_
  refine s_goto (p' := 15) rfl rfl ?_
  refine c_iret rfl (by decide +kernel) ?_
  refine s_if (p' := 25) true rfl (by decide +kernel) rfl ?_
  refine s_aldn (p' := 26) rfl rfl rfl ?_
  refine s_gf (p' := 29) rfl H0 rfl rfl ?_
  refine s_ildn (p' := 30) rfl rfl rfl ?_
  refine s_ialz (p' := 31) (m := 0) (v := (nI 0)) rfl H397 (by decide +kernel) rfl (by decide +kernel) rfl ?_
  refine s_istn (p' := 32) (ls' := [_, _, _, _]) rfl rfl rfl rfl ?_
  refine s_aldn (p' := 33) rfl rfl rfl ?_
  refine s_gf (p' := 36) rfl H0 rfl rfl ?_
  refine s_ildn (p' := 37) rfl rfl rfl ?_
  refine s_ildn (p' := 38) rfl rfl rfl ?_
  refine s_iasz (p' := 39) (m := 0) rfl rfl H397 (by decide +kernel) rfl rfl rfl ?_
  refine s_ildn (p' := 40) rfl rfl rfl ?_
  refine c_iret rfl rfl ?_
  refine s_bzL (p' := 9) (z := (lN 0)) rfl rfl rfl (by decide +kernel) ?_
  refine s_lasz (p' := 10) (m := 0) rfl rfl (rd_sn rfl H412) (by decide +kernel) rfl rfl rfl ?_
  refine s_goto (p' := 17) rfl rfl ?_
  refine s_con (p' := 18) rfl rfl ?_
  refine k_iret rfl rfl ?_
  refine l_ist (p' := 2207) (ls' := [_, _, _, _, _, _, _, _, _, _]) rfl rfl rfl rfl rfl ?_
  refine l_aldn (p' := 2208) rfl rfl rfl rfl ?_
  refine l_alds (p' := 2209) rfl rfl rfl rfl ?_
  refine l_ild (p' := 2211) rfl rfl rfl rfl ?_
  refine l_con (p' := 2212) rfl rfl rfl ?_
  refine l_bz (p' := 2213) (z := (nI 1)) rfl rfl rfl rfl rfl (by decide +kernel) ?_
  refine l_ialz (p' := 2214) (m := 1) (z := (nI 0)) rfl rfl (by decide +kernel) rfl hx1 rfl ?_
  refine l_alds (p' := 2215) rfl rfl rfl rfl ?_
  refine l_ild (p' := 2217) rfl rfl rfl rfl ?_
  refine l_con (p' := 2218) rfl rfl rfl ?_
  refine l_bz (p' := 2219) (z := (nI 2)) rfl rfl rfl rfl rfl (by decide +kernel) ?_
  refine l_ialz (p' := 2220) (m := 2) (z := q) rfl rfl (by decide +kernel) rfl hx2 rfl ?_
  refine l_call (p' := 2223) (kc := 99) (ls0 := [_, _, _, _]) rfl rfl rfl rfl rfl rfl (mj_rcv_is (rd_sn rfl (rd_sn rfl H400))) rfl rfl rfl ?_
  refine s_aldn (p' := 1) rfl rfl rfl ?_
  refine s_ildn (p' := 2) rfl rfl rfl ?_
  refine s_con (p' := 3) rfl rfl ?_
  refine s_bip (p' := 5) rfl rfl ?_
  refine c_call (p' := 8) (kc := 98) (ls0 := [_, _, _]) rfl rfl rfl rfl rfl rfl rfl rfl rfl ?_
  refine s_ildn (p' := 1) rfl rfl rfl ?_
  refine s_ildn (p' := 2) rfl rfl rfl ?_
  refine s_icmp (p' := 5) false rfl (by decide +kernel) rfl ?_
  refine s_ildn (p' := 6) rfl rfl rfl ?_
  refine s_ildn (p' := 7) rfl rfl rfl ?_
  refine s_icmp (p' := 10) false rfl (by decide +kernel) rfl ?_
  refine s_con (p' := 11) rfl rfl ?_
  refine s_goto (p' := 15) rfl rfl ?_
  refine c_iret rfl (by decide +kernel) ?_
  refine s_if (p' := 11) false rfl (by decide +kernel) rfl ?_
  refine s_ildn (p' := 12) rfl rfl rfl ?_
  refine s_con (p' := 13) rfl rfl ?_
  refine s_bip (p' := 15) rfl rfl ?_
  refine c_call (p' := 18) (kc := 98) (ls0 := [_, _, _]) rfl rfl rfl rfl rfl rfl rfl rfl rfl ?_
  refine s_ildn (p' := 1) rfl rfl rfl ?_
  refine s_ildn (p' := 2) rfl rfl rfl ?_
  refine s_icmp (p' := 5) false rfl ((ch_gt (w := 0) (by decide +kernel)).trans (decide_eq_false (by omega))) rfl ?_
  refine s_ildn (p' := 6) rfl rfl rfl ?_
  refine s_ildn (p' := 7) rfl rfl rfl ?_
  refine s_icmp (p' := 10) false rfl ((cg_gt (w := 7) (by decide +kernel)).trans (decide_eq_false (by omega))) rfl ?_
  refine s_con (p' := 11) rfl rfl ?_
  refine s_goto (p' := 15) rfl rfl ?_
  refine c_iret rfl (by decide +kernel) ?_
  refine s_if (p' := 21) false rfl (by decide +kernel) rfl ?_
  refine s_con (p' := 22) rfl rfl ?_
  refine s_goto (p' := 26) rfl rfl ?_
  refine c_call (p' := 29) (kc := 98) (ls0 := [_, _]) rfl rfl rfl rfl rfl (mj_rcv_is (rd_sn rfl (rd_sn rfl H400))) rfl rfl rfl ?_
  refine s_aldn (p' := 1) rfl rfl rfl ?_
  refine s_ildn (p' := 2) rfl rfl rfl ?_
  refine s_pfz (p' := 5) (fs' := [_, _, _, _, _, _, _, _, _, _, _]) rfl rfl (rd_sn rfl (rd_sn rfl H400)) rfl rfl rfl rfl ?_
  refine s_ildn (p' := 6) rfl rfl rfl ?_
  refine s_if (p' := 13) true rfl (by decide +kernel) rfl ?_
  refine s_con (p' := 14) rfl rfl ?_
  refine c_iret rfl (by decide +kernel) ?_
  refine s_if (p' := 34) true rfl (by decide +kernel) rfl ?_
  refine s_aldn (p' := 35) rfl rfl rfl ?_
  refine s_gf (p' := 38) rfl (rd_ss rfl (rd_sn rfl (rd_sn rfl H400))) rfl rfl ?_
  refine s_ildn (p' := 39) rfl rfl rfl ?_
  refine s_ialz (p' := 40) (m := 0) (v := (nI 0)) rfl (rd_sn rfl (rd_sn rfl (rd_sn rfl H411))) (by decide +kernel) rfl (by decide +kernel) rfl ?_
  refine s_istn (p' := 41) (ls' := [_, _, _, _]) rfl rfl rfl rfl ?_
  refine s_aldn (p' := 42) rfl rfl rfl ?_
  refine s_gf (p' := 45) rfl (rd_ss rfl (rd_sn rfl (rd_sn rfl H400))) rfl rfl ?_
  refine s_ildn (p' := 46) rfl rfl rfl ?_
  refine s_ildn (p' := 47) rfl rfl rfl ?_
  refine s_iasz (p' := 48) (m := 0) rfl rfl (rd_sn rfl (rd_sn rfl (rd_sn rfl H411))) (by decide +kernel) rfl rfl rfl ?_
  refine s_ildn (p' := 49) rfl rfl rfl ?_
  refine k_iret rfl rfl ?_
  refine l_ist (p' := 2225) (ls' := [_, _, _, _, _, _, _, _, _, _]) rfl rfl rfl rfl rfl ?_
  refine l_aldn (p' := 2226) rfl rfl rfl rfl ?_
  refine l_call (p' := 2229) (kc := 99) (ls0 := [_]) rfl rfl rfl rfl rfl rfl (mj_rcv_is (rd_sn rfl (rd_ss rfl (rd_sn rfl (rd_sn rfl H400))))) rfl rfl rfl ?_
  refine s_aldn (p' := 1) rfl rfl rfl ?_
  refine s_gf (p' := 4) rfl (rd_sn rfl (rd_ss rfl (rd_sn rfl (rd_sn rfl H400)))) rfl rfl ?_
  refine k_iret rfl rfl ?_
  refine l_ild (p' := 2231) rfl rfl rfl rfl ?_
  refine l_icmp (p' := 2236) true rfl rfl (by decide +kernel) rfl ?_
  refine l_ild (p' := 2238) rfl rfl rfl rfl ?_
  refine l_if (p' := 2241) false rfl rfl (by decide +kernel) rfl ?_
  refine l_aldn (p' := 2242) rfl rfl rfl rfl ?_
  refine l_con (p' := 2243) rfl rfl rfl ?_
  refine l_lalz (p' := 2244) (m := 0) (v := (lN 0)) rfl rfl (rd_sn rfl (rd_sn rfl (rd_ss rfl (rd_sn rfl H412)))) (by decide +kernel) rfl (by decide +kernel) rfl ?_
  refine l_ild (p' := 2246) rfl rfl rfl rfl ?_
  refine l_bzL (p' := 2247) (z := (lN 0)) rfl rfl rfl rfl rfl (by decide +kernel) ?_
  refine l_bz (p' := 2248) (z := (nI 0)) rfl rfl rfl rfl rfl (by decide +kernel) ?_
  refine l_if (p' := 2253) true rfl rfl (by decide +kernel) rfl ?_
  refine l_goto (p' := 2541) rfl rfl rfl ?_
  refine l_incz (p' := 2544) (w := (nI 4)) (ls' := [_, _, _, _, _, _, _, _, _, _]) rfl rfl rfl rfl (by decide +kernel) rfl rfl ?_
  refine l_goto (p' := 28) rfl rfl rfl ?_
  refine l_ild (p' := 30) rfl rfl rfl rfl ?_
  refine l_alds (p' := 31) rfl rfl rfl rfl ?_
  refine l_lens (p' := 32) rfl rfl rfl ?_
  refine l_con (p' := 33) rfl rfl rfl ?_
  refine l_bz (p' := 34) (z := (nI 0)) rfl rfl rfl rfl rfl (by decide +kernel) ?_
  refine l_icmp (p' := 2547) true rfl rfl (by decide +kernel) rfl ?_
  refine l_con (p' := 2548) rfl rfl rfl ?_
  refine l_end rfl rfl ?_
  exact ⟨Nat.le_trans (Nat.le_of_eq (len_s (len_s (len_s (len_s HL))))) (Nat.le_of_ble_eq_true rfl), Nat.le_trans (sz_sA rfl (rd_sn rfl (rd_sn rfl (rd_sn rfl H411))) (sz_s rfl (rd_sn rfl (rd_sn rfl H400)) rfl (sz_sA rfl (rd_sn rfl H412) (sz_sA rfl H397 HZ)))) (Nat.le_of_ble_eq_true rfl)⟩
theorem p1_41_0n {xs : Nat → Int32} {h : mj_H} (hk : xs 0 &&& nI 63 = nI 41) (hx1 : xs 1 = nI 0) {q : Int32} (hx2 : xs 2 = q) (hq : q.toInt < 0) (HL : h.length = 414) (HZ : mj_sz h ≤ 20000) (H0 : mj_rd h 0 = some (.inr (0, [.ref 1, .ref 38, .ref 299, .ref 336, .ref 373, .ref 375, .ref 378, .ref 381, .ref 387, .ref 393, .null, .null, .ref 397, .ref 398, .ref 399, .long (lN 0), .long (lN 0)]))) (H400 : mj_rd h 400 = some (.inr (17, [.int (nI 0), .ref 401, .ref 402, .ref 1000300, .long (lN 0), .long (lN 0), .ref 410, .null, .null, .null, .ref 411]))) : mj_fin 4 xs h := by
  unfold mj_fin
  refine l_ild (p' := 30) rfl rfl rfl rfl ?_
  refine l_alds (p' := 31) rfl rfl rfl rfl ?_
  refine l_lens (p' := 32) rfl rfl rfl ?_
  refine l_con (p' := 33) rfl rfl rfl ?_
  refine l_bz (p' := 34) (z := (nI 0)) rfl rfl rfl rfl rfl (by decide +kernel) ?_
  refine l_icmp (p' := 37) false rfl rfl (by decide +kernel) rfl ?_
  refine l_alds (p' := 38) rfl rfl rfl rfl ?_
  refine l_ild (p' := 40) rfl rfl rfl rfl ?_
  refine l_ialz (p' := 41) (m := 0) (z := (xs 0)) rfl rfl (by decide +kernel) rfl rfl rfl ?_
  refine l_bip (p' := 43) rfl rfl rfl ?_
  refine l_bz (p' := 44) (z := (nI 41)) rfl rfl rfl rfl rfl hk ?_
  refine l_sp (p' := 2188) (ls' := _) rfl rfl rfl rfl rfl ?_
  refine l_aldn (p' := 2189) rfl rfl rfl rfl ?_
  refine l_alds (p' := 2190) rfl rfl rfl rfl ?_
  refine l_ild (p' := 2192) rfl rfl rfl rfl ?_
  refine l_con (p' := 2193) rfl rfl rfl ?_
  refine l_bz (p' := 2194) (z := (nI 1)) rfl rfl rfl rfl rfl (by decide +kernel) ?_
  refine l_ialz (p' := 2195) (m := 1) (z := (nI 0)) rfl rfl (by decide +kernel) rfl hx1 rfl ?_
  refine l_alds (p' := 2196) rfl rfl rfl rfl ?_
  refine l_ild (p' := 2198) rfl rfl rfl rfl ?_
  refine l_con (p' := 2199) rfl rfl rfl ?_
  refine l_bz (p' := 2200) (z := (nI 2)) rfl rfl rfl rfl rfl (by decide +kernel) ?_
  refine l_ialz (p' := 2201) (m := 2) (z := q) rfl rfl (by decide +kernel) rfl hx2 rfl ?_
  refine l_aldn (p' := 2202) rfl rfl rfl rfl ?_
  refine l_call (p' := 2205) (kc := 99) (ls0 := [_, _, _, _, _]) rfl rfl rfl rfl rfl rfl rfl rfl rfl rfl ?_
  refine s_aldn (p' := 1) rfl rfl rfl ?_
  refine s_con (p' := 2) rfl rfl ?_
  refine s_aldn (p' := 3) rfl rfl rfl ?_
  refine s_ildn (p' := 4) rfl rfl rfl ?_
  refine s_ildn (p' := 5) rfl rfl rfl ?_
  refine c_call (p' := 8) (kc := 98) (ls0 := [_, _, _, _]) rfl rfl rfl rfl rfl (mj_rcv_is H0) rfl rfl rfl ?_
  refine s_ildn (p' := 1) rfl rfl rfl ?_
  refine c_call (p' := 4) (kc := 97) (ls0 := [_]) rfl rfl rfl rfl rfl rfl rfl rfl rfl ?_
  refine s_ildn (p' := 1) rfl rfl rfl ?_
  refine s_if (p' := 4) false rfl (by decide +kernel) rfl ?_
  refine s_ildn (p' := 5) rfl rfl rfl ?_
  refine s_bip (p' := 7) rfl rfl ?_
  refine s_icmp (p' := 10) false rfl (by decide +kernel) rfl ?_
  refine s_con (p' := 11) rfl rfl ?_
  refine s_goto (p' := 15) rfl rfl ?_
  refine c_iret rfl (by decide +kernel) ?_
  refine s_if (p' := 7) false rfl (by decide +kernel) rfl ?_
  refine s_ildn (p' := 8) rfl rfl rfl ?_
  refine c_call (p' := 11) (kc := 97) (ls0 := [_]) rfl rfl rfl rfl rfl rfl rfl rfl rfl ?_
  refine s_ildn (p' := 1) rfl rfl rfl ?_
  refine s_if (p' := 14) true rfl ((cg_lt (w := 0) (by decide +kernel)).trans (decide_eq_true (by omega))) rfl ?_
  refine s_con (p' := 15) rfl rfl ?_
  refine c_iret rfl (by decide +kernel) ?_
  refine s_if (p' := 14) false rfl (by decide +kernel) rfl ?_
  refine s_thrz (q := 414) rfl HL rfl ?_
  refine K_c (hp := 13) rfl (mj_ocl_is (rd_nw rfl HL)) rfl ?_
  refine s_ast (p' := 15) (ls' := [_, _, _, _, _]) rfl rfl rfl rfl ?_
  refine s_con (p' := 16) rfl rfl ?_
  refine k_iret rfl rfl ?_
  refine l_ist (p' := 2207) (ls' := [_, _, _, _, _, _, _, _, _, _]) rfl rfl rfl rfl rfl ?_
  refine l_aldn (p' := 2208) rfl rfl rfl rfl ?_
  refine l_alds (p' := 2209) rfl rfl rfl rfl ?_
  refine l_ild (p' := 2211) rfl rfl rfl rfl ?_
  refine l_con (p' := 2212) rfl rfl rfl ?_
  refine l_bz (p' := 2213) (z := (nI 1)) rfl rfl rfl rfl rfl (by decide +kernel) ?_
  refine l_ialz (p' := 2214) (m := 1) (z := (nI 0)) rfl rfl (by decide +kernel) rfl hx1 rfl ?_
  refine l_alds (p' := 2215) rfl rfl rfl rfl ?_
  refine l_ild (p' := 2217) rfl rfl rfl rfl ?_
  refine l_con (p' := 2218) rfl rfl rfl ?_
  refine l_bz (p' := 2219) (z := (nI 2)) rfl rfl rfl rfl rfl (by decide +kernel) ?_
  refine l_ialz (p' := 2220) (m := 2) (z := q) rfl rfl (by decide +kernel) rfl hx2 rfl ?_
  refine l_call (p' := 2223) (kc := 99) (ls0 := [_, _, _, _]) rfl rfl rfl rfl rfl rfl (mj_rcv_is (rd_app H400)) rfl rfl rfl ?_
  refine s_aldn (p' := 1) rfl rfl rfl ?_
  refine s_ildn (p' := 2) rfl rfl rfl ?_
  refine s_con (p' := 3) rfl rfl ?_
  refine s_bip (p' := 5) rfl rfl ?_
  refine c_call (p' := 8) (kc := 98) (ls0 := [_, _, _]) rfl rfl rfl rfl rfl rfl rfl rfl rfl ?_
  refine s_ildn (p' := 1) rfl rfl rfl ?_
  refine s_ildn (p' := 2) rfl rfl rfl ?_
  refine s_icmp (p' := 5) false rfl (by decide +kernel) rfl ?_
  refine s_ildn (p' := 6) rfl rfl rfl ?_
  refine s_ildn (p' := 7) rfl rfl rfl ?_
  refine s_icmp (p' := 10) false rfl (by decide +kernel) rfl ?_
  refine s_con (p' := 11) rfl rfl ?_
  refine s_goto (p' := 15) rfl rfl ?_
  refine c_iret rfl (by decide +kernel) ?_
  refine s_if (p' := 11) false rfl (by decide +kernel) rfl ?_
  refine s_ildn (p' := 12) rfl rfl rfl ?_
  refine s_con (p' := 13) rfl rfl ?_
  refine s_bip (p' := 15) rfl rfl ?_
  refine c_call (p' := 18) (kc := 98) (ls0 := [_, _, _]) rfl rfl rfl rfl rfl rfl rfl rfl rfl ?_
  refine s_ildn (p' := 1) rfl rfl rfl ?_
  refine s_ildn (p' := 2) rfl rfl rfl ?_
  refine s_icmp (p' := 14) true rfl ((ch_gt (w := 0) (by decide +kernel)).trans (decide_eq_true (by omega))) rfl ?_
  refine s_con (p' := 15) rfl rfl ?_
  refine c_iret rfl (by decide +kernel) ?_
  refine s_if (p' := 25) true rfl (by decide +kernel) rfl ?_
  refine s_con (p' := 26) rfl rfl ?_
  refine c_call (p' := 29) (kc := 98) (ls0 := [_, _]) rfl rfl rfl rfl rfl (mj_rcv_is (rd_app H400)) rfl rfl rfl ?_
  refine s_aldn (p' := 1) rfl rfl rfl ?_
  refine s_ildn (p' := 2) rfl rfl rfl ?_
  refine s_pfz (p' := 5) (fs' := [_, _, _, _, _, _, _, _, _, _, _]) rfl rfl (rd_app H400) rfl rfl rfl rfl ?_
  refine s_ildn (p' := 6) rfl rfl rfl ?_
  refine s_if (p' := 9) false rfl (by decide +kernel) rfl ?_
  refine s_con (p' := 10) rfl rfl ?_
  refine s_goto (p' := 14) rfl rfl ?_
  refine c_iret rfl (by decide +kernel) ?_
  refine s_if (p' := 32) false rfl (by decide +kernel) rfl ?_
  refine s_con (p' := 33) rfl rfl ?_
  refine k_iret rfl rfl ?_
  refine l_ist (p' := 2225) (ls' := [_, _, _, _, _, _, _, _, _, _]) rfl rfl rfl rfl rfl ?_
  refine l_aldn (p' := 2226) rfl rfl rfl rfl ?_
  refine l_call (p' := 2229) (kc := 99) (ls0 := [_]) rfl rfl rfl rfl rfl rfl (mj_rcv_is (rd_ss rfl (rd_app H400))) rfl rfl rfl ?_
  refine s_aldn (p' := 1) rfl rfl rfl ?_
  refine s_gf (p' := 4) rfl (rd_ss rfl (rd_app H400)) rfl rfl ?_
  refine k_iret rfl rfl ?_
  refine l_ild (p' := 2231) rfl rfl rfl rfl ?_
  refine l_icmp (p' := 2236) true rfl rfl (by decide +kernel) rfl ?_
  refine l_ild (p' := 2238) rfl rfl rfl rfl ?_
  refine l_if (p' := 2253) true rfl rfl (by decide +kernel) rfl ?_
  refine l_goto (p' := 2541) rfl rfl rfl ?_
  refine l_incz (p' := 2544) (w := (nI 4)) (ls' := [_, _, _, _, _, _, _, _, _, _]) rfl rfl rfl rfl (by decide +kernel) rfl rfl ?_
  refine l_goto (p' := 28) rfl rfl rfl ?_
  refine l_ild (p' := 30) rfl rfl rfl rfl ?_
  refine l_alds (p' := 31) rfl rfl rfl rfl ?_
  refine l_lens (p' := 32) rfl rfl rfl ?_
  refine l_con (p' := 33) rfl rfl rfl ?_
  refine l_bz (p' := 34) (z := (nI 0)) rfl rfl rfl rfl rfl (by decide +kernel) ?_
  refine l_icmp (p' := 2547) true rfl rfl (by decide +kernel) rfl ?_
  refine l_con (p' := 2548) rfl rfl rfl ?_
  refine l_end rfl rfl ?_
  exact ⟨Nat.le_trans (Nat.le_of_eq (len_s (len_a HL rfl))) (Nat.le_of_ble_eq_true rfl), Nat.le_trans (sz_s rfl (rd_app H400) rfl (sz_aa (k := 6) (m := 20006) rfl rfl HZ)) (Nat.le_of_ble_eq_true rfl)⟩
theorem p1_41_0m {xs : Nat → Int32} {h : mj_H} (hk : xs 0 &&& nI 63 = nI 41) (hx1 : xs 1 = nI 0) {q : Int32} (hx2 : xs 2 = q) (hq : 7 < q.toInt) (HL : h.length = 414) (HZ : mj_sz h ≤ 20000) (H0 : mj_rd h 0 = some (.inr (0, [.ref 1, .ref 38, .ref 299, .ref 336, .ref 373, .ref 375, .ref 378, .ref 381, .ref 387, .ref 393, .null, .null, .ref 397, .ref 398, .ref 399, .long (lN 0), .long (lN 0)]))) (H400 : mj_rd h 400 = some (.inr (17, [.int (nI 0), .ref 401, .ref 402, .ref 1000300, .long (lN 0), .long (lN 0), .ref 410, .null, .null, .null, .ref 411]))) : mj_fin 4 xs h := by
  unfold mj_fin
  refine l_ild (p' := 30) rfl rfl rfl rfl ?_
  refine l_alds (p' := 31) rfl rfl rfl rfl ?_
  refine l_lens (p' := 32) rfl rfl rfl ?_
  refine l_con (p' := 33) rfl rfl rfl ?_
  refine l_bz (p' := 34) (z := (nI 0)) rfl rfl rfl rfl rfl (by decide +kernel) ?_
  refine l_icmp (p' := 37) false rfl rfl (by decide +kernel) rfl ?_
  refine l_alds (p' := 38) rfl rfl rfl rfl ?_
  refine l_ild (p' := 40) rfl rfl rfl rfl ?_
  refine l_ialz (p' := 41) (m := 0) (z := (xs 0)) rfl rfl (by decide +kernel) rfl rfl rfl ?_
  refine l_bip (p' := 43) rfl rfl rfl ?_
  refine l_bz (p' := 44) (z := (nI 41)) rfl rfl rfl rfl rfl hk ?_
  refine l_sp (p' := 2188) (ls' := _) rfl rfl rfl rfl rfl ?_
  refine l_aldn (p' := 2189) rfl rfl rfl rfl ?_
  refine l_alds (p' := 2190) rfl rfl rfl rfl ?_
  refine l_ild (p' := 2192) rfl rfl rfl rfl ?_
  refine l_con (p' := 2193) rfl rfl rfl ?_
  refine l_bz (p' := 2194) (z := (nI 1)) rfl rfl rfl rfl rfl (by decide +kernel) ?_
  refine l_ialz (p' := 2195) (m := 1) (z := (nI 0)) rfl rfl (by decide +kernel) rfl hx1 rfl ?_
  refine l_alds (p' := 2196) rfl rfl rfl rfl ?_
  refine l_ild (p' := 2198) rfl rfl rfl rfl ?_
  refine l_con (p' := 2199) rfl rfl rfl ?_
  refine l_bz (p' := 2200) (z := (nI 2)) rfl rfl rfl rfl rfl (by decide +kernel) ?_
  refine l_ialz (p' := 2201) (m := 2) (z := q) rfl rfl (by decide +kernel) rfl hx2 rfl ?_
  refine l_aldn (p' := 2202) rfl rfl rfl rfl ?_
  refine l_call (p' := 2205) (kc := 99) (ls0 := [_, _, _, _, _]) rfl rfl rfl rfl rfl rfl rfl rfl rfl rfl ?_
  refine s_aldn (p' := 1) rfl rfl rfl ?_
  refine s_con (p' := 2) rfl rfl ?_
  refine s_aldn (p' := 3) rfl rfl rfl ?_
  refine s_ildn (p' := 4) rfl rfl rfl ?_
  refine s_ildn (p' := 5) rfl rfl rfl ?_
  refine c_call (p' := 8) (kc := 98) (ls0 := [_, _, _, _]) rfl rfl rfl rfl rfl (mj_rcv_is H0) rfl rfl rfl ?_
  refine s_ildn (p' := 1) rfl rfl rfl ?_
  refine c_call (p' := 4) (kc := 97) (ls0 := [_]) rfl rfl rfl rfl rfl rfl rfl rfl rfl ?_
  refine s_ildn (p' := 1) rfl rfl rfl ?_
  refine s_if (p' := 4) false rfl (by decide +kernel) rfl ?_
  refine s_ildn (p' := 5) rfl rfl rfl ?_
  refine s_bip (p' := 7) rfl rfl ?_
  refine s_icmp (p' := 10) false rfl (by decide +kernel) rfl ?_
  refine s_con (p' := 11) rfl rfl ?_
  refine s_goto (p' := 15) rfl rfl ?_
  refine c_iret rfl (by decide +kernel) ?_
  refine s_if (p' := 7) false rfl (by decide +kernel) rfl ?_
  refine s_ildn (p' := 8) rfl rfl rfl ?_
  refine c_call (p' := 11) (kc := 97) (ls0 := [_]) rfl rfl rfl rfl rfl rfl rfl rfl rfl ?_
  refine s_ildn (p' := 1) rfl rfl rfl ?_
  refine s_if (p' := 4) false rfl ((cg_lt (w := 0) (by decide +kernel)).trans (decide_eq_false (by omega))) rfl ?_
  refine s_ildn (p' := 5) rfl rfl rfl ?_
  refine s_bip (p' := 7) rfl rfl ?_
  refine s_icmp (p' := 14) true rfl ((cg_ge (w := 8) (by decide +kernel)).trans (decide_eq_true (by omega))) rfl ?_
  refine s_con (p' := 15) rfl rfl ?_
  refine c_iret rfl (by decide +kernel) ?_
  refine s_if (p' := 14) false rfl (by decide +kernel) rfl ?_
  refine s_thrz (q := 414) rfl HL rfl ?_
  refine K_c (hp := 13) rfl (mj_ocl_is (rd_nw rfl HL)) rfl ?_
  refine s_ast (p' := 15) (ls' := [_, _, _, _, _]) rfl rfl rfl rfl ?_
  refine s_con (p' := 16) rfl rfl ?_
  refine k_iret rfl rfl ?_
  refine l_ist (p' := 2207) (ls' := [_, _, _, _, _, _, _, _, _, _]) rfl rfl rfl rfl rfl ?_
  refine l_aldn (p' := 2208) rfl rfl rfl rfl ?_
  refine l_alds (p' := 2209) rfl rfl rfl rfl ?_
  refine l_ild (p' := 2211) rfl rfl rfl rfl ?_
  refine l_con (p' := 2212) rfl rfl rfl ?_
  refine l_bz (p' := 2213) (z := (nI 1)) rfl rfl rfl rfl rfl (by decide +kernel) ?_
  refine l_ialz (p' := 2214) (m := 1) (z := (nI 0)) rfl rfl (by decide +kernel) rfl hx1 rfl ?_
  refine l_alds (p' := 2215) rfl rfl rfl rfl ?_
  refine l_ild (p' := 2217) rfl rfl rfl rfl ?_
  refine l_con (p' := 2218) rfl rfl rfl ?_
  refine l_bz (p' := 2219) (z := (nI 2)) rfl rfl rfl rfl rfl (by decide +kernel) ?_
  refine l_ialz (p' := 2220) (m := 2) (z := q) rfl rfl (by decide +kernel) rfl hx2 rfl ?_
  refine l_call (p' := 2223) (kc := 99) (ls0 := [_, _, _, _]) rfl rfl rfl rfl rfl rfl (mj_rcv_is (rd_app H400)) rfl rfl rfl ?_
  refine s_aldn (p' := 1) rfl rfl rfl ?_
  refine s_ildn (p' := 2) rfl rfl rfl ?_
  refine s_con (p' := 3) rfl rfl ?_
  refine s_bip (p' := 5) rfl rfl ?_
  refine c_call (p' := 8) (kc := 98) (ls0 := [_, _, _]) rfl rfl rfl rfl rfl rfl rfl rfl rfl ?_
  refine s_ildn (p' := 1) rfl rfl rfl ?_
  refine s_ildn (p' := 2) rfl rfl rfl ?_
  refine s_icmp (p' := 5) false rfl (by decide +kernel) rfl ?_
  refine s_ildn (p' := 6) rfl rfl rfl ?_
  refine s_ildn (p' := 7) rfl rfl rfl ?_
  refine s_icmp (p' := 10) false rfl (by decide +kernel) rfl ?_
  refine s_con (p' := 11) rfl rfl ?_
  refine s_goto (p' := 15) rfl rfl ?_
  refine c_iret rfl (by decide +kernel) ?_
  refine s_if (p' := 11) false rfl (by decide +kernel) rfl ?_
  refine s_ildn (p' := 12) rfl rfl rfl ?_
  refine s_con (p' := 13) rfl rfl ?_
  refine s_bip (p' := 15) rfl rfl ?_
  refine c_call (p' := 18) (kc := 98) (ls0 := [_, _, _]) rfl rfl rfl rfl rfl rfl rfl rfl rfl ?_
  refine s_ildn (p' := 1) rfl rfl rfl ?_
  refine s_ildn (p' := 2) rfl rfl rfl ?_
  refine s_icmp (p' := 5) false rfl ((ch_gt (w := 0) (by decide +kernel)).trans (decide_eq_false (by omega))) rfl ?_
  refine s_ildn (p' := 6) rfl rfl rfl ?_
  refine s_ildn (p' := 7) rfl rfl rfl ?_
  refine s_icmp (p' := 14) true rfl ((cg_gt (w := 7) (by decide +kernel)).trans (decide_eq_true (by omega))) rfl ?_
  refine s_con (p' := 15) rfl rfl ?_
  refine c_iret rfl (by decide +kernel) ?_
  refine s_if (p' := 25) true rfl (by decide +kernel) rfl ?_
  refine s_con (p' := 26) rfl rfl ?_
  refine c_call (p' := 29) (kc := 98) (ls0 := [_, _]) rfl rfl rfl rfl rfl (mj_rcv_is (rd_app H400)) rfl rfl rfl ?_
  refine s_aldn (p' := 1) rfl rfl rfl ?_
  refine s_ildn (p' := 2) rfl rfl rfl ?_
  refine s_pfz (p' := 5) (fs' := [_, _, _, _, _, _, _, _, _, _, _]) rfl rfl (rd_app H400) rfl rfl rfl rfl ?_
  refine s_ildn (p' := 6) rfl rfl rfl ?_
  refine s_if (p' := 9) false rfl (by decide +kernel) rfl ?_
  refine s_con (p' := 10) rfl rfl ?_
  refine s_goto (p' := 14) rfl rfl ?_
  refine c_iret rfl (by decide +kernel) ?_
  refine s_if (p' := 32) false rfl (by decide +kernel) rfl ?_
  refine s_con (p' := 33) rfl rfl ?_
  refine k_iret rfl rfl ?_
  refine l_ist (p' := 2225) (ls' := [_, _, _, _, _, _, _, _, _, _]) rfl rfl rfl rfl rfl ?_
  refine l_aldn (p' := 2226) rfl rfl rfl rfl ?_
  refine l_call (p' := 2229) (kc := 99) (ls0 := [_]) rfl rfl rfl rfl rfl rfl (mj_rcv_is (rd_ss rfl (rd_app H400))) rfl rfl rfl ?_
  refine s_aldn (p' := 1) rfl rfl rfl ?_
  refine s_gf (p' := 4) rfl (rd_ss rfl (rd_app H400)) rfl rfl ?_
  refine k_iret rfl rfl ?_
  refine l_ild (p' := 2231) rfl rfl rfl rfl ?_
  refine l_icmp (p' := 2236) true rfl rfl (by decide +kernel) rfl ?_
  refine l_ild (p' := 2238) rfl rfl rfl rfl ?_
  refine l_if (p' := 2253) true rfl rfl (by decide +kernel) rfl ?_
  refine l_goto (p' := 2541) rfl rfl rfl ?_
  refine l_incz (p' := 2544) (w := (nI 4)) (ls' := [_, _, _, _, _, _, _, _, _, _]) rfl rfl rfl rfl (by decide +kernel) rfl rfl ?_
  refine l_goto (p' := 28) rfl rfl rfl ?_
  refine l_ild (p' := 30) rfl rfl rfl rfl ?_
  refine l_alds (p' := 31) rfl rfl rfl rfl ?_
  refine l_lens (p' := 32) rfl rfl rfl ?_
  refine l_con (p' := 33) rfl rfl rfl ?_
  refine l_bz (p' := 34) (z := (nI 0)) rfl rfl rfl rfl rfl (by decide +kernel) ?_
  refine l_icmp (p' := 2547) true rfl rfl (by decide +kernel) rfl ?_
  refine l_con (p' := 2548) rfl rfl rfl ?_
  refine l_end rfl rfl ?_
  exact ⟨Nat.le_trans (Nat.le_of_eq (len_s (len_a HL rfl))) (Nat.le_of_ble_eq_true rfl), Nat.le_trans (sz_s rfl (rd_app H400) rfl (sz_aa (k := 6) (m := 20006) rfl rfl HZ)) (Nat.le_of_ble_eq_true rfl)⟩
theorem p1_41_1 {xs : Nat → Int32} {h : mj_H} (hk : xs 0 &&& nI 63 = nI 41) (hx1 : xs 1 = nI 1) {q : Int32} (hx2 : xs 2 = q) (hq : 0 ≤ q.toInt ∧ q.toInt ≤ 7) (HL : h.length = 414) (HZ : mj_sz h ≤ 20000) (H0 : mj_rd h 0 = some (.inr (0, [.ref 1, .ref 38, .ref 299, .ref 336, .ref 373, .ref 375, .ref 378, .ref 381, .ref 387, .ref 393, .null, .null, .ref 397, .ref 398, .ref 399, .long (lN 0), .long (lN 0)]))) (H397 : mj_rd h 397 = some (.inl (0, (8, .inl (fun _ => 0))))) (H400 : mj_rd h 400 = some (.inr (17, [.int (nI 0), .ref 401, .ref 402, .ref 1000300, .long (lN 0), .long (lN 0), .ref 410, .null, .null, .null, .ref 411]))) (H411 : mj_rd h 411 = some (.inl (0, (8, .inl (fun _ => 0))))) (H412 : mj_rd h 412 = some (.inl (4, (1, .inr (.inl (fun _ => 0)))))) : mj_fin 4 xs h := by
  unfold mj_fin
  refine l_ild (p' := 30) rfl rfl rfl rfl ?_
  refine l_alds (p' := 31) rfl rfl rfl rfl ?_
  refine l_lens (p' := 32) rfl rfl rfl ?_
  refine l_con (p' := 33) rfl rfl rfl ?_
  refine l_bz (p' := 34) (z := (nI 0)) rfl rfl rfl rfl rfl (by decide +kernel) ?_
  refine l_icmp (p' := 37) false rfl rfl (by decide +kernel) rfl ?_
  refine l_alds (p' := 38) rfl rfl rfl rfl ?_
  refine l_ild (p' := 40) rfl rfl rfl rfl ?_
  refine l_ialz (p' := 41) (m := 0) (z := (xs 0)) rfl rfl (by decide +kernel) rfl rfl rfl ?_
  refine l_bip (p' := 43) rfl rfl rfl ?_
  refine l_bz (p' := 44) (z := (nI 41)) rfl rfl rfl rfl rfl hk ?_
  refine l_sp (p' := 2188) (ls' := _) rfl rfl rfl rfl rfl ?_
  refine l_aldn (p' := 2189) rfl rfl rfl rfl ?_
  refine l_alds (p' := 2190) rfl rfl rfl rfl ?_
  refine l_ild (p' := 2192) rfl rfl rfl rfl ?_
  refine l_con (p' := 2193) rfl rfl rfl ?_
  refine l_bz (p' := 2194) (z := (nI 1)) rfl rfl rfl rfl rfl (by decide +kernel) ?_
  refine l_ialz (p' := 2195) (m := 1) (z := (nI 1)) rfl rfl (by decide +kernel) rfl hx1 rfl ?_
  refine l_alds (p' := 2196) rfl rfl rfl rfl ?_
  refine l_ild (p' := 2198) rfl rfl rfl rfl ?_
  refine l_con (p' := 2199) rfl rfl rfl ?_
  refine l_bz (p' := 2200) (z := (nI 2)) rfl rfl rfl rfl rfl (by decide +kernel) ?_
  refine l_ialz (p' := 2201) (m := 2) (z := q) rfl rfl (by decide +kernel) rfl hx2 rfl ?_
  refine l_aldn (p' := 2202) rfl rfl rfl rfl ?_
  refine l_call (p' := 2205) (kc := 99) (ls0 := [_, _, _, _, _]) rfl rfl rfl rfl rfl rfl rfl rfl rfl rfl ?_
  refine s_aldn (p' := 1) rfl rfl rfl ?_
  refine s_con (p' := 2) rfl rfl ?_
  refine s_aldn (p' := 3) rfl rfl rfl ?_
  refine s_ildn (p' := 4) rfl rfl rfl ?_
  refine s_ildn (p' := 5) rfl rfl rfl ?_
  refine c_call (p' := 8) (kc := 98) (ls0 := [_, _, _, _]) rfl rfl rfl rfl rfl (mj_rcv_is H0) rfl rfl rfl ?_
  refine s_ildn (p' := 1) rfl rfl rfl ?_
  refine c_call (p' := 4) (kc := 97) (ls0 := [_]) rfl rfl rfl rfl rfl rfl rfl rfl rfl ?_
  refine s_ildn (p' := 1) rfl rfl rfl ?_
  refine s_if (p' := 4) false rfl (by decide +kernel) rfl ?_
  refine s_ildn (p' := 5) rfl rfl rfl ?_
  refine s_bip (p' := 7) rfl rfl ?_
  refine s_icmp (p' := 10) false rfl (by decide +kernel) rfl ?_
  refine s_con (p' := 11) rfl rfl ?_
  refine s_goto (p' := 15) rfl rfl ?_
  refine c_iret rfl (by decide +kernel) ?_
  refine s_if (p' := 7) false rfl (by decide +kernel) rfl ?_
  refine s_ildn (p' := 8) rfl rfl rfl ?_
  refine c_call (p' := 11) (kc := 97) (ls0 := [_]) rfl rfl rfl rfl rfl rfl rfl rfl rfl ?_
  refine s_ildn (p' := 1) rfl rfl rfl ?_
  refine s_if (p' := 4) false rfl ((cg_lt (w := 0) (by decide +kernel)).trans (decide_eq_false (by omega))) rfl ?_
  refine s_ildn (p' := 5) rfl rfl rfl ?_
  refine s_bip (p' := 7) rfl rfl ?_
  refine s_icmp (p' := 10) false rfl ((cg_ge (w := 8) (by decide +kernel)).trans (decide_eq_false (by omega))) rfl ?_
  refine s_con (p' := 11) rfl rfl ?_
  refine s_goto (p' := 15) rfl rfl ?_
  refine c_iret rfl (by decide +kernel) ?_
  refine s_if (p' := 25) true rfl (by decide +kernel) rfl ?_
  refine s_aldn (p' := 26) rfl rfl rfl ?_
  refine s_gf (p' := 29) rfl H0 rfl rfl ?_
  refine s_ildn (p' := 30) rfl rfl rfl ?_
  refine s_ialz (p' := 31) (m := 1) (v := (nI 0)) rfl H397 (by decide +kernel) rfl (by decide +kernel) rfl ?_
  refine s_istn (p' := 32) (ls' := [_, _, _, _]) rfl rfl rfl rfl ?_
  refine s_aldn (p' := 33) rfl rfl rfl ?_
  refine s_gf (p' := 36) rfl H0 rfl rfl ?_
  refine s_ildn (p' := 37) rfl rfl rfl ?_
  refine s_ildn (p' := 38) rfl rfl rfl ?_
  refine s_iasz (p' := 39) (m := 1) rfl rfl H397 (by decide +kernel) rfl rfl rfl ?_
  refine s_ildn (p' := 40) rfl rfl rfl ?_
  refine c_iret rfl rfl ?_
  refine s_bzL (p' := 9) (z := (lN 0)) rfl rfl rfl (by decide +kernel) ?_
  refine s_lasz (p' := 10) (m := 0) rfl rfl (rd_sn rfl H412) (by decide +kernel) rfl rfl rfl ?_
  refine s_goto (p' := 17) rfl rfl ?_
  refine s_con (p' := 18) rfl rfl ?_
  refine k_iret rfl rfl ?_
  refine l_ist (p' := 2207) (ls' := [_, _, _, _, _, _, _, _, _, _]) rfl rfl rfl rfl rfl ?_
  refine l_aldn (p' := 2208) rfl rfl rfl rfl ?_
  refine l_alds (p' := 2209) rfl rfl rfl rfl ?_
  refine l_ild (p' := 2211) rfl rfl rfl rfl ?_
  refine l_con (p' := 2212) rfl rfl rfl ?_
  refine l_bz (p' := 2213) (z := (nI 1)) rfl rfl rfl rfl rfl (by decide +kernel) ?_
  refine l_ialz (p' := 2214) (m := 1) (z := (nI 1)) rfl rfl (by decide +kernel) rfl hx1 rfl ?_
  refine l_alds (p' := 2215) rfl rfl rfl rfl ?_
  refine l_ild (p' := 2217) rfl rfl rfl rfl ?_
  refine l_con (p' := 2218) rfl rfl rfl ?_
  refine l_bz (p' := 2219) (z := (nI 2)) rfl rfl rfl rfl rfl (by decide +kernel) ?_
  refine l_ialz (p' := 2220) (m := 2) (z := q) rfl rfl (by decide +kernel) rfl hx2 rfl ?_
  refine l_call (p' := 2223) (kc := 99) (ls0 := [_, _, _, _]) rfl rfl rfl rfl rfl rfl (mj_rcv_is (rd_sn rfl (rd_sn rfl H400))) rfl rfl rfl ?_
  refine s_aldn (p' := 1) rfl rfl rfl ?_
  refine s_ildn (p' := 2) rfl rfl rfl ?_
  refine s_con (p' := 3) rfl rfl ?_
  refine s_bip (p' := 5) rfl rfl ?_
  refine c_call (p' := 8) (kc := 98) (ls0 := [_, _, _]) rfl rfl rfl rfl rfl rfl rfl rfl rfl ?_
  refine s_ildn (p' := 1) rfl rfl rfl ?_
  refine s_ildn (p' := 2) rfl rfl rfl ?_
  refine s_icmp (p' := 5) false rfl (by decide +kernel) rfl ?_
  refine s_ildn (p' := 6) rfl rfl rfl ?_
  refine s_ildn (p' := 7) rfl rfl rfl ?_
  refine s_icmp (p' := 10) false rfl (by decide +kernel) rfl ?_
  refine s_con (p' := 11) rfl rfl ?_
  refine s_goto (p' := 15) rfl rfl ?_
  refine c_iret rfl (by decide +kernel) ?_
  refine s_if (p' := 11) false rfl (by decide +kernel) rfl ?_
  refine s_ildn (p' := 12) rfl rfl rfl ?_
  refine s_con (p' := 13) rfl rfl ?_
  refine s_bip (p' := 15) rfl rfl ?_
  refine c_call (p' := 18) (kc := 98) (ls0 := [_, _, _]) rfl rfl rfl rfl rfl rfl rfl rfl rfl ?_
  refine s_ildn (p' := 1) rfl rfl rfl ?_
  refine s_ildn (p' := 2) rfl rfl rfl ?_
  refine s_icmp (p' := 5) false rfl ((ch_gt (w := 0) (by decide +kernel)).trans (decide_eq_false (by omega))) rfl ?_
  refine s_ildn (p' := 6) rfl rfl rfl ?_
  refine s_ildn (p' := 7) rfl rfl rfl ?_
  refine s_icmp (p' := 10) false rfl ((cg_gt (w := 7) (by decide +kernel)).trans (decide_eq_false (by omega))) rfl ?_
  refine s_con (p' := 11) rfl rfl ?_
  refine s_goto (p' := 15) rfl rfl ?_
  refine c_iret rfl (by decide +kernel) ?_
  refine s_if (p' := 21) false rfl (by decide +kernel) rfl ?_
  refine s_con (p' := 22) rfl rfl ?_
  refine s_goto (p' := 26) rfl rfl ?_
  refine c_call (p' := 29) (kc := 98) (ls0 := [_, _]) rfl rfl rfl rfl rfl (mj_rcv_is (rd_sn rfl (rd_sn rfl H400))) rfl rfl rfl ?_
  refine s_aldn (p' := 1) rfl rfl rfl ?_
  refine s_ildn (p' := 2) rfl rfl rfl ?_
  refine s_pfz (p' := 5) (fs' := [_, _, _, _, _, _, _, _, _, _, _]) rfl rfl (rd_sn rfl (rd_sn rfl H400)) rfl rfl rfl rfl ?_
  refine s_ildn (p' := 6) rfl rfl rfl ?_
  refine s_if (p' := 13) true rfl (by decide +kernel) rfl ?_
  refine s_con (p' := 14) rfl rfl ?_
  refine c_iret rfl (by decide +kernel) ?_
  refine s_if (p' := 34) true rfl (by decide +kernel) rfl ?_
  refine s_aldn (p' := 35) rfl rfl rfl ?_
  refine s_gf (p' := 38) rfl (rd_ss rfl (rd_sn rfl (rd_sn rfl H400))) rfl rfl ?_
  refine s_ildn (p' := 39) rfl rfl rfl ?_
  refine s_ialz (p' := 40) (m := 1) (v := (nI 0)) rfl (rd_sn rfl (rd_sn rfl (rd_sn rfl H411))) (by decide +kernel) rfl (by decide +kernel) rfl ?_
  refine s_istn (p' := 41) (ls' := [_, _, _, _]) rfl rfl rfl rfl ?_
  refine s_aldn (p' := 42) rfl rfl rfl ?_
  refine s_gf (p' := 45) rfl (rd_ss rfl (rd_sn rfl (rd_sn rfl H400))) rfl rfl ?_
  refine s_ildn (p' := 46) rfl rfl rfl ?_
  refine s_ildn (p' := 47) rfl rfl rfl ?_
  refine s_iasz (p' := 48) (m := 1) rfl rfl (rd_sn rfl (rd_sn rfl (rd_sn rfl H411))) (by decide +kernel) rfl rfl rfl ?_
  refine s_ildn (p' := 49) rfl rfl rfl ?_
  refine k_iret rfl rfl ?_
  refine l_ist (p' := 2225) (ls' := [_, _, _, _, _, _, _, _, _, _]) rfl rfl rfl rfl rfl ?_
  refine l_aldn (p' := 2226) rfl rfl rfl rfl ?_
  refine l_call (p' := 2229) (kc := 99) (ls0 := [_]) rfl rfl rfl rfl rfl rfl (mj_rcv_is (rd_sn rfl (rd_ss rfl (rd_sn rfl (rd_sn rfl H400))))) rfl rfl rfl ?_
  refine s_aldn (p' := 1) rfl rfl rfl ?_
  refine s_gf (p' := 4) rfl (rd_sn rfl (rd_ss rfl (rd_sn rfl (rd_sn rfl H400)))) rfl rfl ?_
  refine k_iret rfl rfl ?_
  refine l_ild (p' := 2231) rfl rfl rfl rfl ?_
  refine l_icmp (p' := 2236) true rfl rfl (by decide +kernel) rfl ?_
  refine l_ild (p' := 2238) rfl rfl rfl rfl ?_
  refine l_if (p' := 2241) false rfl rfl (by decide +kernel) rfl ?_
  refine l_aldn (p' := 2242) rfl rfl rfl rfl ?_
  refine l_con (p' := 2243) rfl rfl rfl ?_
  refine l_lalz (p' := 2244) (m := 0) (v := (lN 0)) rfl rfl (rd_sn rfl (rd_sn rfl (rd_ss rfl (rd_sn rfl H412)))) (by decide +kernel) rfl (by decide +kernel) rfl ?_
  refine l_ild (p' := 2246) rfl rfl rfl rfl ?_
  refine l_bzL (p' := 2247) (z := (lN 0)) rfl rfl rfl rfl rfl (by decide +kernel) ?_
  refine l_bz (p' := 2248) (z := (nI 0)) rfl rfl rfl rfl rfl (by decide +kernel) ?_
  refine l_if (p' := 2253) true rfl rfl (by decide +kernel) rfl ?_
  refine l_goto (p' := 2541) rfl rfl rfl ?_
  refine l_incz (p' := 2544) (w := (nI 4)) (ls' := [_, _, _, _, _, _, _, _, _, _]) rfl rfl rfl rfl (by decide +kernel) rfl rfl ?_
  refine l_goto (p' := 28) rfl rfl rfl ?_
  refine l_ild (p' := 30) rfl rfl rfl rfl ?_
  refine l_alds (p' := 31) rfl rfl rfl rfl ?_
  refine l_lens (p' := 32) rfl rfl rfl ?_
  refine l_con (p' := 33) rfl rfl rfl ?_
  refine l_bz (p' := 34) (z := (nI 0)) rfl rfl rfl rfl rfl (by decide +kernel) ?_
  refine l_icmp (p' := 2547) true rfl rfl (by decide +kernel) rfl ?_
  refine l_con (p' := 2548) rfl rfl rfl ?_
  refine l_end rfl rfl ?_
  exact ⟨Nat.le_trans (Nat.le_of_eq (len_s (len_s (len_s (len_s HL))))) (Nat.le_of_ble_eq_true rfl), Nat.le_trans (sz_sA rfl (rd_sn rfl (rd_sn rfl (rd_sn rfl H411))) (sz_s rfl (rd_sn rfl (rd_sn rfl H400)) rfl (sz_sA rfl (rd_sn rfl H412) (sz_sA rfl H397 HZ)))) (Nat.le_of_ble_eq_true rfl)⟩
theorem p1_41_1n {xs : Nat → Int32} {h : mj_H} (hk : xs 0 &&& nI 63 = nI 41) (hx1 : xs 1 = nI 1) {q : Int32} (hx2 : xs 2 = q) (hq : q.toInt < 0) (HL : h.length = 414) (HZ : mj_sz h ≤ 20000) (H0 : mj_rd h 0 = some (.inr (0, [.ref 1, .ref 38, .ref 299, .ref 336, .ref 373, .ref 375, .ref 378, .ref 381, .ref 387, .ref 393, .null, .null, .ref 397, .ref 398, .ref 399, .long (lN 0), .long (lN 0)]))) (H400 : mj_rd h 400 = some (.inr (17, [.int (nI 0), .ref 401, .ref 402, .ref 1000300, .long (lN 0), .long (lN 0), .ref 410, .null, .null, .null, .ref 411]))) : mj_fin 4 xs h := by
  unfold mj_fin
  refine l_ild (p' := 30) rfl rfl rfl rfl ?_
  refine l_alds (p' := 31) rfl rfl rfl rfl ?_
  refine l_lens (p' := 32) rfl rfl rfl ?_
  refine l_con (p' := 33) rfl rfl rfl ?_
  refine l_bz (p' := 34) (z := (nI 0)) rfl rfl rfl rfl rfl (by decide +kernel) ?_
  refine l_icmp (p' := 37) false rfl rfl (by decide +kernel) rfl ?_
  refine l_alds (p' := 38) rfl rfl rfl rfl ?_
  refine l_ild (p' := 40) rfl rfl rfl rfl ?_
  refine l_ialz (p' := 41) (m := 0) (z := (xs 0)) rfl rfl (by decide +kernel) rfl rfl rfl ?_
  refine l_bip (p' := 43) rfl rfl rfl ?_
  refine l_bz (p' := 44) (z := (nI 41)) rfl rfl rfl rfl rfl hk ?_
  refine l_sp (p' := 2188) (ls' := _) rfl rfl rfl rfl rfl ?_
  refine l_aldn (p' := 2189) rfl rfl rfl rfl ?_
  refine l_alds (p' := 2190) rfl rfl rfl rfl ?_
  refine l_ild (p' := 2192) rfl rfl rfl rfl ?_
  refine l_con (p' := 2193) rfl rfl rfl ?_
  refine l_bz (p' := 2194) (z := (nI 1)) rfl rfl rfl rfl rfl (by decide +kernel) ?_
  refine l_ialz (p' := 2195) (m := 1) (z := (nI 1)) rfl rfl (by decide +kernel) rfl hx1 rfl ?_
  refine l_alds (p' := 2196) rfl rfl rfl rfl ?_
  refine l_ild (p' := 2198) rfl rfl rfl rfl ?_
  refine l_con (p' := 2199) rfl rfl rfl ?_
  refine l_bz (p' := 2200) (z := (nI 2)) rfl rfl rfl rfl rfl (by decide +kernel) ?_
  refine l_ialz (p' := 2201) (m := 2) (z := q) rfl rfl (by decide +kernel) rfl hx2 rfl ?_
  refine l_aldn (p' := 2202) rfl rfl rfl rfl ?_
  refine l_call (p' := 2205) (kc := 99) (ls0 := [_, _, _, _, _]) rfl rfl rfl rfl rfl rfl rfl rfl rfl rfl ?_
  refine s_aldn (p' := 1) rfl rfl rfl ?_
  refine s_con (p' := 2) rfl rfl ?_
  refine s_aldn (p' := 3) rfl rfl rfl ?_
  refine s_ildn (p' := 4) rfl rfl rfl ?_
  refine s_ildn (p' := 5) rfl rfl rfl ?_
  refine c_call (p' := 8) (kc := 98) (ls0 := [_, _, _, _]) rfl rfl rfl rfl rfl (mj_rcv_is H0) rfl rfl rfl ?_
  refine s_ildn (p' := 1) rfl rfl rfl ?_
  refine c_call (p' := 4) (kc := 97) (ls0 := [_]) rfl rfl rfl rfl rfl rfl rfl rfl rfl ?_
  refine s_ildn (p' := 1) rfl rfl rfl ?_
  refine s_if (p' := 4) false rfl (by decide +kernel) rfl ?_
  refine s_ildn (p' := 5) rfl rfl rfl ?_
  refine s_bip (p' := 7) rfl rfl ?_
  refine s_icmp (p' := 10) false rfl (by decide +kernel) rfl ?_
  refine s_con (p' := 11) rfl rfl ?_
  refine s_goto (p' := 15) rfl rfl ?_
  refine c_iret rfl (by decide +kernel) ?_
  refine s_if (p' := 7) false rfl (by decide +kernel) rfl ?_
  refine s_ildn (p' := 8) rfl rfl rfl ?_
  refine c_call (p' := 11) (kc := 97) (ls0 := [_]) rfl rfl rfl rfl rfl rfl rfl rfl rfl ?_
  refine s_ildn (p' := 1) rfl rfl rfl ?_
  refine s_if (p' := 14) true rfl ((cg_lt (w := 0) (by decide +kernel)).trans (decide_eq_true (by omega))) rfl ?_
  refine s_con (p' := 15) rfl rfl ?_
  refine c_iret rfl (by decide +kernel) ?_
  refine s_if (p' := 14) false rfl (by decide +kernel) rfl ?_
  refine s_thrz (q := 414) rfl HL rfl ?_
  refine K_c (hp := 13) rfl (mj_ocl_is (rd_nw rfl HL)) rfl ?_
  refine s_ast (p' := 15) (ls' := [_, _, _, _, _]) rfl rfl rfl rfl ?_
  refine s_con (p' := 16) rfl rfl ?_
  refine k_iret rfl rfl ?_
  refine l_ist (p' := 2207) (ls' := [_, _, _, _, _, _, _, _, _, _]) rfl rfl rfl rfl rfl ?_
  refine l_aldn (p' := 2208) rfl rfl rfl rfl ?_
  refine l_alds (p' := 2209) rfl rfl rfl rfl ?_
  refine l_ild (p' := 2211) rfl rfl rfl rfl ?_
  refine l_con (p' := 2212) rfl rfl rfl ?_
  refine l_bz (p' := 2213) (z := (nI 1)) rfl rfl rfl rfl rfl (by decide +kernel) ?_
  refine l_ialz (p' := 2214) (m := 1) (z := (nI 1)) rfl rfl (by decide +kernel) rfl hx1 rfl ?_
  refine l_alds (p' := 2215) rfl rfl rfl rfl ?_
  refine l_ild (p' := 2217) rfl rfl rfl rfl ?_
  refine l_con (p' := 2218) rfl rfl rfl ?_
  refine l_bz (p' := 2219) (z := (nI 2)) rfl rfl rfl rfl rfl (by decide +kernel) ?_
  refine l_ialz (p' := 2220) (m := 2) (z := q) rfl rfl (by decide +kernel) rfl hx2 rfl ?_
  refine l_call (p' := 2223) (kc := 99) (ls0 := [_, _, _, _]) rfl rfl rfl rfl rfl rfl (mj_rcv_is (rd_app H400)) rfl rfl rfl ?_
  refine s_aldn (p' := 1) rfl rfl rfl ?_
  refine s_ildn (p' := 2) rfl rfl rfl ?_
  refine s_con (p' := 3) rfl rfl ?_
  refine s_bip (p' := 5) rfl rfl ?_
  refine c_call (p' := 8) (kc := 98) (ls0 := [_, _, _]) rfl rfl rfl rfl rfl rfl rfl rfl rfl ?_
  refine s_ildn (p' := 1) rfl rfl rfl ?_
  refine s_ildn (p' := 2) rfl rfl rfl ?_
  refine s_icmp (p' := 5) false rfl (by decide +kernel) rfl ?_
  refine s_ildn (p' := 6) rfl rfl rfl ?_
  refine s_ildn (p' := 7) rfl rfl rfl ?_
  refine s_icmp (p' := 10) false rfl (by decide +kernel) rfl ?_
  refine s_con (p' := 11) rfl rfl ?_
  refine s_goto (p' := 15) rfl rfl ?_
  refine c_iret rfl (by decide +kernel) ?_
  refine s_if (p' := 11) false rfl (by decide +kernel) rfl ?_
  refine s_ildn (p' := 12) rfl rfl rfl ?_
  refine s_con (p' := 13) rfl rfl ?_
  refine s_bip (p' := 15) rfl rfl ?_
  refine c_call (p' := 18) (kc := 98) (ls0 := [_, _, _]) rfl rfl rfl rfl rfl rfl rfl rfl rfl ?_
  refine s_ildn (p' := 1) rfl rfl rfl ?_
  refine s_ildn (p' := 2) rfl rfl rfl ?_
  refine s_icmp (p' := 14) true rfl ((ch_gt (w := 0) (by decide +kernel)).trans (decide_eq_true (by omega))) rfl ?_
  refine s_con (p' := 15) rfl rfl ?_
  refine c_iret rfl (by decide +kernel) ?_
  refine s_if (p' := 25) true rfl (by decide +kernel) rfl ?_
  refine s_con (p' := 26) rfl rfl ?_
  refine c_call (p' := 29) (kc := 98) (ls0 := [_, _]) rfl rfl rfl rfl rfl (mj_rcv_is (rd_app H400)) rfl rfl rfl ?_
  refine s_aldn (p' := 1) rfl rfl rfl ?_
  refine s_ildn (p' := 2) rfl rfl rfl ?_
  refine s_pfz (p' := 5) (fs' := [_, _, _, _, _, _, _, _, _, _, _]) rfl rfl (rd_app H400) rfl rfl rfl rfl ?_
  refine s_ildn (p' := 6) rfl rfl rfl ?_
  refine s_if (p' := 9) false rfl (by decide +kernel) rfl ?_
  refine s_con (p' := 10) rfl rfl ?_
  refine s_goto (p' := 14) rfl rfl ?_
  refine c_iret rfl (by decide +kernel) ?_
  refine s_if (p' := 32) false rfl (by decide +kernel) rfl ?_
  refine s_con (p' := 33) rfl rfl ?_
  refine k_iret rfl rfl ?_
  refine l_ist (p' := 2225) (ls' := [_, _, _, _, _, _, _, _, _, _]) rfl rfl rfl rfl rfl ?_
  refine l_aldn (p' := 2226) rfl rfl rfl rfl ?_
  refine l_call (p' := 2229) (kc := 99) (ls0 := [_]) rfl rfl rfl rfl rfl rfl (mj_rcv_is (rd_ss rfl (rd_app H400))) rfl rfl rfl ?_
  refine s_aldn (p' := 1) rfl rfl rfl ?_
  refine s_gf (p' := 4) rfl (rd_ss rfl (rd_app H400)) rfl rfl ?_
  refine k_iret rfl rfl ?_
  refine l_ild (p' := 2231) rfl rfl rfl rfl ?_
  refine l_icmp (p' := 2236) true rfl rfl (by decide +kernel) rfl ?_
  refine l_ild (p' := 2238) rfl rfl rfl rfl ?_
  refine l_if (p' := 2253) true rfl rfl (by decide +kernel) rfl ?_
  refine l_goto (p' := 2541) rfl rfl rfl ?_
  refine l_incz (p' := 2544) (w := (nI 4)) (ls' := [_, _, _, _, _, _, _, _, _, _]) rfl rfl rfl rfl (by decide +kernel) rfl rfl ?_
  refine l_goto (p' := 28) rfl rfl rfl ?_
  refine l_ild (p' := 30) rfl rfl rfl rfl ?_
  refine l_alds (p' := 31) rfl rfl rfl rfl ?_
  refine l_lens (p' := 32) rfl rfl rfl ?_
  refine l_con (p' := 33) rfl rfl rfl ?_
  refine l_bz (p' := 34) (z := (nI 0)) rfl rfl rfl rfl rfl (by decide +kernel) ?_
  refine l_icmp (p' := 2547) true rfl rfl (by decide +kernel) rfl ?_
  refine l_con (p' := 2548) rfl rfl rfl ?_
  refine l_end rfl rfl ?_
  exact ⟨Nat.le_trans (Nat.le_of_eq (len_s (len_a HL rfl))) (Nat.le_of_ble_eq_true rfl), Nat.le_trans (sz_s rfl (rd_app H400) rfl (sz_aa (k := 6) (m := 20006) rfl rfl HZ)) (Nat.le_of_ble_eq_true rfl)⟩
theorem p1_41_1m {xs : Nat → Int32} {h : mj_H} (hk : xs 0 &&& nI 63 = nI 41) (hx1 : xs 1 = nI 1) {q : Int32} (hx2 : xs 2 = q) (hq : 7 < q.toInt) (HL : h.length = 414) (HZ : mj_sz h ≤ 20000) (H0 : mj_rd h 0 = some (.inr (0, [.ref 1, .ref 38, .ref 299, .ref 336, .ref 373, .ref 375, .ref 378, .ref 381, .ref 387, .ref 393, .null, .null, .ref 397, .ref 398, .ref 399, .long (lN 0), .long (lN 0)]))) (H400 : mj_rd h 400 = some (.inr (17, [.int (nI 0), .ref 401, .ref 402, .ref 1000300, .long (lN 0), .long (lN 0), .ref 410, .null, .null, .null, .ref 411]))) : mj_fin 4 xs h := by
  unfold mj_fin
  refine l_ild (p' := 30) rfl rfl rfl rfl ?_
  refine l_alds (p' := 31) rfl rfl rfl rfl ?_
  refine l_lens (p' := 32) rfl rfl rfl ?_
  refine l_con (p' := 33) rfl rfl rfl ?_
  refine l_bz (p' := 34) (z := (nI 0)) rfl rfl rfl rfl rfl (by decide +kernel) ?_
  refine l_icmp (p' := 37) false rfl rfl (by decide +kernel) rfl ?_
  refine l_alds (p' := 38) rfl rfl rfl rfl ?_
  refine l_ild (p' := 40) rfl rfl rfl rfl ?_
  refine l_ialz (p' := 41) (m := 0) (z := (xs 0)) rfl rfl (by decide +kernel) rfl rfl rfl ?_
  refine l_bip (p' := 43) rfl rfl rfl ?_
  refine l_bz (p' := 44) (z := (nI 41)) rfl rfl rfl rfl rfl hk ?_
  refine l_sp (p' := 2188) (ls' := _) rfl rfl rfl rfl rfl ?_
  refine l_aldn (p' := 2189) rfl rfl rfl rfl ?_
  refine l_alds (p' := 2190) rfl rfl rfl rfl ?_
  refine l_ild (p' := 2192) rfl rfl rfl rfl ?_
  refine l_con (p' := 2193) rfl rfl rfl ?_
  refine l_bz (p' := 2194) (z := (nI 1)) rfl rfl rfl rfl rfl (by decide +kernel) ?_
  refine l_ialz (p' := 2195) (m := 1) (z := (nI 1)) rfl rfl (by decide +kernel) rfl hx1 rfl ?_
  refine l_alds (p' := 2196) rfl rfl rfl rfl ?_
  refine l_ild (p' := 2198) rfl rfl rfl rfl ?_
  refine l_con (p' := 2199) rfl rfl rfl ?_
  refine l_bz (p' := 2200) (z := (nI 2)) rfl rfl rfl rfl rfl (by decide +kernel) ?_
  refine l_ialz (p' := 2201) (m := 2) (z := q) rfl rfl (by decide +kernel) rfl hx2 rfl ?_
  refine l_aldn (p' := 2202) rfl rfl rfl rfl ?_
  refine l_call (p' := 2205) (kc := 99) (ls0 := [_, _, _, _, _]) rfl rfl rfl rfl rfl rfl rfl rfl rfl rfl ?_
  refine s_aldn (p' := 1) rfl rfl rfl ?_
  refine s_con (p' := 2) rfl rfl ?_
  refine s_aldn (p' := 3) rfl rfl rfl ?_
  refine s_ildn (p' := 4) rfl rfl rfl ?_
  refine s_ildn (p' := 5) rfl rfl rfl ?_
  refine c_call (p' := 8) (kc := 98) (ls0 := [_, _, _, _]) rfl rfl rfl rfl rfl (mj_rcv_is H0) rfl rfl rfl ?_
  refine s_ildn (p' := 1) rfl rfl rfl ?_
  refine c_call (p' := 4) (kc := 97) (ls0 := [_]) rfl rfl rfl rfl rfl rfl rfl rfl rfl ?_
  refine s_ildn (p' := 1) rfl rfl rfl ?_
  refine s_if (p' := 4) false rfl (by decide +kernel) rfl ?_
  refine s_ildn (p' := 5) rfl rfl rfl ?_
  refine s_bip (p' := 7) rfl rfl ?_
  refine s_icmp (p' := 10) false rfl (by decide +kernel) rfl ?_
  refine s_con (p' := 11) rfl rfl ?_
  refine s_goto (p' := 15) rfl rfl ?_
  refine c_iret rfl (by decide +kernel) ?_
  refine s_if (p' := 7) false rfl (by decide +kernel) rfl ?_
  refine s_ildn (p' := 8) rfl rfl rfl ?_
  refine c_call (p' := 11) (kc := 97) (ls0 := [_]) rfl rfl rfl rfl rfl rfl rfl rfl rfl ?_
  refine s_ildn (p' := 1) rfl rfl rfl ?_
  refine s_if (p' := 4) false rfl ((cg_lt (w := 0) (by decide +kernel)).trans (decide_eq_false (by omega))) rfl ?_
  refine s_ildn (p' := 5) rfl rfl rfl ?_
  refine s_bip (p' := 7) rfl rfl ?_
  refine s_icmp (p' := 14) true rfl ((cg_ge (w := 8) (by decide +kernel)).trans (decide_eq_true (by omega))) rfl ?_
  refine s_con (p' := 15) rfl rfl ?_
  refine c_iret rfl (by decide +kernel) ?_
  refine s_if (p' := 14) false rfl (by decide +kernel) rfl ?_
  refine s_thrz (q := 414) rfl HL rfl ?_
  refine K_c (hp := 13) rfl (mj_ocl_is (rd_nw rfl HL)) rfl ?_
  refine s_ast (p' := 15) (ls' := [_, _, _, _, _]) rfl rfl rfl rfl ?_
  refine s_con (p' := 16) rfl rfl ?_
  refine k_iret rfl rfl ?_
  refine l_ist (p' := 2207) (ls' := [_, _, _, _, _, _, _, _, _, _]) rfl rfl rfl rfl rfl ?_
  refine l_aldn (p' := 2208) rfl rfl rfl rfl ?_
  refine l_alds (p' := 2209) rfl rfl rfl rfl ?_
  refine l_ild (p' := 2211) rfl rfl rfl rfl ?_
  refine l_con (p' := 2212) rfl rfl rfl ?_
  refine l_bz (p' := 2213) (z := (nI 1)) rfl rfl rfl rfl rfl (by decide +kernel) ?_
  refine l_ialz (p' := 2214) (m := 1) (z := (nI 1)) rfl rfl (by decide +kernel) rfl hx1 rfl ?_
  refine l_alds (p' := 2215) rfl rfl rfl rfl ?_
  refine l_ild (p' := 2217) rfl rfl rfl rfl ?_
  refine l_con (p' := 2218) rfl rfl rfl ?_
  refine l_bz (p' := 2219) (z := (nI 2)) rfl rfl rfl rfl rfl (by decide +kernel) ?_
  refine l_ialz (p' := 2220) (m := 2) (z := q) rfl rfl (by decide +kernel) rfl hx2 rfl ?_
  refine l_call (p' := 2223) (kc := 99) (ls0 := [_, _, _, _]) rfl rfl rfl rfl rfl rfl (mj_rcv_is (rd_app H400)) rfl rfl rfl ?_
  refine s_aldn (p' := 1) rfl rfl rfl ?_
  refine s_ildn (p' := 2) rfl rfl rfl ?_
  refine s_con (p' := 3) rfl rfl ?_
  refine s_bip (p' := 5) rfl rfl ?_
  refine c_call (p' := 8) (kc := 98) (ls0 := [_, _, _]) rfl rfl rfl rfl rfl rfl rfl rfl rfl ?_
  refine s_ildn (p' := 1) rfl rfl rfl ?_
  refine s_ildn (p' := 2) rfl rfl rfl ?_
  refine s_icmp (p' := 5) false rfl (by decide +kernel) rfl ?_
  refine s_ildn (p' := 6) rfl rfl rfl ?_
  refine s_ildn (p' := 7) rfl rfl rfl ?_
  refine s_icmp (p' := 10) false rfl (by decide +kernel) rfl ?_
  refine s_con (p' := 11) rfl rfl ?_
  refine s_goto (p' := 15) rfl rfl ?_
  refine c_iret rfl (by decide +kernel) ?_
  refine s_if (p' := 11) false rfl (by decide +kernel) rfl ?_
  refine s_ildn (p' := 12) rfl rfl rfl ?_
  refine s_con (p' := 13) rfl rfl ?_
  refine s_bip (p' := 15) rfl rfl ?_
  refine c_call (p' := 18) (kc := 98) (ls0 := [_, _, _]) rfl rfl rfl rfl rfl rfl rfl rfl rfl ?_
  refine s_ildn (p' := 1) rfl rfl rfl ?_
  refine s_ildn (p' := 2) rfl rfl rfl ?_
  refine s_icmp (p' := 5) false rfl ((ch_gt (w := 0) (by decide +kernel)).trans (decide_eq_false (by omega))) rfl ?_
  refine s_ildn (p' := 6) rfl rfl rfl ?_
  refine s_ildn (p' := 7) rfl rfl rfl ?_
  refine s_icmp (p' := 14) true rfl ((cg_gt (w := 7) (by decide +kernel)).trans (decide_eq_true (by omega))) rfl ?_
  refine s_con (p' := 15) rfl rfl ?_
  refine c_iret rfl (by decide +kernel) ?_
  refine s_if (p' := 25) true rfl (by decide +kernel) rfl ?_
  refine s_con (p' := 26) rfl rfl ?_
  refine c_call (p' := 29) (kc := 98) (ls0 := [_, _]) rfl rfl rfl rfl rfl (mj_rcv_is (rd_app H400)) rfl rfl rfl ?_
  refine s_aldn (p' := 1) rfl rfl rfl ?_
  refine s_ildn (p' := 2) rfl rfl rfl ?_
  refine s_pfz (p' := 5) (fs' := [_, _, _, _, _, _, _, _, _, _, _]) rfl rfl (rd_app H400) rfl rfl rfl rfl ?_
  refine s_ildn (p' := 6) rfl rfl rfl ?_
  refine s_if (p' := 9) false rfl (by decide +kernel) rfl ?_
  refine s_con (p' := 10) rfl rfl ?_
  refine s_goto (p' := 14) rfl rfl ?_
  refine c_iret rfl (by decide +kernel) ?_
  refine s_if (p' := 32) false rfl (by decide +kernel) rfl ?_
  refine s_con (p' := 33) rfl rfl ?_
  refine k_iret rfl rfl ?_
  refine l_ist (p' := 2225) (ls' := [_, _, _, _, _, _, _, _, _, _]) rfl rfl rfl rfl rfl ?_
  refine l_aldn (p' := 2226) rfl rfl rfl rfl ?_
  refine l_call (p' := 2229) (kc := 99) (ls0 := [_]) rfl rfl rfl rfl rfl rfl (mj_rcv_is (rd_ss rfl (rd_app H400))) rfl rfl rfl ?_
  refine s_aldn (p' := 1) rfl rfl rfl ?_
  refine s_gf (p' := 4) rfl (rd_ss rfl (rd_app H400)) rfl rfl ?_
  refine k_iret rfl rfl ?_
  refine l_ild (p' := 2231) rfl rfl rfl rfl ?_
  refine l_icmp (p' := 2236) true rfl rfl (by decide +kernel) rfl ?_
  refine l_ild (p' := 2238) rfl rfl rfl rfl ?_
  refine l_if (p' := 2253) true rfl rfl (by decide +kernel) rfl ?_
  refine l_goto (p' := 2541) rfl rfl rfl ?_
  refine l_incz (p' := 2544) (w := (nI 4)) (ls' := [_, _, _, _, _, _, _, _, _, _]) rfl rfl rfl rfl (by decide +kernel) rfl rfl ?_
  refine l_goto (p' := 28) rfl rfl rfl ?_
  refine l_ild (p' := 30) rfl rfl rfl rfl ?_
  refine l_alds (p' := 31) rfl rfl rfl rfl ?_
  refine l_lens (p' := 32) rfl rfl rfl ?_
  refine l_con (p' := 33) rfl rfl rfl ?_
  refine l_bz (p' := 34) (z := (nI 0)) rfl rfl rfl rfl rfl (by decide +kernel) ?_
  refine l_icmp (p' := 2547) true rfl rfl (by decide +kernel) rfl ?_
  refine l_con (p' := 2548) rfl rfl rfl ?_
  refine l_end rfl rfl ?_
  exact ⟨Nat.le_trans (Nat.le_of_eq (len_s (len_a HL rfl))) (Nat.le_of_ble_eq_true rfl), Nat.le_trans (sz_s rfl (rd_app H400) rfl (sz_aa (k := 6) (m := 20006) rfl rfl HZ)) (Nat.le_of_ble_eq_true rfl)⟩
theorem p1_41_2 {xs : Nat → Int32} {h : mj_H} (hk : xs 0 &&& nI 63 = nI 41) (hx1 : xs 1 = nI 2) {q : Int32} (hx2 : xs 2 = q) (hq : 0 ≤ q.toInt ∧ q.toInt ≤ 7) (HL : h.length = 414) (HZ : mj_sz h ≤ 20000) (H0 : mj_rd h 0 = some (.inr (0, [.ref 1, .ref 38, .ref 299, .ref 336, .ref 373, .ref 375, .ref 378, .ref 381, .ref 387, .ref 393, .null, .null, .ref 397, .ref 398, .ref 399, .long (lN 0), .long (lN 0)]))) (H397 : mj_rd h 397 = some (.inl (0, (8, .inl (fun _ => 0))))) (H400 : mj_rd h 400 = some (.inr (17, [.int (nI 0), .ref 401, .ref 402, .ref 1000300, .long (lN 0), .long (lN 0), .ref 410, .null, .null, .null, .ref 411]))) (H411 : mj_rd h 411 = some (.inl (0, (8, .inl (fun _ => 0))))) (H412 : mj_rd h 412 = some (.inl (4, (1, .inr (.inl (fun _ => 0)))))) : mj_fin 4 xs h := by
  unfold mj_fin
  refine l_ild (p' := 30) rfl rfl rfl rfl ?_
  refine l_alds (p' := 31) rfl rfl rfl rfl ?_
  refine l_lens (p' := 32) rfl rfl rfl ?_
  refine l_con (p' := 33) rfl rfl rfl ?_
  refine l_bz (p' := 34) (z := (nI 0)) rfl rfl rfl rfl rfl (by decide +kernel) ?_
  refine l_icmp (p' := 37) false rfl rfl (by decide +kernel) rfl ?_
  refine l_alds (p' := 38) rfl rfl rfl rfl ?_
  refine l_ild (p' := 40) rfl rfl rfl rfl ?_
  refine l_ialz (p' := 41) (m := 0) (z := (xs 0)) rfl rfl (by decide +kernel) rfl rfl rfl ?_
  refine l_bip (p' := 43) rfl rfl rfl ?_
  refine l_bz (p' := 44) (z := (nI 41)) rfl rfl rfl rfl rfl hk ?_
  refine l_sp (p' := 2188) (ls' := _) rfl rfl rfl rfl rfl ?_
  refine l_aldn (p' := 2189) rfl rfl rfl rfl ?_
  refine l_alds (p' := 2190) rfl rfl rfl rfl ?_
  refine l_ild (p' := 2192) rfl rfl rfl rfl ?_
  refine l_con (p' := 2193) rfl rfl rfl ?_
  refine l_bz (p' := 2194) (z := (nI 1)) rfl rfl rfl rfl rfl (by decide +kernel) ?_
  refine l_ialz (p' := 2195) (m := 1) (z := (nI 2)) rfl rfl (by decide +kernel) rfl hx1 rfl ?_
  refine l_alds (p' := 2196) rfl rfl rfl rfl ?_
  refine l_ild (p' := 2198) rfl rfl rfl rfl ?_
  refine l_con (p' := 2199) rfl rfl rfl ?_
  refine l_bz (p' := 2200) (z := (nI 2)) rfl rfl rfl rfl rfl (by decide +kernel) ?_
  refine l_ialz (p' := 2201) (m := 2) (z := q) rfl rfl (by decide +kernel) rfl hx2 rfl ?_
  refine l_aldn (p' := 2202) rfl rfl rfl rfl ?_
  refine l_call (p' := 2205) (kc := 99) (ls0 := [_, _, _, _, _]) rfl rfl rfl rfl rfl rfl rfl rfl rfl rfl ?_
  refine s_aldn (p' := 1) rfl rfl rfl ?_
  refine s_con (p' := 2) rfl rfl ?_
  refine s_aldn (p' := 3) rfl rfl rfl ?_
  refine s_ildn (p' := 4) rfl rfl rfl ?_
  refine s_ildn (p' := 5) rfl rfl rfl ?_
  refine c_call (p' := 8) (kc := 98) (ls0 := [_, _, _, _]) rfl rfl rfl rfl rfl (mj_rcv_is H0) rfl rfl rfl ?_
  refine s_ildn (p' := 1) rfl rfl rfl ?_
  refine c_call (p' := 4) (kc := 97) (ls0 := [_]) rfl rfl rfl rfl rfl rfl rfl rfl rfl ?_
  refine s_ildn (p' := 1) rfl rfl rfl ?_
  refine s_if (p' := 4) false rfl (by decide +kernel) rfl ?_
  refine s_ildn (p' := 5) rfl rfl rfl ?_
  refine s_bip (p' := 7) rfl rfl ?_
  refine s_icmp (p' := 10) false rfl (by decide +kernel) rfl ?_
  refine s_con (p' := 11) rfl rfl ?_
  refine s_goto (p' := 15) rfl rfl ?_
  refine c_iret rfl (by decide +kernel) ?_
  refine s_if (p' := 7) false rfl (by decide +kernel) rfl ?_
  refine s_ildn (p' := 8) rfl rfl rfl ?_
  refine c_call (p' := 11) (kc := 97) (ls0 := [_]) rfl rfl rfl rfl rfl rfl rfl rfl rfl ?_
  refine s_ildn (p' := 1) rfl rfl rfl ?_
  refine s_if (p' := 4) false rfl ((cg_lt (w := 0) (by decide +kernel)).trans (decide_eq_false (by omega))) rfl ?_
  refine s_ildn (p' := 5) rfl rfl rfl ?_
  refine s_bip (p' := 7) rfl rfl ?_
  refine s_icmp (p' := 10) false rfl ((cg_ge (w := 8) (by decide +kernel)).trans (decide_eq_false (by omega))) rfl ?_
  refine s_con (p' := 11) rfl rfl ?_
  refine s_goto (p' := 15) rfl rfl ?_
  refine c_iret rfl (by decide +kernel) ?_
  refine s_if (p' := 25) true rfl (by decide +kernel) rfl ?_
  refine s_aldn (p' := 26) rfl rfl rfl ?_
  refine s_gf (p' := 29) rfl H0 rfl rfl ?_
  refine s_ildn (p' := 30) rfl rfl rfl ?_
  refine s_ialz (p' := 31) (m := 2) (v := (nI 0)) rfl H397 (by decide +kernel) rfl (by decide +kernel) rfl ?_
  refine s_istn (p' := 32) (ls' := [_, _, _, _]) rfl rfl rfl rfl ?_
  refine s_aldn (p' := 33) rfl rfl rfl ?_
  refine s_gf (p' := 36) rfl H0 rfl rfl ?_
  refine s_ildn (p' := 37) rfl rfl rfl ?_
  refine s_ildn (p' := 38) rfl rfl rfl ?_
  refine s_iasz (p' := 39) (m := 2) rfl rfl H397 (by decide +kernel) rfl rfl rfl ?_
  refine s_ildn (p' := 40) rfl rfl rfl ?_
  refine c_iret rfl rfl ?_
  refine s_bzL (p' := 9) (z := (lN 0)) rfl rfl rfl (by decide +kernel) ?_
  refine s_lasz (p' := 10) (m := 0) rfl rfl (rd_sn rfl H412) (by decide +kernel) rfl rfl rfl ?_
  refine s_goto (p' := 17) rfl rfl ?_
  refine s_con (p' := 18) rfl rfl ?_
  refine k_iret rfl rfl ?_
  refine l_ist (p' := 2207) (ls' := [_, _, _, _, _, _, _, _, _, _]) rfl rfl rfl rfl rfl ?_
  refine l_aldn (p' := 2208) rfl rfl rfl rfl ?_
  refine l_alds (p' := 2209) rfl rfl rfl rfl ?_
  refine l_ild (p' := 2211) rfl rfl rfl rfl ?_
  refine l_con (p' := 2212) rfl rfl rfl ?_
  refine l_bz (p' := 2213) (z := (nI 1)) rfl rfl rfl rfl rfl (by decide +kernel) ?_
  refine l_ialz (p' := 2214) (m := 1) (z := (nI 2)) rfl rfl (by decide +kernel) rfl hx1 rfl ?_
  refine l_alds (p' := 2215) rfl rfl rfl rfl ?_
  refine l_ild (p' := 2217) rfl rfl rfl rfl ?_
  refine l_con (p' := 2218) rfl rfl rfl ?_
  refine l_bz (p' := 2219) (z := (nI 2)) rfl rfl rfl rfl rfl (by decide +kernel) ?_
  refine l_ialz (p' := 2220) (m := 2) (z := q) rfl rfl (by decide +kernel) rfl hx2 rfl ?_
  refine l_call (p' := 2223) (kc := 99) (ls0 := [_, _, _, _]) rfl rfl rfl rfl rfl rfl (mj_rcv_is (rd_sn rfl (rd_sn rfl H400))) rfl rfl rfl ?_
  refine s_aldn (p' := 1) rfl rfl rfl ?_
  refine s_ildn (p' := 2) rfl rfl rfl ?_
  refine s_con (p' := 3) rfl rfl ?_
  refine s_bip (p' := 5) rfl rfl ?_
  refine c_call (p' := 8) (kc := 98) (ls0 := [_, _, _]) rfl rfl rfl rfl rfl rfl rfl rfl rfl ?_
  refine s_ildn (p' := 1) rfl rfl rfl ?_
  refine s_ildn (p' := 2) rfl rfl rfl ?_
  refine s_icmp (p' := 5) false rfl (by decide +kernel) rfl ?_
  refine s_ildn (p' := 6) rfl rfl rfl ?_
  refine s_ildn (p' := 7) rfl rfl rfl ?_
  refine s_icmp (p' := 10) false rfl (by decide +kernel) rfl ?_
  refine s_con (p' := 11) rfl rfl ?_
  refine s_goto (p' := 15) rfl rfl ?_
  refine c_iret rfl (by decide +kernel) ?_
  refine s_if (p' := 11) false rfl (by decide +kernel) rfl ?_
  refine s_ildn (p' := 12) rfl rfl rfl ?_
  refine s_con (p' := 13) rfl rfl ?_
  refine s_bip (p' := 15) rfl rfl ?_
  refine c_call (p' := 18) (kc := 98) (ls0 := [_, _, _]) rfl rfl rfl rfl rfl rfl rfl rfl rfl ?_
  refine s_ildn (p' := 1) rfl rfl rfl ?_
  refine s_ildn (p' := 2) rfl rfl rfl ?_
  refine s_icmp (p' := 5) false rfl ((ch_gt (w := 0) (by decide +kernel)).trans (decide_eq_false (by omega))) rfl ?_
  refine s_ildn (p' := 6) rfl rfl rfl ?_
  refine s_ildn (p' := 7) rfl rfl rfl ?_
  refine s_icmp (p' := 10) false rfl ((cg_gt (w := 7) (by decide +kernel)).trans (decide_eq_false (by omega))) rfl ?_
  refine s_con (p' := 11) rfl rfl ?_
  refine s_goto (p' := 15) rfl rfl ?_
  refine c_iret rfl (by decide +kernel) ?_
  refine s_if (p' := 21) false rfl (by decide +kernel) rfl ?_
  refine s_con (p' := 22) rfl rfl ?_
  refine s_goto (p' := 26) rfl rfl ?_
  refine c_call (p' := 29) (kc := 98) (ls0 := [_, _]) rfl rfl rfl rfl rfl (mj_rcv_is (rd_sn rfl (rd_sn rfl H400))) rfl rfl rfl ?_
  refine s_aldn (p' := 1) rfl rfl rfl ?_
  refine s_ildn (p' := 2) rfl rfl rfl ?_
  refine s_pfz (p' := 5) (fs' := [_, _, _, _, _, _, _, _, _, _, _]) rfl rfl (rd_sn rfl (rd_sn rfl H400)) rfl rfl rfl rfl ?_
  refine s_ildn (p' := 6) rfl rfl rfl ?_
  refine s_if (p' := 13) true rfl (by decide +kernel) rfl ?_
  refine s_con (p' := 14) rfl rfl ?_
  refine c_iret rfl (by decide +kernel) ?_
  refine s_if (p' := 34) true rfl (by decide +kernel) rfl ?_
  refine s_aldn (p' := 35) rfl rfl rfl ?_
  refine s_gf (p' := 38) rfl (rd_ss rfl (rd_sn rfl (rd_sn rfl H400))) rfl rfl ?_
  refine s_ildn (p' := 39) rfl rfl rfl ?_
  refine s_ialz (p' := 40) (m := 2) (v := (nI 0)) rfl (rd_sn rfl (rd_sn rfl (rd_sn rfl H411))) (by decide +kernel) rfl (by decide +kernel) rfl ?_
  refine s_istn (p' := 41) (ls' := [_, _, _, _]) rfl rfl rfl rfl ?_
  refine s_aldn (p' := 42) rfl rfl rfl ?_
  refine s_gf (p' := 45) rfl (rd_ss rfl (rd_sn rfl (rd_sn rfl H400))) rfl rfl ?_
  refine s_ildn (p' := 46) rfl rfl rfl ?_
  refine s_ildn (p' := 47) rfl rfl rfl ?_
  refine s_iasz (p' := 48) (m := 2) rfl rfl (rd_sn rfl (rd_sn rfl (rd_sn rfl H411))) (by decide +kernel) rfl rfl rfl ?_
  refine s_ildn (p' := 49) rfl rfl rfl ?_
  refine k_iret rfl rfl ?_
  refine l_ist (p' := 2225) (ls' := [_, _, _, _, _, _, _, _, _, _]) rfl rfl rfl rfl rfl ?_
  refine l_aldn (p' := 2226) rfl rfl rfl rfl ?_
  refine l_call (p' := 2229) (kc := 99) (ls0 := [_]) rfl rfl rfl rfl rfl rfl (mj_rcv_is (rd_sn rfl (rd_ss rfl (rd_sn rfl (rd_sn rfl H400))))) rfl rfl rfl ?_
  refine s_aldn (p' := 1) rfl rfl rfl ?_
  refine s_gf (p' := 4) rfl (rd_sn rfl (rd_ss rfl (rd_sn rfl (rd_sn rfl H400)))) rfl rfl ?_
  refine k_iret rfl rfl ?_
  refine l_ild (p' := 2231) rfl rfl rfl rfl ?_
  refine l_icmp (p' := 2236) true rfl rfl (by decide +kernel) rfl ?_
  refine l_ild (p' := 2238) rfl rfl rfl rfl ?_
  refine l_if (p' := 2241) false rfl rfl (by decide +kernel) rfl ?_
  refine l_aldn (p' := 2242) rfl rfl rfl rfl ?_
  refine l_con (p' := 2243) rfl rfl rfl ?_
  refine l_lalz (p' := 2244) (m := 0) (v := (lN 0)) rfl rfl (rd_sn rfl (rd_sn rfl (rd_ss rfl (rd_sn rfl H412)))) (by decide +kernel) rfl (by decide +kernel) rfl ?_
  refine l_ild (p' := 2246) rfl rfl rfl rfl ?_
  refine l_bzL (p' := 2247) (z := (lN 0)) rfl rfl rfl rfl rfl (by decide +kernel) ?_
  refine l_bz (p' := 2248) (z := (nI 0)) rfl rfl rfl rfl rfl (by decide +kernel) ?_
  refine l_if (p' := 2253) true rfl rfl (by decide +kernel) rfl ?_
  refine l_goto (p' := 2541) rfl rfl rfl ?_
  refine l_incz (p' := 2544) (w := (nI 4)) (ls' := [_, _, _, _, _, _, _, _, _, _]) rfl rfl rfl rfl (by decide +kernel) rfl rfl ?_
  refine l_goto (p' := 28) rfl rfl rfl ?_
  refine l_ild (p' := 30) rfl rfl rfl rfl ?_
  refine l_alds (p' := 31) rfl rfl rfl rfl ?_
  refine l_lens (p' := 32) rfl rfl rfl ?_
  refine l_con (p' := 33) rfl rfl rfl ?_
  refine l_bz (p' := 34) (z := (nI 0)) rfl rfl rfl rfl rfl (by decide +kernel) ?_
  refine l_icmp (p' := 2547) true rfl rfl (by decide +kernel) rfl ?_
  refine l_con (p' := 2548) rfl rfl rfl ?_
  refine l_end rfl rfl ?_
  exact ⟨Nat.le_trans (Nat.le_of_eq (len_s (len_s (len_s (len_s HL))))) (Nat.le_of_ble_eq_true rfl), Nat.le_trans (sz_sA rfl (rd_sn rfl (rd_sn rfl (rd_sn rfl H411))) (sz_s rfl (rd_sn rfl (rd_sn rfl H400)) rfl (sz_sA rfl (rd_sn rfl H412) (sz_sA rfl H397 HZ)))) (Nat.le_of_ble_eq_true rfl)⟩
theorem p1_41_2n {xs : Nat → Int32} {h : mj_H} (hk : xs 0 &&& nI 63 = nI 41) (hx1 : xs 1 = nI 2) {q : Int32} (hx2 : xs 2 = q) (hq : q.toInt < 0) (HL : h.length = 414) (HZ : mj_sz h ≤ 20000) (H0 : mj_rd h 0 = some (.inr (0, [.ref 1, .ref 38, .ref 299, .ref 336, .ref 373, .ref 375, .ref 378, .ref 381, .ref 387, .ref 393, .null, .null, .ref 397, .ref 398, .ref 399, .long (lN 0), .long (lN 0)]))) (H400 : mj_rd h 400 = some (.inr (17, [.int (nI 0), .ref 401, .ref 402, .ref 1000300, .long (lN 0), .long (lN 0), .ref 410, .null, .null, .null, .ref 411]))) : mj_fin 4 xs h := by
  unfold mj_fin
  refine l_ild (p' := 30) rfl rfl rfl rfl ?_
  refine l_alds (p' := 31) rfl rfl rfl rfl ?_
  refine l_lens (p' := 32) rfl rfl rfl ?_
  refine l_con (p' := 33) rfl rfl rfl ?_
  refine l_bz (p' := 34) (z := (nI 0)) rfl rfl rfl rfl rfl (by decide +kernel) ?_
  refine l_icmp (p' := 37) false rfl rfl (by decide +kernel) rfl ?_
  refine l_alds (p' := 38) rfl rfl rfl rfl ?_
  refine l_ild (p' := 40) rfl rfl rfl rfl ?_
  refine l_ialz (p' := 41) (m := 0) (z := (xs 0)) rfl rfl (by decide +kernel) rfl rfl rfl ?_
  refine l_bip (p' := 43) rfl rfl rfl ?_
  refine l_bz (p' := 44) (z := (nI 41)) rfl rfl rfl rfl rfl hk ?_
  refine l_sp (p' := 2188) (ls' := _) rfl rfl rfl rfl rfl ?_
  refine l_aldn (p' := 2189) rfl rfl rfl rfl ?_
  refine l_alds (p' := 2190) rfl rfl rfl rfl ?_
  refine l_ild (p' := 2192) rfl rfl rfl rfl ?_
  refine l_con (p' := 2193) rfl rfl rfl ?_
  refine l_bz (p' := 2194) (z := (nI 1)) rfl rfl rfl rfl rfl (by decide +kernel) ?_
  refine l_ialz (p' := 2195) (m := 1) (z := (nI 2)) rfl rfl (by decide +kernel) rfl hx1 rfl ?_
  refine l_alds (p' := 2196) rfl rfl rfl rfl ?_
  refine l_ild (p' := 2198) rfl rfl rfl rfl ?_
  refine l_con (p' := 2199) rfl rfl rfl ?_
  refine l_bz (p' := 2200) (z := (nI 2)) rfl rfl rfl rfl rfl (by decide +kernel) ?_
  refine l_ialz (p' := 2201) (m := 2) (z := q) rfl rfl (by decide +kernel) rfl hx2 rfl ?_
  refine l_aldn (p' := 2202) rfl rfl rfl rfl ?_
  refine l_call (p' := 2205) (kc := 99) (ls0 := [_, _, _, _, _]) rfl rfl rfl rfl rfl rfl rfl rfl rfl rfl ?_
  refine s_aldn (p' := 1) rfl rfl rfl ?_
  refine s_con (p' := 2) rfl rfl ?_
  refine s_aldn (p' := 3) rfl rfl rfl ?_
  refine s_ildn (p' := 4) rfl rfl rfl ?_
  refine s_ildn (p' := 5) rfl rfl rfl ?_
  refine c_call (p' := 8) (kc := 98) (ls0 := [_, _, _, _]) rfl rfl rfl rfl rfl (mj_rcv_is H0) rfl rfl rfl ?_
  refine s_ildn (p' := 1) rfl rfl rfl ?_
  refine c_call (p' := 4) (kc := 97) (ls0 := [_]) rfl rfl rfl rfl rfl rfl rfl rfl rfl ?_
  refine s_ildn (p' := 1) rfl rfl rfl ?_
  refine s_if (p' := 4) false rfl (by decide +kernel) rfl ?_
  refine s_ildn (p' := 5) rfl rfl rfl ?_
  refine s_bip (p' := 7) rfl rfl ?_
  refine s_icmp (p' := 10) false rfl (by decide +kernel) rfl ?_
  refine s_con (p' := 11) rfl rfl ?_
  refine s_goto (p' := 15) rfl rfl ?_
  refine c_iret rfl (by decide +kernel) ?_
  refine s_if (p' := 7) false rfl (by decide +kernel) rfl ?_
  refine s_ildn (p' := 8) rfl rfl rfl ?_
  refine c_call (p' := 11) (kc := 97) (ls0 := [_]) rfl rfl rfl rfl rfl rfl rfl rfl rfl ?_
  refine s_ildn (p' := 1) rfl rfl rfl ?_
  refine s_if (p' := 14) true rfl ((cg_lt (w := 0) (by decide +kernel)).trans (decide_eq_true (by omega))) rfl ?_
  refine s_con (p' := 15) rfl rfl ?_
  refine c_iret rfl (by decide +kernel) ?_
  refine s_if (p' := 14) false rfl (by decide +kernel) rfl ?_
  refine s_thrz (q := 414) rfl HL rfl ?_
  refine K_c (hp := 13) rfl (mj_ocl_is (rd_nw rfl HL)) rfl ?_
  refine s_ast (p' := 15) (ls' := [_, _, _, _, _]) rfl rfl rfl rfl ?_
  refine s_con (p' := 16) rfl rfl ?_
  refine k_iret rfl rfl ?_
  refine l_ist (p' := 2207) (ls' := [_, _, _, _, _, _, _, _, _, _]) rfl rfl rfl rfl rfl ?_
  refine l_aldn (p' := 2208) rfl rfl rfl rfl ?_
  refine l_alds (p' := 2209) rfl rfl rfl rfl ?_
  refine l_ild (p' := 2211) rfl rfl rfl rfl ?_
  refine l_con (p' := 2212) rfl rfl rfl ?_
  refine l_bz (p' := 2213) (z := (nI 1)) rfl rfl rfl rfl rfl (by decide +kernel) ?_
  refine l_ialz (p' := 2214) (m := 1) (z := (nI 2)) rfl rfl (by decide +kernel) rfl hx1 rfl ?_
  refine l_alds (p' := 2215) rfl rfl rfl rfl ?_
  refine l_ild (p' := 2217) rfl rfl rfl rfl ?_
  refine l_con (p' := 2218) rfl rfl rfl ?_
  refine l_bz (p' := 2219) (z := (nI 2)) rfl rfl rfl rfl rfl (by decide +kernel) ?_
  refine l_ialz (p' := 2220) (m := 2) (z := q) rfl rfl (by decide +kernel) rfl hx2 rfl ?_
  refine l_call (p' := 2223) (kc := 99) (ls0 := [_, _, _, _]) rfl rfl rfl rfl rfl rfl (mj_rcv_is (rd_app H400)) rfl rfl rfl ?_
  refine s_aldn (p' := 1) rfl rfl rfl ?_
  refine s_ildn (p' := 2) rfl rfl rfl ?_
  refine s_con (p' := 3) rfl rfl ?_
  refine s_bip (p' := 5) rfl rfl ?_
  refine c_call (p' := 8) (kc := 98) (ls0 := [_, _, _]) rfl rfl rfl rfl rfl rfl rfl rfl rfl ?_
  refine s_ildn (p' := 1) rfl rfl rfl ?_
  refine s_ildn (p' := 2) rfl rfl rfl ?_
  refine s_icmp (p' := 5) false rfl (by decide +kernel) rfl ?_
  refine s_ildn (p' := 6) rfl rfl rfl ?_
  refine s_ildn (p' := 7) rfl rfl rfl ?_
  refine s_icmp (p' := 10) false rfl (by decide +kernel) rfl ?_
  refine s_con (p' := 11) rfl rfl ?_
  refine s_goto (p' := 15) rfl rfl ?_
  refine c_iret rfl (by decide +kernel) ?_
  refine s_if (p' := 11) false rfl (by decide +kernel) rfl ?_
  refine s_ildn (p' := 12) rfl rfl rfl ?_
  refine s_con (p' := 13) rfl rfl ?_
  refine s_bip (p' := 15) rfl rfl ?_
  refine c_call (p' := 18) (kc := 98) (ls0 := [_, _, _]) rfl rfl rfl rfl rfl rfl rfl rfl rfl ?_
  refine s_ildn (p' := 1) rfl rfl rfl ?_
  refine s_ildn (p' := 2) rfl rfl rfl ?_
  refine s_icmp (p' := 14) true rfl ((ch_gt (w := 0) (by decide +kernel)).trans (decide_eq_true (by omega))) rfl ?_
  refine s_con (p' := 15) rfl rfl ?_
  refine c_iret rfl (by decide +kernel) ?_
  refine s_if (p' := 25) true rfl (by decide +kernel) rfl ?_
  refine s_con (p' := 26) rfl rfl ?_
  refine c_call (p' := 29) (kc := 98) (ls0 := [_, _]) rfl rfl rfl rfl rfl (mj_rcv_is (rd_app H400)) rfl rfl rfl ?_
  refine s_aldn (p' := 1) rfl rfl rfl ?_
  refine s_ildn (p' := 2) rfl rfl rfl ?_
  refine s_pfz (p' := 5) (fs' := [_, _, _, _, _, _, _, _, _, _, _]) rfl rfl (rd_app H400) rfl rfl rfl rfl ?_
  refine s_ildn (p' := 6) rfl rfl rfl ?_
  refine s_if (p' := 9) false rfl (by decide +kernel) rfl ?_
  refine s_con (p' := 10) rfl rfl ?_
  refine s_goto (p' := 14) rfl rfl ?_
  refine c_iret rfl (by decide +kernel) ?_
  refine s_if (p' := 32) false rfl (by decide +kernel) rfl ?_
  refine s_con (p' := 33) rfl rfl ?_
  refine k_iret rfl rfl ?_
  refine l_ist (p' := 2225) (ls' := [_, _, _, _, _, _, _, _, _, _]) rfl rfl rfl rfl rfl ?_
  refine l_aldn (p' := 2226) rfl rfl rfl rfl ?_
  refine l_call (p' := 2229) (kc := 99) (ls0 := [_]) rfl rfl rfl rfl rfl rfl (mj_rcv_is (rd_ss rfl (rd_app H400))) rfl rfl rfl ?_
  refine s_aldn (p' := 1) rfl rfl rfl ?_
  refine s_gf (p' := 4) rfl (rd_ss rfl (rd_app H400)) rfl rfl ?_
  refine k_iret rfl rfl ?_
  refine l_ild (p' := 2231) rfl rfl rfl rfl ?_
  refine l_icmp (p' := 2236) true rfl rfl (by decide +kernel) rfl ?_
  refine l_ild (p' := 2238) rfl rfl rfl rfl ?_
  refine l_if (p' := 2253) true rfl rfl (by decide +kernel) rfl ?_
  refine l_goto (p' := 2541) rfl rfl rfl ?_
  refine l_incz (p' := 2544) (w := (nI 4)) (ls' := [_, _, _, _, _, _, _, _, _, _]) rfl rfl rfl rfl (by decide +kernel) rfl rfl ?_
  refine l_goto (p' := 28) rfl rfl rfl ?_
  refine l_ild (p' := 30) rfl rfl rfl rfl ?_
  refine l_alds (p' := 31) rfl rfl rfl rfl ?_
  refine l_lens (p' := 32) rfl rfl rfl ?_
  refine l_con (p' := 33) rfl rfl rfl ?_
  refine l_bz (p' := 34) (z := (nI 0)) rfl rfl rfl rfl rfl (by decide +kernel) ?_
  refine l_icmp (p' := 2547) true rfl rfl (by decide +kernel) rfl ?_
  refine l_con (p' := 2548) rfl rfl rfl ?_
  refine l_end rfl rfl ?_
  exact ⟨Nat.le_trans (Nat.le_of_eq (len_s (len_a HL rfl))) (Nat.le_of_ble_eq_true rfl), Nat.le_trans (sz_s rfl (rd_app H400) rfl (sz_aa (k := 6) (m := 20006) rfl rfl HZ)) (Nat.le_of_ble_eq_true rfl)⟩
theorem p1_41_2m {xs : Nat → Int32} {h : mj_H} (hk : xs 0 &&& nI 63 = nI 41) (hx1 : xs 1 = nI 2) {q : Int32} (hx2 : xs 2 = q) (hq : 7 < q.toInt) (HL : h.length = 414) (HZ : mj_sz h ≤ 20000) (H0 : mj_rd h 0 = some (.inr (0, [.ref 1, .ref 38, .ref 299, .ref 336, .ref 373, .ref 375, .ref 378, .ref 381, .ref 387, .ref 393, .null, .null, .ref 397, .ref 398, .ref 399, .long (lN 0), .long (lN 0)]))) (H400 : mj_rd h 400 = some (.inr (17, [.int (nI 0), .ref 401, .ref 402, .ref 1000300, .long (lN 0), .long (lN 0), .ref 410, .null, .null, .null, .ref 411]))) : mj_fin 4 xs h := by
  unfold mj_fin
  refine l_ild (p' := 30) rfl rfl rfl rfl ?_
  refine l_alds (p' := 31) rfl rfl rfl rfl ?_
  refine l_lens (p' := 32) rfl rfl rfl ?_
  refine l_con (p' := 33) rfl rfl rfl ?_
  refine l_bz (p' := 34) (z := (nI 0)) rfl rfl rfl rfl rfl (by decide +kernel) ?_
  refine l_icmp (p' := 37) false rfl rfl (by decide +kernel) rfl ?_
  refine l_alds (p' := 38) rfl rfl rfl rfl ?_
  refine l_ild (p' := 40) rfl rfl rfl rfl ?_
  refine l_ialz (p' := 41) (m := 0) (z := (xs 0)) rfl rfl (by decide +kernel) rfl rfl rfl ?_
  refine l_bip (p' := 43) rfl rfl rfl ?_
  refine l_bz (p' := 44) (z := (nI 41)) rfl rfl rfl rfl rfl hk ?_
  refine l_sp (p' := 2188) (ls' := _) rfl rfl rfl rfl rfl ?_
  refine l_aldn (p' := 2189) rfl rfl rfl rfl ?_
  refine l_alds (p' := 2190) rfl rfl rfl rfl ?_
  refine l_ild (p' := 2192) rfl rfl rfl rfl ?_
  refine l_con (p' := 2193) rfl rfl rfl ?_
  refine l_bz (p' := 2194) (z := (nI 1)) rfl rfl rfl rfl rfl (by decide +kernel) ?_
  refine l_ialz (p' := 2195) (m := 1) (z := (nI 2)) rfl rfl (by decide +kernel) rfl hx1 rfl ?_
  refine l_alds (p' := 2196) rfl rfl rfl rfl ?_
  refine l_ild (p' := 2198) rfl rfl rfl rfl ?_
  refine l_con (p' := 2199) rfl rfl rfl ?_
  refine l_bz (p' := 2200) (z := (nI 2)) rfl rfl rfl rfl rfl (by decide +kernel) ?_
  refine l_ialz (p' := 2201) (m := 2) (z := q) rfl rfl (by decide +kernel) rfl hx2 rfl ?_
  refine l_aldn (p' := 2202) rfl rfl rfl rfl ?_
  refine l_call (p' := 2205) (kc := 99) (ls0 := [_, _, _, _, _]) rfl rfl rfl rfl rfl rfl rfl rfl rfl rfl ?_
  refine s_aldn (p' := 1) rfl rfl rfl ?_
  refine s_con (p' := 2) rfl rfl ?_
  refine s_aldn (p' := 3) rfl rfl rfl ?_
  refine s_ildn (p' := 4) rfl rfl rfl ?_
  refine s_ildn (p' := 5) rfl rfl rfl ?_
  refine c_call (p' := 8) (kc := 98) (ls0 := [_, _, _, _]) rfl rfl rfl rfl rfl (mj_rcv_is H0) rfl rfl rfl ?_
  refine s_ildn (p' := 1) rfl rfl rfl ?_
  refine c_call (p' := 4) (kc := 97) (ls0 := [_]) rfl rfl rfl rfl rfl rfl rfl rfl rfl ?_
  refine s_ildn (p' := 1) rfl rfl rfl ?_
  refine s_if (p' := 4) false rfl (by decide +kernel) rfl ?_
  refine s_ildn (p' := 5) rfl rfl rfl ?_
  refine s_bip (p' := 7) rfl rfl ?_
  refine s_icmp (p' := 10) false rfl (by decide +kernel) rfl ?_
  refine s_con (p' := 11) rfl rfl ?_
  refine s_goto (p' := 15) rfl rfl ?_
  refine c_iret rfl (by decide +kernel) ?_
  refine s_if (p' := 7) false rfl (by decide +kernel) rfl ?_
  refine s_ildn (p' := 8) rfl rfl rfl ?_
  refine c_call (p' := 11) (kc := 97) (ls0 := [_]) rfl rfl rfl rfl rfl rfl rfl rfl rfl ?_
  refine s_ildn (p' := 1) rfl rfl rfl ?_
  refine s_if (p' := 4) false rfl ((cg_lt (w := 0) (by decide +kernel)).trans (decide_eq_false (by omega))) rfl ?_
  refine s_ildn (p' := 5) rfl rfl rfl ?_
  refine s_bip (p' := 7) rfl rfl ?_
  refine s_icmp (p' := 14) true rfl ((cg_ge (w := 8) (by decide +kernel)).trans (decide_eq_true (by omega))) rfl ?_
  refine s_con (p' := 15) rfl rfl ?_
  refine c_iret rfl (by decide +kernel) ?_
  refine s_if (p' := 14) false rfl (by decide +kernel) rfl ?_
  refine s_thrz (q := 414) rfl HL rfl ?_
  refine K_c (hp := 13) rfl (mj_ocl_is (rd_nw rfl HL)) rfl ?_
  refine s_ast (p' := 15) (ls' := [_, _, _, _, _]) rfl rfl rfl rfl ?_
  refine s_con (p' := 16) rfl rfl ?_
  refine k_iret rfl rfl ?_
  refine l_ist (p' := 2207) (ls' := [_, _, _, _, _, _, _, _, _, _]) rfl rfl rfl rfl rfl ?_
  refine l_aldn (p' := 2208) rfl rfl rfl rfl ?_
  refine l_alds (p' := 2209) rfl rfl rfl rfl ?_
  refine l_ild (p' := 2211) rfl rfl rfl rfl ?_
  refine l_con (p' := 2212) rfl rfl rfl ?_
  refine l_bz (p' := 2213) (z := (nI 1)) rfl rfl rfl rfl rfl (by decide +kernel) ?_
  refine l_ialz (p' := 2214) (m := 1) (z := (nI 2)) rfl rfl (by decide +kernel) rfl hx1 rfl ?_
  refine l_alds (p' := 2215) rfl rfl rfl rfl ?_
  refine l_ild (p' := 2217) rfl rfl rfl rfl ?_
  refine l_con (p' := 2218) rfl rfl rfl ?_
  refine l_bz (p' := 2219) (z := (nI 2)) rfl rfl rfl rfl rfl (by decide +kernel) ?_
  refine l_ialz (p' := 2220) (m := 2) (z := q) rfl rfl (by decide +kernel) rfl hx2 rfl ?_
  refine l_call (p' := 2223) (kc := 99) (ls0 := [_, _, _, _]) rfl rfl rfl rfl rfl rfl (mj_rcv_is (rd_app H400)) rfl rfl rfl ?_
  refine s_aldn (p' := 1) rfl rfl rfl ?_
  refine s_ildn (p' := 2) rfl rfl rfl ?_
  refine s_con (p' := 3) rfl rfl ?_
  refine s_bip (p' := 5) rfl rfl ?_
  refine c_call (p' := 8) (kc := 98) (ls0 := [_, _, _]) rfl rfl rfl rfl rfl rfl rfl rfl rfl ?_
  refine s_ildn (p' := 1) rfl rfl rfl ?_
  refine s_ildn (p' := 2) rfl rfl rfl ?_
  refine s_icmp (p' := 5) false rfl (by decide +kernel) rfl ?_
  refine s_ildn (p' := 6) rfl rfl rfl ?_
  refine s_ildn (p' := 7) rfl rfl rfl ?_
  refine s_icmp (p' := 10) false rfl (by decide +kernel) rfl ?_
  refine s_con (p' := 11) rfl rfl ?_
  refine s_goto (p' := 15) rfl rfl ?_
  refine c_iret rfl (by decide +kernel) ?_
  refine s_if (p' := 11) false rfl (by decide +kernel) rfl ?_
  refine s_ildn (p' := 12) rfl rfl rfl ?_
  refine s_con (p' := 13) rfl rfl ?_
  refine s_bip (p' := 15) rfl rfl ?_
  refine c_call (p' := 18) (kc := 98) (ls0 := [_, _, _]) rfl rfl rfl rfl rfl rfl rfl rfl rfl ?_
  refine s_ildn (p' := 1) rfl rfl rfl ?_
  refine s_ildn (p' := 2) rfl rfl rfl ?_
  refine s_icmp (p' := 5) false rfl ((ch_gt (w := 0) (by decide +kernel)).trans (decide_eq_false (by omega))) rfl ?_
  refine s_ildn (p' := 6) rfl rfl rfl ?_
  refine s_ildn (p' := 7) rfl rfl rfl ?_
  refine s_icmp (p' := 14) true rfl ((cg_gt (w := 7) (by decide +kernel)).trans (decide_eq_true (by omega))) rfl ?_
  refine s_con (p' := 15) rfl rfl ?_
  refine c_iret rfl (by decide +kernel) ?_
  refine s_if (p' := 25) true rfl (by decide +kernel) rfl ?_
  refine s_con (p' := 26) rfl rfl ?_
  refine c_call (p' := 29) (kc := 98) (ls0 := [_, _]) rfl rfl rfl rfl rfl (mj_rcv_is (rd_app H400)) rfl rfl rfl ?_
  refine s_aldn (p' := 1) rfl rfl rfl ?_
  refine s_ildn (p' := 2) rfl rfl rfl ?_
  refine s_pfz (p' := 5) (fs' := [_, _, _, _, _, _, _, _, _, _, _]) rfl rfl (rd_app H400) rfl rfl rfl rfl ?_
  refine s_ildn (p' := 6) rfl rfl rfl ?_
  refine s_if (p' := 9) false rfl (by decide +kernel) rfl ?_
  refine s_con (p' := 10) rfl rfl ?_
  refine s_goto (p' := 14) rfl rfl ?_
  refine c_iret rfl (by decide +kernel) ?_
  refine s_if (p' := 32) false rfl (by decide +kernel) rfl ?_
  refine s_con (p' := 33) rfl rfl ?_
  refine k_iret rfl rfl ?_
  refine l_ist (p' := 2225) (ls' := [_, _, _, _, _, _, _, _, _, _]) rfl rfl rfl rfl rfl ?_
  refine l_aldn (p' := 2226) rfl rfl rfl rfl ?_
  refine l_call (p' := 2229) (kc := 99) (ls0 := [_]) rfl rfl rfl rfl rfl rfl (mj_rcv_is (rd_ss rfl (rd_app H400))) rfl rfl rfl ?_
  refine s_aldn (p' := 1) rfl rfl rfl ?_
  refine s_gf (p' := 4) rfl (rd_ss rfl (rd_app H400)) rfl rfl ?_
  refine k_iret rfl rfl ?_
  refine l_ild (p' := 2231) rfl rfl rfl rfl ?_
  refine l_icmp (p' := 2236) true rfl rfl (by decide +kernel) rfl ?_
  refine l_ild (p' := 2238) rfl rfl rfl rfl ?_
  refine l_if (p' := 2253) true rfl rfl (by decide +kernel) rfl ?_
  refine l_goto (p' := 2541) rfl rfl rfl ?_
  refine l_incz (p' := 2544) (w := (nI 4)) (ls' := [_, _, _, _, _, _, _, _, _, _]) rfl rfl rfl rfl (by decide +kernel) rfl rfl ?_
  refine l_goto (p' := 28) rfl rfl rfl ?_
  refine l_ild (p' := 30) rfl rfl rfl rfl ?_
  refine l_alds (p' := 31) rfl rfl rfl rfl ?_
  refine l_lens (p' := 32) rfl rfl rfl ?_
  refine l_con (p' := 33) rfl rfl rfl ?_
  refine l_bz (p' := 34) (z := (nI 0)) rfl rfl rfl rfl rfl (by decide +kernel) ?_
  refine l_icmp (p' := 2547) true rfl rfl (by decide +kernel) rfl ?_
  refine l_con (p' := 2548) rfl rfl rfl ?_
  refine l_end rfl rfl ?_
  exact ⟨Nat.le_trans (Nat.le_of_eq (len_s (len_a HL rfl))) (Nat.le_of_ble_eq_true rfl), Nat.le_trans (sz_s rfl (rd_app H400) rfl (sz_aa (k := 6) (m := 20006) rfl rfl HZ)) (Nat.le_of_ble_eq_true rfl)⟩
theorem p1_41_3 {xs : Nat → Int32} {h : mj_H} (hk : xs 0 &&& nI 63 = nI 41) (hx1 : xs 1 = nI 3) {q : Int32} (hx2 : xs 2 = q) (hq : 0 ≤ q.toInt ∧ q.toInt ≤ 7) (HL : h.length = 414) (HZ : mj_sz h ≤ 20000) (H0 : mj_rd h 0 = some (.inr (0, [.ref 1, .ref 38, .ref 299, .ref 336, .ref 373, .ref 375, .ref 378, .ref 381, .ref 387, .ref 393, .null, .null, .ref 397, .ref 398, .ref 399, .long (lN 0), .long (lN 0)]))) (H397 : mj_rd h 397 = some (.inl (0, (8, .inl (fun _ => 0))))) (H400 : mj_rd h 400 = some (.inr (17, [.int (nI 0), .ref 401, .ref 402, .ref 1000300, .long (lN 0), .long (lN 0), .ref 410, .null, .null, .null, .ref 411]))) (H411 : mj_rd h 411 = some (.inl (0, (8, .inl (fun _ => 0))))) (H412 : mj_rd h 412 = some (.inl (4, (1, .inr (.inl (fun _ => 0)))))) : mj_fin 4 xs h := by
  unfold mj_fin
  refine l_ild (p' := 30) rfl rfl rfl rfl ?_
  refine l_alds (p' := 31) rfl rfl rfl rfl ?_
  refine l_lens (p' := 32) rfl rfl rfl ?_
  refine l_con (p' := 33) rfl rfl rfl ?_
  refine l_bz (p' := 34) (z := (nI 0)) rfl rfl rfl rfl rfl (by decide +kernel) ?_
  refine l_icmp (p' := 37) false rfl rfl (by decide +kernel) rfl ?_
  refine l_alds (p' := 38) rfl rfl rfl rfl ?_
  refine l_ild (p' := 40) rfl rfl rfl rfl ?_
  refine l_ialz (p' := 41) (m := 0) (z := (xs 0)) rfl rfl (by decide +kernel) rfl rfl rfl ?_
  refine l_bip (p' := 43) rfl rfl rfl ?_
  refine l_bz (p' := 44) (z := (nI 41)) rfl rfl rfl rfl rfl hk ?_
  refine l_sp (p' := 2188) (ls' := _) rfl rfl rfl rfl rfl ?_
  refine l_aldn (p' := 2189) rfl rfl rfl rfl ?_
  refine l_alds (p' := 2190) rfl rfl rfl rfl ?_
  refine l_ild (p' := 2192) rfl rfl rfl rfl ?_
  refine l_con (p' := 2193) rfl rfl rfl ?_
  refine l_bz (p' := 2194) (z := (nI 1)) rfl rfl rfl rfl rfl (by decide +kernel) ?_
  refine l_ialz (p' := 2195) (m := 1) (z := (nI 3)) rfl rfl (by decide +kernel) rfl hx1 rfl ?_
  refine l_alds (p' := 2196) rfl rfl rfl rfl ?_
  refine l_ild (p' := 2198) rfl rfl rfl rfl ?_
  refine l_con (p' := 2199) rfl rfl rfl ?_
  refine l_bz (p' := 2200) (z := (nI 2)) rfl rfl rfl rfl rfl (by decide +kernel) ?_
  refine l_ialz (p' := 2201) (m := 2) (z := q) rfl rfl (by decide +kernel) rfl hx2 rfl ?_
  refine l_aldn (p' := 2202) rfl rfl rfl rfl ?_
  refine l_call (p' := 2205) (kc := 99) (ls0 := [_, _, _, _, _]) rfl rfl rfl rfl rfl rfl rfl rfl rfl rfl ?_
  refine s_aldn (p' := 1) rfl rfl rfl ?_
  refine s_con (p' := 2) rfl rfl ?_
  refine s_aldn (p' := 3) rfl rfl rfl ?_
  refine s_ildn (p' := 4) rfl rfl rfl ?_
  refine s_ildn (p' := 5) rfl rfl rfl ?_
  refine c_call (p' := 8) (kc := 98) (ls0 := [_, _, _, _]) rfl rfl rfl rfl rfl (mj_rcv_is H0) rfl rfl rfl ?_
  refine s_ildn (p' := 1) rfl rfl rfl ?_
  refine c_call (p' := 4) (kc := 97) (ls0 := [_]) rfl rfl rfl rfl rfl rfl rfl rfl rfl ?_
  refine s_ildn (p' := 1) rfl rfl rfl ?_
  refine s_if (p' := 4) false rfl (by decide +kernel) rfl ?_
  refine s_ildn (p' := 5) rfl rfl rfl ?_
  refine s_bip (p' := 7) rfl rfl ?_
  refine s_icmp (p' := 10) false rfl (by decide +kernel) rfl ?_
  refine s_con (p' := 11) rfl rfl ?_
  refine s_goto (p' := 15) rfl rfl ?_
  refine c_iret rfl (by decide +kernel) ?_
  refine s_if (p' := 7) false rfl (by decide +kernel) rfl ?_
  refine s_ildn (p' := 8) rfl rfl rfl ?_
  refine c_call (p' := 11) (kc := 97) (ls0 := [_]) rfl rfl rfl rfl rfl rfl rfl rfl rfl ?_
  refine s_ildn (p' := 1) rfl rfl rfl ?_
  refine s_if (p' := 4) false rfl ((cg_lt (w := 0) (by decide +kernel)).trans (decide_eq_false (by omega))) rfl ?_
  refine s_ildn (p' := 5) rfl rfl rfl ?_
  refine s_bip (p' := 7) rfl rfl ?_
  refine s_icmp (p' := 10) false rfl ((cg_ge (w := 8) (by decide +kernel)).trans (decide_eq_false (by omega))) rfl ?_
  refine s_con (p' := 11) rfl rfl ?_
  refine s_goto (p' := 15) rfl rfl ?_
  refine c_iret rfl (by decide +kernel) ?_
  refine s_if (p' := 25) true rfl (by decide +kernel) rfl ?_
  refine s_aldn (p' := 26) rfl rfl rfl ?_
  refine s_gf (p' := 29) rfl H0 rfl rfl ?_
  refine s_ildn (p' := 30) rfl rfl rfl ?_
  refine s_ialz (p' := 31) (m := 3) (v := (nI 0)) rfl H397 (by decide +kernel) rfl (by decide +kernel) rfl ?_
  refine s_istn (p' := 32) (ls' := [_, _, _, _]) rfl rfl rfl rfl ?_
  refine s_aldn (p' := 33) rfl rfl rfl ?_
  refine s_gf (p' := 36) rfl H0 rfl rfl ?_
  refine s_ildn (p' := 37) rfl rfl rfl ?_
  refine s_ildn (p' := 38) rfl rfl rfl ?_
  refine s_iasz (p' := 39) (m := 3) rfl rfl H397 (by decide +kernel) rfl rfl rfl ?_
  refine s_ildn (p' := 40) rfl rfl rfl ?_
  refine c_iret rfl rfl ?_
  refine s_bzL (p' := 9) (z := (lN 0)) rfl rfl rfl (by decide +kernel) ?_
  refine s_lasz (p' := 10) (m := 0) rfl rfl (rd_sn rfl H412) (by decide +kernel) rfl rfl rfl ?_
  refine s_goto (p' := 17) rfl rfl ?_
  refine s_con (p' := 18) rfl rfl ?_
  refine k_iret rfl rfl ?_
  refine l_ist (p' := 2207) (ls' := [_, _, _, _, _, _, _, _, _, _]) rfl rfl rfl rfl rfl ?_
  refine l_aldn (p' := 2208) rfl rfl rfl rfl ?_
  refine l_alds (p' := 2209) rfl rfl rfl rfl ?_
  refine l_ild (p' := 2211) rfl rfl rfl rfl ?_
  refine l_con (p' := 2212) rfl rfl rfl ?_
  refine l_bz (p' := 2213) (z := (nI 1)) rfl rfl rfl rfl rfl (by decide +kernel) ?_
  refine l_ialz (p' := 2214) (m := 1) (z := (nI 3)) rfl rfl (by decide +kernel) rfl hx1 rfl ?_
  refine l_alds (p' := 2215) rfl rfl rfl rfl ?_
  refine l_ild (p' := 2217) rfl rfl rfl rfl ?_
  refine l_con (p' := 2218) rfl rfl rfl ?_
  refine l_bz (p' := 2219) (z := (nI 2)) rfl rfl rfl rfl rfl (by decide +kernel) ?_
  refine l_ialz (p' := 2220) (m := 2) (z := q) rfl rfl (by decide +kernel) rfl hx2 rfl ?_
  refine l_call (p' := 2223) (kc := 99) (ls0 := [_, _, _, _]) rfl rfl rfl rfl rfl rfl (mj_rcv_is (rd_sn rfl (rd_sn rfl H400))) rfl rfl rfl ?_
  refine s_aldn (p' := 1) rfl rfl rfl ?_
  refine s_ildn (p' := 2) rfl rfl rfl ?_
  refine s_con (p' := 3) rfl rfl ?_
  refine s_bip (p' := 5) rfl rfl ?_
  refine c_call (p' := 8) (kc := 98) (ls0 := [_, _, _]) rfl rfl rfl rfl rfl rfl rfl rfl rfl ?_
  refine s_ildn (p' := 1) rfl rfl rfl ?_
  refine s_ildn (p' := 2) rfl rfl rfl ?_
  refine s_icmp (p' := 5) false rfl (by decide +kernel) rfl ?_
  refine s_ildn (p' := 6) rfl rfl rfl ?_
  refine s_ildn (p' := 7) rfl rfl rfl ?_
  refine s_icmp (p' := 10) false rfl (by decide +kernel) rfl ?_
  refine s_con (p' := 11) rfl rfl ?_
  refine s_goto (p' := 15) rfl rfl ?_
  refine c_iret rfl (by decide +kernel) ?_
  refine s_if (p' := 11) false rfl (by decide +kernel) rfl ?_
  refine s_ildn (p' := 12) rfl rfl rfl ?_
  refine s_con (p' := 13) rfl rfl ?_
  refine s_bip (p' := 15) rfl rfl ?_
  refine c_call (p' := 18) (kc := 98) (ls0 := [_, _, _]) rfl rfl rfl rfl rfl rfl rfl rfl rfl ?_
  refine s_ildn (p' := 1) rfl rfl rfl ?_
  refine s_ildn (p' := 2) rfl rfl rfl ?_
  refine s_icmp (p' := 5) false rfl ((ch_gt (w := 0) (by decide +kernel)).trans (decide_eq_false (by omega))) rfl ?_
  refine s_ildn (p' := 6) rfl rfl rfl ?_
  refine s_ildn (p' := 7) rfl rfl rfl ?_
  refine s_icmp (p' := 10) false rfl ((cg_gt (w := 7) (by decide +kernel)).trans (decide_eq_false (by omega))) rfl ?_
  refine s_con (p' := 11) rfl rfl ?_
  refine s_goto (p' := 15) rfl rfl ?_
  refine c_iret rfl (by decide +kernel) ?_
  refine s_if (p' := 21) false rfl (by decide +kernel) rfl ?_
  refine s_con (p' := 22) rfl rfl ?_
  refine s_goto (p' := 26) rfl rfl ?_
  refine c_call (p' := 29) (kc := 98) (ls0 := [_, _]) rfl rfl rfl rfl rfl (mj_rcv_is (rd_sn rfl (rd_sn rfl H400))) rfl rfl rfl ?_
  refine s_aldn (p' := 1) rfl rfl rfl ?_
  refine s_ildn (p' := 2) rfl rfl rfl ?_
  refine s_pfz (p' := 5) (fs' := [_, _, _, _, _, _, _, _, _, _, _]) rfl rfl (rd_sn rfl (rd_sn rfl H400)) rfl rfl rfl rfl ?_
  refine s_ildn (p' := 6) rfl rfl rfl ?_
  refine s_if (p' := 13) true rfl (by decide +kernel) rfl ?_
  refine s_con (p' := 14) rfl rfl ?_
  refine c_iret rfl (by decide +kernel) ?_
  refine s_if (p' := 34) true rfl (by decide +kernel) rfl ?_
  refine s_aldn (p' := 35) rfl rfl rfl ?_
  refine s_gf (p' := 38) rfl (rd_ss rfl (rd_sn rfl (rd_sn rfl H400))) rfl rfl ?_
  refine s_ildn (p' := 39) rfl rfl rfl ?_
  refine s_ialz (p' := 40) (m := 3) (v := (nI 0)) rfl (rd_sn rfl (rd_sn rfl (rd_sn rfl H411))) (by decide +kernel) rfl (by decide +kernel) rfl ?_
  refine s_istn (p' := 41) (ls' := [_, _, _, _]) rfl rfl rfl rfl ?_
  refine s_aldn (p' := 42) rfl rfl rfl ?_
  refine s_gf (p' := 45) rfl (rd_ss rfl (rd_sn rfl (rd_sn rfl H400))) rfl rfl ?_
  refine s_ildn (p' := 46) rfl rfl rfl ?_
  refine s_ildn (p' := 47) rfl rfl rfl ?_
  refine s_iasz (p' := 48) (m := 3) rfl rfl (rd_sn rfl (rd_sn rfl (rd_sn rfl H411))) (by decide +kernel) rfl rfl rfl ?_
  refine s_ildn (p' := 49) rfl rfl rfl ?_
  refine k_iret rfl rfl ?_
  refine l_ist (p' := 2225) (ls' := [_, _, _, _, _, _, _, _, _, _]) rfl rfl rfl rfl rfl ?_
  refine l_aldn (p' := 2226) rfl rfl rfl rfl ?_
  refine l_call (p' := 2229) (kc := 99) (ls0 := [_]) rfl rfl rfl rfl rfl rfl (mj_rcv_is (rd_sn rfl (rd_ss rfl (rd_sn rfl (rd_sn rfl H400))))) rfl rfl rfl ?_
  refine s_aldn (p' := 1) rfl rfl rfl ?_
  refine s_gf (p' := 4) rfl (rd_sn rfl (rd_ss rfl (rd_sn rfl (rd_sn rfl H400)))) rfl rfl ?_
  refine k_iret rfl rfl ?_
  refine l_ild (p' := 2231) rfl rfl rfl rfl ?_
  refine l_icmp (p' := 2236) true rfl rfl (by decide +kernel) rfl ?_
  refine l_ild (p' := 2238) rfl rfl rfl rfl ?_
  refine l_if (p' := 2241) false rfl rfl (by decide +kernel) rfl ?_
  refine l_aldn (p' := 2242) rfl rfl rfl rfl ?_
  refine l_con (p' := 2243) rfl rfl rfl ?_
  refine l_lalz (p' := 2244) (m := 0) (v := (lN 0)) rfl rfl (rd_sn rfl (rd_sn rfl (rd_ss rfl (rd_sn rfl H412)))) (by decide +kernel) rfl (by decide +kernel) rfl ?_
  refine l_ild (p' := 2246) rfl rfl rfl rfl ?_
  refine l_bzL (p' := 2247) (z := (lN 0)) rfl rfl rfl rfl rfl (by decide +kernel) ?_
  refine l_bz (p' := 2248) (z := (nI 0)) rfl rfl rfl rfl rfl (by decide +kernel) ?_
  refine l_if (p' := 2253) true rfl rfl (by decide +kernel) rfl ?_
  refine l_goto (p' := 2541) rfl rfl rfl ?_
  refine l_incz (p' := 2544) (w := (nI 4)) (ls' := [_, _, _, _, _, _, _, _, _, _]) rfl rfl rfl rfl (by decide +kernel) rfl rfl ?_
  refine l_goto (p' := 28) rfl rfl rfl ?_
  refine l_ild (p' := 30) rfl rfl rfl rfl ?_
  refine l_alds (p' := 31) rfl rfl rfl rfl ?_
  refine l_lens (p' := 32) rfl rfl rfl ?_
  refine l_con (p' := 33) rfl rfl rfl ?_
  refine l_bz (p' := 34) (z := (nI 0)) rfl rfl rfl rfl rfl (by decide +kernel) ?_
  refine l_icmp (p' := 2547) true rfl rfl (by decide +kernel) rfl ?_
  refine l_con (p' := 2548) rfl rfl rfl ?_
  refine l_end rfl rfl ?_
  exact ⟨Nat.le_trans (Nat.le_of_eq (len_s (len_s (len_s (len_s HL))))) (Nat.le_of_ble_eq_true rfl), Nat.le_trans (sz_sA rfl (rd_sn rfl (rd_sn rfl (rd_sn rfl H411))) (sz_s rfl (rd_sn rfl (rd_sn rfl H400)) rfl (sz_sA rfl (rd_sn rfl H412) (sz_sA rfl H397 HZ)))) (Nat.le_of_ble_eq_true rfl)⟩
theorem p1_41_3n {xs : Nat → Int32} {h : mj_H} (hk : xs 0 &&& nI 63 = nI 41) (hx1 : xs 1 = nI 3) {q : Int32} (hx2 : xs 2 = q) (hq : q.toInt < 0) (HL : h.length = 414) (HZ : mj_sz h ≤ 20000) (H0 : mj_rd h 0 = some (.inr (0, [.ref 1, .ref 38, .ref 299, .ref 336, .ref 373, .ref 375, .ref 378, .ref 381, .ref 387, .ref 393, .null, .null, .ref 397, .ref 398, .ref 399, .long (lN 0), .long (lN 0)]))) (H400 : mj_rd h 400 = some (.inr (17, [.int (nI 0), .ref 401, .ref 402, .ref 1000300, .long (lN 0), .long (lN 0), .ref 410, .null, .null, .null, .ref 411]))) : mj_fin 4 xs h := by
  unfold mj_fin
  refine l_ild (p' := 30) rfl rfl rfl rfl ?_
  refine l_alds (p' := 31) rfl rfl rfl rfl ?_
  refine l_lens (p' := 32) rfl rfl rfl ?_
  refine l_con (p' := 33) rfl rfl rfl ?_
  refine l_bz (p' := 34) (z := (nI 0)) rfl rfl rfl rfl rfl (by decide +kernel) ?_
  refine l_icmp (p' := 37) false rfl rfl (by decide +kernel) rfl ?_
  refine l_alds (p' := 38) rfl rfl rfl rfl ?_
  refine l_ild (p' := 40) rfl rfl rfl rfl ?_
  refine l_ialz (p' := 41) (m := 0) (z := (xs 0)) rfl rfl (by decide +kernel) rfl rfl rfl ?_
  refine l_bip (p' := 43) rfl rfl rfl ?_
  refine l_bz (p' := 44) (z := (nI 41)) rfl rfl rfl rfl rfl hk ?_
  refine l_sp (p' := 2188) (ls' := _) rfl rfl rfl rfl rfl ?_
  refine l_aldn (p' := 2189) rfl rfl rfl rfl ?_
  refine l_alds (p' := 2190) rfl rfl rfl rfl ?_
  refine l_ild (p' := 2192) rfl rfl rfl rfl ?_
  refine l_con (p' := 2193) rfl rfl rfl ?_
  refine l_bz (p' := 2194) (z := (nI 1)) rfl rfl rfl rfl rfl (by decide +kernel) ?_
  refine l_ialz (p' := 2195) (m := 1) (z := (nI 3)) rfl rfl (by decide +kernel) rfl hx1 rfl ?_
  refine l_alds (p' := 2196) rfl rfl rfl rfl ?_
  refine l_ild (p' := 2198) rfl rfl rfl rfl ?_
  refine l_con (p' := 2199) rfl rfl rfl ?_
  refine l_bz (p' := 2200) (z := (nI 2)) rfl rfl rfl rfl rfl (by decide +kernel) ?_
  refine l_ialz (p' := 2201) (m := 2) (z := q) rfl rfl (by decide +kernel) rfl hx2 rfl ?_
  refine l_aldn (p' := 2202) rfl rfl rfl rfl ?_
  refine l_call (p' := 2205) (kc := 99) (ls0 := [_, _, _, _, _]) rfl rfl rfl rfl rfl rfl rfl rfl rfl rfl ?_
  refine s_aldn (p' := 1) rfl rfl rfl ?_
  refine s_con (p' := 2) rfl rfl ?_
  refine s_aldn (p' := 3) rfl rfl rfl ?_
  refine s_ildn (p' := 4) rfl rfl rfl ?_
  refine s_ildn (p' := 5) rfl rfl rfl ?_
  refine c_call (p' := 8) (kc := 98) (ls0 := [_, _, _, _]) rfl rfl rfl rfl rfl (mj_rcv_is H0) rfl rfl rfl ?_
  refine s_ildn (p' := 1) rfl rfl rfl ?_
  refine c_call (p' := 4) (kc := 97) (ls0 := [_]) rfl rfl rfl rfl rfl rfl rfl rfl rfl ?_
  refine s_ildn (p' := 1) rfl rfl rfl ?_
  refine s_if (p' := 4) false rfl (by decide +kernel) rfl ?_
  refine s_ildn (p' := 5) rfl rfl rfl ?_
  refine s_bip (p' := 7) rfl rfl ?_
  refine s_icmp (p' := 10) false rfl (by decide +kernel) rfl ?_
  refine s_con (p' := 11) rfl rfl ?_
  refine s_goto (p' := 15) rfl rfl ?_
  refine c_iret rfl (by decide +kernel) ?_
  refine s_if (p' := 7) false rfl (by decide +kernel) rfl ?_
  refine s_ildn (p' := 8) rfl rfl rfl ?_
  refine c_call (p' := 11) (kc := 97) (ls0 := [_]) rfl rfl rfl rfl rfl rfl rfl rfl rfl ?_
  refine s_ildn (p' := 1) rfl rfl rfl ?_
  refine s_if (p' := 14) true rfl ((cg_lt (w := 0) (by decide +kernel)).trans (decide_eq_true (by omega))) rfl ?_
  refine s_con (p' := 15) rfl rfl ?_
  refine c_iret rfl (by decide +kernel) ?_
  refine s_if (p' := 14) false rfl (by decide +kernel) rfl ?_
  refine s_thrz (q := 414) rfl HL rfl ?_
  refine K_c (hp := 13) rfl (mj_ocl_is (rd_nw rfl HL)) rfl ?_
  refine s_ast (p' := 15) (ls' := [_, _, _, _, _]) rfl rfl rfl rfl ?_
  refine s_con (p' := 16) rfl rfl ?_
  refine k_iret rfl rfl ?_
  refine l_ist (p' := 2207) (ls' := [_, _, _, _, _, _, _, _, _, _]) rfl rfl rfl rfl rfl ?_
  refine l_aldn (p' := 2208) rfl rfl rfl rfl ?_
  refine l_alds (p' := 2209) rfl rfl rfl rfl ?_
  refine l_ild (p' := 2211) rfl rfl rfl rfl ?_
  refine l_con (p' := 2212) rfl rfl rfl ?_
  refine l_bz (p' := 2213) (z := (nI 1)) rfl rfl rfl rfl rfl (by decide +kernel) ?_
  refine l_ialz (p' := 2214) (m := 1) (z := (nI 3)) rfl rfl (by decide +kernel) rfl hx1 rfl ?_
  refine l_alds (p' := 2215) rfl rfl rfl rfl ?_
  refine l_ild (p' := 2217) rfl rfl rfl rfl ?_
  refine l_con (p' := 2218) rfl rfl rfl ?_
  refine l_bz (p' := 2219) (z := (nI 2)) rfl rfl rfl rfl rfl (by decide +kernel) ?_
  refine l_ialz (p' := 2220) (m := 2) (z := q) rfl rfl (by decide +kernel) rfl hx2 rfl ?_
  refine l_call (p' := 2223) (kc := 99) (ls0 := [_, _, _, _]) rfl rfl rfl rfl rfl rfl (mj_rcv_is (rd_app H400)) rfl rfl rfl ?_
  refine s_aldn (p' := 1) rfl rfl rfl ?_
  refine s_ildn (p' := 2) rfl rfl rfl ?_
  refine s_con (p' := 3) rfl rfl ?_
  refine s_bip (p' := 5) rfl rfl ?_
  refine c_call (p' := 8) (kc := 98) (ls0 := [_, _, _]) rfl rfl rfl rfl rfl rfl rfl rfl rfl ?_
  refine s_ildn (p' := 1) rfl rfl rfl ?_
  refine s_ildn (p' := 2) rfl rfl rfl ?_
  refine s_icmp (p' := 5) false rfl (by decide +kernel) rfl ?_
  refine s_ildn (p' := 6) rfl rfl rfl ?_
  refine s_ildn (p' := 7) rfl rfl rfl ?_
  refine s_icmp (p' := 10) false rfl (by decide +kernel) rfl ?_
  refine s_con (p' := 11) rfl rfl ?_
  refine s_goto (p' := 15) rfl rfl ?_
  refine c_iret rfl (by decide +kernel) ?_
  refine s_if (p' := 11) false rfl (by decide +kernel) rfl ?_
  refine s_ildn (p' := 12) rfl rfl rfl ?_
  refine s_con (p' := 13) rfl rfl ?_
  refine s_bip (p' := 15) rfl rfl ?_
  refine c_call (p' := 18) (kc := 98) (ls0 := [_, _, _]) rfl rfl rfl rfl rfl rfl rfl rfl rfl ?_
  refine s_ildn (p' := 1) rfl rfl rfl ?_
  refine s_ildn (p' := 2) rfl rfl rfl ?_
  refine s_icmp (p' := 14) true rfl ((ch_gt (w := 0) (by decide +kernel)).trans (decide_eq_true (by omega))) rfl ?_
  refine s_con (p' := 15) rfl rfl ?_
  refine c_iret rfl (by decide +kernel) ?_
  refine s_if (p' := 25) true rfl (by decide +kernel) rfl ?_
  refine s_con (p' := 26) rfl rfl ?_
  refine c_call (p' := 29) (kc := 98) (ls0 := [_, _]) rfl rfl rfl rfl rfl (mj_rcv_is (rd_app H400)) rfl rfl rfl ?_
  refine s_aldn (p' := 1) rfl rfl rfl ?_
  refine s_ildn (p' := 2) rfl rfl rfl ?_
  refine s_pfz (p' := 5) (fs' := [_, _, _, _, _, _, _, _, _, _, _]) rfl rfl (rd_app H400) rfl rfl rfl rfl ?_
  refine s_ildn (p' := 6) rfl rfl rfl ?_
  refine s_if (p' := 9) false rfl (by decide +kernel) rfl ?_
  refine s_con (p' := 10) rfl rfl ?_
  refine s_goto (p' := 14) rfl rfl ?_
  refine c_iret rfl (by decide +kernel) ?_
  refine s_if (p' := 32) false rfl (by decide +kernel) rfl ?_
  refine s_con (p' := 33) rfl rfl ?_
  refine k_iret rfl rfl ?_
  refine l_ist (p' := 2225) (ls' := [_, _, _, _, _, _, _, _, _, _]) rfl rfl rfl rfl rfl ?_
  refine l_aldn (p' := 2226) rfl rfl rfl rfl ?_
  refine l_call (p' := 2229) (kc := 99) (ls0 := [_]) rfl rfl rfl rfl rfl rfl (mj_rcv_is (rd_ss rfl (rd_app H400))) rfl rfl rfl ?_
  refine s_aldn (p' := 1) rfl rfl rfl ?_
  refine s_gf (p' := 4) rfl (rd_ss rfl (rd_app H400)) rfl rfl ?_
  refine k_iret rfl rfl ?_
  refine l_ild (p' := 2231) rfl rfl rfl rfl ?_
  refine l_icmp (p' := 2236) true rfl rfl (by decide +kernel) rfl ?_
  refine l_ild (p' := 2238) rfl rfl rfl rfl ?_
  refine l_if (p' := 2253) true rfl rfl (by decide +kernel) rfl ?_
  refine l_goto (p' := 2541) rfl rfl rfl ?_
  refine l_incz (p' := 2544) (w := (nI 4)) (ls' := [_, _, _, _, _, _, _, _, _, _]) rfl rfl rfl rfl (by decide +kernel) rfl rfl ?_
  refine l_goto (p' := 28) rfl rfl rfl ?_
  refine l_ild (p' := 30) rfl rfl rfl rfl ?_
  refine l_alds (p' := 31) rfl rfl rfl rfl ?_
  refine l_lens (p' := 32) rfl rfl rfl ?_
  refine l_con (p' := 33) rfl rfl rfl ?_
  refine l_bz (p' := 34) (z := (nI 0)) rfl rfl rfl rfl rfl (by decide +kernel) ?_
  refine l_icmp (p' := 2547) true rfl rfl (by decide +kernel) rfl ?_
  refine l_con (p' := 2548) rfl rfl rfl ?_
  refine l_end rfl rfl ?_
  exact ⟨Nat.le_trans (Nat.le_of_eq (len_s (len_a HL rfl))) (Nat.le_of_ble_eq_true rfl), Nat.le_trans (sz_s rfl (rd_app H400) rfl (sz_aa (k := 6) (m := 20006) rfl rfl HZ)) (Nat.le_of_ble_eq_true rfl)⟩
theorem p1_41_3m {xs : Nat → Int32} {h : mj_H} (hk : xs 0 &&& nI 63 = nI 41) (hx1 : xs 1 = nI 3) {q : Int32} (hx2 : xs 2 = q) (hq : 7 < q.toInt) (HL : h.length = 414) (HZ : mj_sz h ≤ 20000) (H0 : mj_rd h 0 = some (.inr (0, [.ref 1, .ref 38, .ref 299, .ref 336, .ref 373, .ref 375, .ref 378, .ref 381, .ref 387, .ref 393, .null, .null, .ref 397, .ref 398, .ref 399, .long (lN 0), .long (lN 0)]))) (H400 : mj_rd h 400 = some (.inr (17, [.int (nI 0), .ref 401, .ref 402, .ref 1000300, .long (lN 0), .long (lN 0), .ref 410, .null, .null, .null, .ref 411]))) : mj_fin 4 xs h := by
  unfold mj_fin
  refine l_ild (p' := 30) rfl rfl rfl rfl ?_
  refine l_alds (p' := 31) rfl rfl rfl rfl ?_
  refine l_lens (p' := 32) rfl rfl rfl ?_
  refine l_con (p' := 33) rfl rfl rfl ?_
  refine l_bz (p' := 34) (z := (nI 0)) rfl rfl rfl rfl rfl (by decide +kernel) ?_
  refine l_icmp (p' := 37) false rfl rfl (by decide +kernel) rfl ?_
  refine l_alds (p' := 38) rfl rfl rfl rfl ?_
  refine l_ild (p' := 40) rfl rfl rfl rfl ?_
  refine l_ialz (p' := 41) (m := 0) (z := (xs 0)) rfl rfl (by decide +kernel) rfl rfl rfl ?_
  refine l_bip (p' := 43) rfl rfl rfl ?_
  refine l_bz (p' := 44) (z := (nI 41)) rfl rfl rfl rfl rfl hk ?_
  refine l_sp (p' := 2188) (ls' := _) rfl rfl rfl rfl rfl ?_
  refine l_aldn (p' := 2189) rfl rfl rfl rfl ?_
  refine l_alds (p' := 2190) rfl rfl rfl rfl ?_
  refine l_ild (p' := 2192) rfl rfl rfl rfl ?_
  refine l_con (p' := 2193) rfl rfl rfl ?_
  refine l_bz (p' := 2194) (z := (nI 1)) rfl rfl rfl rfl rfl (by decide +kernel) ?_
  refine l_ialz (p' := 2195) (m := 1) (z := (nI 3)) rfl rfl (by decide +kernel) rfl hx1 rfl ?_
  refine l_alds (p' := 2196) rfl rfl rfl rfl ?_
  refine l_ild (p' := 2198) rfl rfl rfl rfl ?_
  refine l_con (p' := 2199) rfl rfl rfl ?_
  refine l_bz (p' := 2200) (z := (nI 2)) rfl rfl rfl rfl rfl (by decide +kernel) ?_
  refine l_ialz (p' := 2201) (m := 2) (z := q) rfl rfl (by decide +kernel) rfl hx2 rfl ?_
  refine l_aldn (p' := 2202) rfl rfl rfl rfl ?_
  refine l_call (p' := 2205) (kc := 99) (ls0 := [_, _, _, _, _]) rfl rfl rfl rfl rfl rfl rfl rfl rfl rfl ?_
  refine s_aldn (p' := 1) rfl rfl rfl ?_
  refine s_con (p' := 2) rfl rfl ?_
  refine s_aldn (p' := 3) rfl rfl rfl ?_
  refine s_ildn (p' := 4) rfl rfl rfl ?_
  refine s_ildn (p' := 5) rfl rfl rfl ?_
  refine c_call (p' := 8) (kc := 98) (ls0 := [_, _, _, _]) rfl rfl rfl rfl rfl (mj_rcv_is H0) rfl rfl rfl ?_
  refine s_ildn (p' := 1) rfl rfl rfl ?_
  refine c_call (p' := 4) (kc := 97) (ls0 := [_]) rfl rfl rfl rfl rfl rfl rfl rfl rfl ?_
  refine s_ildn (p' := 1) rfl rfl rfl ?_
  refine s_if (p' := 4) false rfl (by decide +kernel) rfl ?_
  refine s_ildn (p' := 5) rfl rfl rfl ?_
  refine s_bip (p' := 7) rfl rfl ?_
  refine s_icmp (p' := 10) false rfl (by decide +kernel) rfl ?_
  refine s_con (p' := 11) rfl rfl ?_
  refine s_goto (p' := 15) rfl rfl ?_
  refine c_iret rfl (by decide +kernel) ?_
  refine s_if (p' := 7) false rfl (by decide +kernel) rfl ?_
  refine s_ildn (p' := 8) rfl rfl rfl ?_
  refine c_call (p' := 11) (kc := 97) (ls0 := [_]) rfl rfl rfl rfl rfl rfl rfl rfl rfl ?_
  refine s_ildn (p' := 1) rfl rfl rfl ?_
  refine s_if (p' := 4) false rfl ((cg_lt (w := 0) (by decide +kernel)).trans (decide_eq_false (by omega))) rfl ?_
  refine s_ildn (p' := 5) rfl rfl rfl ?_
  refine s_bip (p' := 7) rfl rfl ?_
  refine s_icmp (p' := 14) true rfl ((cg_ge (w := 8) (by decide +kernel)).trans (decide_eq_true (by omega))) rfl ?_
  refine s_con (p' := 15) rfl rfl ?_
  refine c_iret rfl (by decide +kernel) ?_
  refine s_if (p' := 14) false rfl (by decide +kernel) rfl ?_
  refine s_thrz (q := 414) rfl HL rfl ?_
  refine K_c (hp := 13) rfl (mj_ocl_is (rd_nw rfl HL)) rfl ?_
  refine s_ast (p' := 15) (ls' := [_, _, _, _, _]) rfl rfl rfl rfl ?_
  refine s_con (p' := 16) rfl rfl ?_
  refine k_iret rfl rfl ?_
  refine l_ist (p' := 2207) (ls' := [_, _, _, _, _, _, _, _, _, _]) rfl rfl rfl rfl rfl ?_
  refine l_aldn (p' := 2208) rfl rfl rfl rfl ?_
  refine l_alds (p' := 2209) rfl rfl rfl rfl ?_
  refine l_ild (p' := 2211) rfl rfl rfl rfl ?_
  refine l_con (p' := 2212) rfl rfl rfl ?_
  refine l_bz (p' := 2213) (z := (nI 1)) rfl rfl rfl rfl rfl (by decide +kernel) ?_
  refine l_ialz (p' := 2214) (m := 1) (z := (nI 3)) rfl rfl (by decide +kernel) rfl hx1 rfl ?_
  refine l_alds (p' := 2215) rfl rfl rfl rfl ?_
  refine l_ild (p' := 2217) rfl rfl rfl rfl ?_
  refine l_con (p' := 2218) rfl rfl rfl ?_
  refine l_bz (p' := 2219) (z := (nI 2)) rfl rfl rfl rfl rfl (by decide +kernel) ?_
  refine l_ialz (p' := 2220) (m := 2) (z := q) rfl rfl (by decide +kernel) rfl hx2 rfl ?_
  refine l_call (p' := 2223) (kc := 99) (ls0 := [_, _, _, _]) rfl rfl rfl rfl rfl rfl (mj_rcv_is (rd_app H400)) rfl rfl rfl ?_
  refine s_aldn (p' := 1) rfl rfl rfl ?_
  refine s_ildn (p' := 2) rfl rfl rfl ?_
  refine s_con (p' := 3) rfl rfl ?_
  refine s_bip (p' := 5) rfl rfl ?_
  refine c_call (p' := 8) (kc := 98) (ls0 := [_, _, _]) rfl rfl rfl rfl rfl rfl rfl rfl rfl ?_
  refine s_ildn (p' := 1) rfl rfl rfl ?_
  refine s_ildn (p' := 2) rfl rfl rfl ?_
  refine s_icmp (p' := 5) false rfl (by decide +kernel) rfl ?_
  refine s_ildn (p' := 6) rfl rfl rfl ?_
  refine s_ildn (p' := 7) rfl rfl rfl ?_
  refine s_icmp (p' := 10) false rfl (by decide +kernel) rfl ?_
  refine s_con (p' := 11) rfl rfl ?_
  refine s_goto (p' := 15) rfl rfl ?_
  refine c_iret rfl (by decide +kernel) ?_
  refine s_if (p' := 11) false rfl (by decide +kernel) rfl ?_
  refine s_ildn (p' := 12) rfl rfl rfl ?_
  refine s_con (p' := 13) rfl rfl ?_
  refine s_bip (p' := 15) rfl rfl ?_
  refine c_call (p' := 18) (kc := 98) (ls0 := [_, _, _]) rfl rfl rfl rfl rfl rfl rfl rfl rfl ?_
  refine s_ildn (p' := 1) rfl rfl rfl ?_
  refine s_ildn (p' := 2) rfl rfl rfl ?_
  refine s_icmp (p' := 5) false rfl ((ch_gt (w := 0) (by decide +kernel)).trans (decide_eq_false (by omega))) rfl ?_
  refine s_ildn (p' := 6) rfl rfl rfl ?_
  refine s_ildn (p' := 7) rfl rfl rfl ?_
  refine s_icmp (p' := 14) true rfl ((cg_gt (w := 7) (by decide +kernel)).trans (decide_eq_true (by omega))) rfl ?_
  refine s_con (p' := 15) rfl rfl ?_
  refine c_iret rfl (by decide +kernel) ?_
  refine s_if (p' := 25) true rfl (by decide +kernel) rfl ?_
  refine s_con (p' := 26) rfl rfl ?_
  refine c_call (p' := 29) (kc := 98) (ls0 := [_, _]) rfl rfl rfl rfl rfl (mj_rcv_is (rd_app H400)) rfl rfl rfl ?_
  refine s_aldn (p' := 1) rfl rfl rfl ?_
  refine s_ildn (p' := 2) rfl rfl rfl ?_
  refine s_pfz (p' := 5) (fs' := [_, _, _, _, _, _, _, _, _, _, _]) rfl rfl (rd_app H400) rfl rfl rfl rfl ?_
  refine s_ildn (p' := 6) rfl rfl rfl ?_
  refine s_if (p' := 9) false rfl (by decide +kernel) rfl ?_
  refine s_con (p' := 10) rfl rfl ?_
  refine s_goto (p' := 14) rfl rfl ?_
  refine c_iret rfl (by decide +kernel) ?_
  refine s_if (p' := 32) false rfl (by decide +kernel) rfl ?_
  refine s_con (p' := 33) rfl rfl ?_
  refine k_iret rfl rfl ?_
  refine l_ist (p' := 2225) (ls' := [_, _, _, _, _, _, _, _, _, _]) rfl rfl rfl rfl rfl ?_
  refine l_aldn (p' := 2226) rfl rfl rfl rfl ?_
  refine l_call (p' := 2229) (kc := 99) (ls0 := [_]) rfl rfl rfl rfl rfl rfl (mj_rcv_is (rd_ss rfl (rd_app H400))) rfl rfl rfl ?_
  refine s_aldn (p' := 1) rfl rfl rfl ?_
  refine s_gf (p' := 4) rfl (rd_ss rfl (rd_app H400)) rfl rfl ?_
  refine k_iret rfl rfl ?_
  refine l_ild (p' := 2231) rfl rfl rfl rfl ?_
  refine l_icmp (p' := 2236) true rfl rfl (by decide +kernel) rfl ?_
  refine l_ild (p' := 2238) rfl rfl rfl rfl ?_
  refine l_if (p' := 2253) true rfl rfl (by decide +kernel) rfl ?_
  refine l_goto (p' := 2541) rfl rfl rfl ?_
  refine l_incz (p' := 2544) (w := (nI 4)) (ls' := [_, _, _, _, _, _, _, _, _, _]) rfl rfl rfl rfl (by decide +kernel) rfl rfl ?_
  refine l_goto (p' := 28) rfl rfl rfl ?_
  refine l_ild (p' := 30) rfl rfl rfl rfl ?_
  refine l_alds (p' := 31) rfl rfl rfl rfl ?_
  refine l_lens (p' := 32) rfl rfl rfl ?_
  refine l_con (p' := 33) rfl rfl rfl ?_
  refine l_bz (p' := 34) (z := (nI 0)) rfl rfl rfl rfl rfl (by decide +kernel) ?_
  refine l_icmp (p' := 2547) true rfl rfl (by decide +kernel) rfl ?_
  refine l_con (p' := 2548) rfl rfl rfl ?_
  refine l_end rfl rfl ?_
  exact ⟨Nat.le_trans (Nat.le_of_eq (len_s (len_a HL rfl))) (Nat.le_of_ble_eq_true rfl), Nat.le_trans (sz_s rfl (rd_app H400) rfl (sz_aa (k := 6) (m := 20006) rfl rfl HZ)) (Nat.le_of_ble_eq_true rfl)⟩
theorem p1_41_4 {xs : Nat → Int32} {h : mj_H} (hk : xs 0 &&& nI 63 = nI 41) (hx1 : xs 1 = nI 4) {q : Int32} (hx2 : xs 2 = q) (hq : 0 ≤ q.toInt ∧ q.toInt ≤ 7) (HL : h.length = 414) (HZ : mj_sz h ≤ 20000) (H0 : mj_rd h 0 = some (.inr (0, [.ref 1, .ref 38, .ref 299, .ref 336, .ref 373, .ref 375, .ref 378, .ref 381, .ref 387, .ref 393, .null, .null, .ref 397, .ref 398, .ref 399, .long (lN 0), .long (lN 0)]))) (H397 : mj_rd h 397 = some (.inl (0, (8, .inl (fun _ => 0))))) (H400 : mj_rd h 400 = some (.inr (17, [.int (nI 0), .ref 401, .ref 402, .ref 1000300, .long (lN 0), .long (lN 0), .ref 410, .null, .null, .null, .ref 411]))) (H411 : mj_rd h 411 = some (.inl (0, (8, .inl (fun _ => 0))))) (H412 : mj_rd h 412 = some (.inl (4, (1, .inr (.inl (fun _ => 0)))))) : mj_fin 4 xs h := by
  unfold mj_fin
  refine l_ild (p' := 30) rfl rfl rfl rfl ?_
  refine l_alds (p' := 31) rfl rfl rfl rfl ?_
  refine l_lens (p' := 32) rfl rfl rfl ?_
  refine l_con (p' := 33) rfl rfl rfl ?_
  refine l_bz (p' := 34) (z := (nI 0)) rfl rfl rfl rfl rfl (by decide +kernel) ?_
  refine l_icmp (p' := 37) false rfl rfl (by decide +kernel) rfl ?_
  refine l_alds (p' := 38) rfl rfl rfl rfl ?_
  refine l_ild (p' := 40) rfl rfl rfl rfl ?_
  refine l_ialz (p' := 41) (m := 0) (z := (xs 0)) rfl rfl (by decide +kernel) rfl rfl rfl ?_
  refine l_bip (p' := 43) rfl rfl rfl ?_
  refine l_bz (p' := 44) (z := (nI 41)) rfl rfl rfl rfl rfl hk ?_
  refine l_sp (p' := 2188) (ls' := _) rfl rfl rfl rfl rfl ?_
  refine l_aldn (p' := 2189) rfl rfl rfl rfl ?_
  refine l_alds (p' := 2190) rfl rfl rfl rfl ?_
  refine l_ild (p' := 2192) rfl rfl rfl rfl ?_
  refine l_con (p' := 2193) rfl rfl rfl ?_
  refine l_bz (p' := 2194) (z := (nI 1)) rfl rfl rfl rfl rfl (by decide +kernel) ?_
  refine l_ialz (p' := 2195) (m := 1) (z := (nI 4)) rfl rfl (by decide +kernel) rfl hx1 rfl ?_
  refine l_alds (p' := 2196) rfl rfl rfl rfl ?_
  refine l_ild (p' := 2198) rfl rfl rfl rfl ?_
  refine l_con (p' := 2199) rfl rfl rfl ?_
  refine l_bz (p' := 2200) (z := (nI 2)) rfl rfl rfl rfl rfl (by decide +kernel) ?_
  refine l_ialz (p' := 2201) (m := 2) (z := q) rfl rfl (by decide +kernel) rfl hx2 rfl ?_
  refine l_aldn (p' := 2202) rfl rfl rfl rfl ?_
  refine l_call (p' := 2205) (kc := 99) (ls0 := [_, _, _, _, _]) rfl rfl rfl rfl rfl rfl rfl rfl rfl rfl ?_
  refine s_aldn (p' := 1) rfl rfl rfl ?_
  refine s_con (p' := 2) rfl rfl ?_
  refine s_aldn (p' := 3) rfl rfl rfl ?_
  refine s_ildn (p' := 4) rfl rfl rfl ?_
  refine s_ildn (p' := 5) rfl rfl rfl ?_
  refine c_call (p' := 8) (kc := 98) (ls0 := [_, _, _, _]) rfl rfl rfl rfl rfl (mj_rcv_is H0) rfl rfl rfl ?_
  refine s_ildn (p' := 1) rfl rfl rfl ?_
  refine c_call (p' := 4) (kc := 97) (ls0 := [_]) rfl rfl rfl rfl rfl rfl rfl rfl rfl ?_
  refine s_ildn (p' := 1) rfl rfl rfl ?_
  refine s_if (p' := 4) false rfl (by decide +kernel) rfl ?_
  refine s_ildn (p' := 5) rfl rfl rfl ?_
  refine s_bip (p' := 7) rfl rfl ?_
  refine s_icmp (p' := 10) false rfl (by decide +kernel) rfl ?_
  refine s_con (p' := 11) rfl rfl ?_
  refine s_goto (p' := 15) rfl rfl ?_
  refine c_iret rfl (by decide +kernel) ?_
  refine s_if (p' := 7) false rfl (by decide +kernel) rfl ?_
  refine s_ildn (p' := 8) rfl rfl rfl ?_
  refine c_call (p' := 11) (kc := 97) (ls0 := [_]) rfl rfl rfl rfl rfl rfl rfl rfl rfl ?_
  refine s_ildn (p' := 1) rfl rfl rfl ?_
  refine s_if (p' := 4) false rfl ((cg_lt (w := 0) (by decide +kernel)).trans (decide_eq_false (by omega))) rfl ?_
  refine s_ildn (p' := 5) rfl rfl rfl ?_
  refine s_bip (p' := 7) rfl rfl ?_
  refine s_icmp (p' := 10) false rfl ((cg_ge (w := 8) (by decide +kernel)).trans (decide_eq_false (by omega))) rfl ?_
  refine s_con (p' := 11) rfl rfl ?_
  refine s_goto (p' := 15) rfl rfl ?_
  refine c_iret rfl (by decide +kernel) ?_
  refine s_if (p' := 25) true rfl (by decide +kernel) rfl ?_
  refine s_aldn (p' := 26) rfl rfl rfl ?_
  refine s_gf (p' := 29) rfl H0 rfl rfl ?_
  refine s_ildn (p' := 30) rfl rfl rfl ?_
  refine s_ialz (p' := 31) (m := 4) (v := (nI 0)) rfl H397 (by decide +kernel) rfl (by decide +kernel) rfl ?_
  refine s_istn (p' := 32) (ls' := [_, _, _, _]) rfl rfl rfl rfl ?_
  refine s_aldn (p' := 33) rfl rfl rfl ?_
  refine s_gf (p' := 36) rfl H0 rfl rfl ?_
  refine s_ildn (p' := 37) rfl rfl rfl ?_
  refine s_ildn (p' := 38) rfl rfl rfl ?_
  refine s_iasz (p' := 39) (m := 4) rfl rfl H397 (by decide +kernel) rfl rfl rfl ?_
  refine s_ildn (p' := 40) rfl rfl rfl ?_
  refine c_iret rfl rfl ?_
  refine s_bzL (p' := 9) (z := (lN 0)) rfl rfl rfl (by decide +kernel) ?_
  refine s_lasz (p' := 10) (m := 0) rfl rfl (rd_sn rfl H412) (by decide +kernel) rfl rfl rfl ?_
  refine s_goto (p' := 17) rfl rfl ?_
  refine s_con (p' := 18) rfl rfl ?_
  refine k_iret rfl rfl ?_
  refine l_ist (p' := 2207) (ls' := [_, _, _, _, _, _, _, _, _, _]) rfl rfl rfl rfl rfl ?_
  refine l_aldn (p' := 2208) rfl rfl rfl rfl ?_
  refine l_alds (p' := 2209) rfl rfl rfl rfl ?_
  refine l_ild (p' := 2211) rfl rfl rfl rfl ?_
  refine l_con (p' := 2212) rfl rfl rfl ?_
  refine l_bz (p' := 2213) (z := (nI 1)) rfl rfl rfl rfl rfl (by decide +kernel) ?_
  refine l_ialz (p' := 2214) (m := 1) (z := (nI 4)) rfl rfl (by decide +kernel) rfl hx1 rfl ?_
  refine l_alds (p' := 2215) rfl rfl rfl rfl ?_
  refine l_ild (p' := 2217) rfl rfl rfl rfl ?_
  refine l_con (p' := 2218) rfl rfl rfl ?_
  refine l_bz (p' := 2219) (z := (nI 2)) rfl rfl rfl rfl rfl (by decide +kernel) ?_
  refine l_ialz (p' := 2220) (m := 2) (z := q) rfl rfl (by decide +kernel) rfl hx2 rfl ?_
  refine l_call (p' := 2223) (kc := 99) (ls0 := [_, _, _, _]) rfl rfl rfl rfl rfl rfl (mj_rcv_is (rd_sn rfl (rd_sn rfl H400))) rfl rfl rfl ?_
  refine s_aldn (p' := 1) rfl rfl rfl ?_
  refine s_ildn (p' := 2) rfl rfl rfl ?_
  refine s_con (p' := 3) rfl rfl ?_
  refine s_bip (p' := 5) rfl rfl ?_
  refine c_call (p' := 8) (kc := 98) (ls0 := [_, _, _]) rfl rfl rfl rfl rfl rfl rfl rfl rfl ?_
  refine s_ildn (p' := 1) rfl rfl rfl ?_
  refine s_ildn (p' := 2) rfl rfl rfl ?_
  refine s_icmp (p' := 5) false rfl (by decide +kernel) rfl ?_
  refine s_ildn (p' := 6) rfl rfl rfl ?_
  refine s_ildn (p' := 7) rfl rfl rfl ?_
  refine s_icmp (p' := 10) false rfl (by decide +kernel) rfl ?_
  refine s_con (p' := 11) rfl rfl ?_
  refine s_goto (p' := 15) rfl rfl ?_
  refine c_iret rfl (by decide +kernel) ?_
  refine s_if (p' := 11) false rfl (by decide +kernel) rfl ?_
  refine s_ildn (p' := 12) rfl rfl rfl ?_
  refine s_con (p' := 13) rfl rfl ?_
  refine s_bip (p' := 15) rfl rfl ?_
  refine c_call (p' := 18) (kc := 98) (ls0 := [_, _, _]) rfl rfl rfl rfl rfl rfl rfl rfl rfl ?_
  refine s_ildn (p' := 1) rfl rfl rfl ?_
  refine s_ildn (p' := 2) rfl rfl rfl ?_
  refine s_icmp (p' := 5) false rfl ((ch_gt (w := 0) (by decide +kernel)).trans (decide_eq_false (by omega))) rfl ?_
  refine s_ildn (p' := 6) rfl rfl rfl ?_
  refine s_ildn (p' := 7) rfl rfl rfl ?_
  refine s_icmp (p' := 10) false rfl ((cg_gt (w := 7) (by decide +kernel)).trans (decide_eq_false (by omega))) rfl ?_
  refine s_con (p' := 11) rfl rfl ?_
  refine s_goto (p' := 15) rfl rfl ?_
  refine c_iret rfl (by decide +kernel) ?_
  refine s_if (p' := 21) false rfl (by decide +kernel) rfl ?_
  refine s_con (p' := 22) rfl rfl ?_
  refine s_goto (p' := 26) rfl rfl ?_
  refine c_call (p' := 29) (kc := 98) (ls0 := [_, _]) rfl rfl rfl rfl rfl (mj_rcv_is (rd_sn rfl (rd_sn rfl H400))) rfl rfl rfl ?_
  refine s_aldn (p' := 1) rfl rfl rfl ?_
  refine s_ildn (p' := 2) rfl rfl rfl ?_
  refine s_pfz (p' := 5) (fs' := [_, _, _, _, _, _, _, _, _, _, _]) rfl rfl (rd_sn rfl (rd_sn rfl H400)) rfl rfl rfl rfl ?_
  refine s_ildn (p' := 6) rfl rfl rfl ?_
  refine s_if (p' := 13) true rfl (by decide +kernel) rfl ?_
  refine s_con (p' := 14) rfl rfl ?_
  refine c_iret rfl (by decide +kernel) ?_
  refine s_if (p' := 34) true rfl (by decide +kernel) rfl ?_
  refine s_aldn (p' := 35) rfl rfl rfl ?_
  refine s_gf (p' := 38) rfl (rd_ss rfl (rd_sn rfl (rd_sn rfl H400))) rfl rfl ?_
  refine s_ildn (p' := 39) rfl rfl rfl ?_
  refine s_ialz (p' := 40) (m := 4) (v := (nI 0)) rfl (rd_sn rfl (rd_sn rfl (rd_sn rfl H411))) (by decide +kernel) rfl (by decide +kernel) rfl ?_
  refine s_istn (p' := 41) (ls' := [_, _, _, _]) rfl rfl rfl rfl ?_
  refine s_aldn (p' := 42) rfl rfl rfl ?_
  refine s_gf (p' := 45) rfl (rd_ss rfl (rd_sn rfl (rd_sn rfl H400))) rfl rfl ?_
  refine s_ildn (p' := 46) rfl rfl rfl ?_
  refine s_ildn (p' := 47) rfl rfl rfl ?_
  refine s_iasz (p' := 48) (m := 4) rfl rfl (rd_sn rfl (rd_sn rfl (rd_sn rfl H411))) (by decide +kernel) rfl rfl rfl ?_
  refine s_ildn (p' := 49) rfl rfl rfl ?_
  refine k_iret rfl rfl ?_
  refine l_ist (p' := 2225) (ls' := [_, _, _, _, _, _, _, _, _, _]) rfl rfl rfl rfl rfl ?_
  refine l_aldn (p' := 2226) rfl rfl rfl rfl ?_
  refine l_call (p' := 2229) (kc := 99) (ls0 := [_]) rfl rfl rfl rfl rfl rfl (mj_rcv_is (rd_sn rfl (rd_ss rfl (rd_sn rfl (rd_sn rfl H400))))) rfl rfl rfl ?_
  refine s_aldn (p' := 1) rfl rfl rfl ?_
  refine s_gf (p' := 4) rfl (rd_sn rfl (rd_ss rfl (rd_sn rfl (rd_sn rfl H400)))) rfl rfl ?_
  refine k_iret rfl rfl ?_
  refine l_ild (p' := 2231) rfl rfl rfl rfl ?_
  refine l_icmp (p' := 2236) true rfl rfl (by decide +kernel) rfl ?_
  refine l_ild (p' := 2238) rfl rfl rfl rfl ?_
  refine l_if (p' := 2241) false rfl rfl (by decide +kernel) rfl ?_
  refine l_aldn (p' := 2242) rfl rfl rfl rfl ?_
  refine l_con (p' := 2243) rfl rfl rfl ?_
  refine l_lalz (p' := 2244) (m := 0) (v := (lN 0)) rfl rfl (rd_sn rfl (rd_sn rfl (rd_ss rfl (rd_sn rfl H412)))) (by decide +kernel) rfl (by decide +kernel) rfl ?_
  refine l_ild (p' := 2246) rfl rfl rfl rfl ?_
  refine l_bzL (p' := 2247) (z := (lN 0)) rfl rfl rfl rfl rfl (by decide +kernel) ?_
  refine l_bz (p' := 2248) (z := (nI 0)) rfl rfl rfl rfl rfl (by decide +kernel) ?_
  refine l_if (p' := 2253) true rfl rfl (by decide +kernel) rfl ?_
  refine l_goto (p' := 2541) rfl rfl rfl ?_
  refine l_incz (p' := 2544) (w := (nI 4)) (ls' := [_, _, _, _, _, _, _, _, _, _]) rfl rfl rfl rfl (by decide +kernel) rfl rfl ?_
  refine l_goto (p' := 28) rfl rfl rfl ?_
  refine l_ild (p' := 30) rfl rfl rfl rfl ?_
  refine l_alds (p' := 31) rfl rfl rfl rfl ?_
  refine l_lens (p' := 32) rfl rfl rfl ?_
  refine l_con (p' := 33) rfl rfl rfl ?_
  refine l_bz (p' := 34) (z := (nI 0)) rfl rfl rfl rfl rfl (by decide +kernel) ?_
  refine l_icmp (p' := 2547) true rfl rfl (by decide +kernel) rfl ?_
  refine l_con (p' := 2548) rfl rfl rfl ?_
  refine l_end rfl rfl ?_
  exact ⟨Nat.le_trans (Nat.le_of_eq (len_s (len_s (len_s (len_s HL))))) (Nat.le_of_ble_eq_true rfl), Nat.le_trans (sz_sA rfl (rd_sn rfl (rd_sn rfl (rd_sn rfl H411))) (sz_s rfl (rd_sn rfl (rd_sn rfl H400)) rfl (sz_sA rfl (rd_sn rfl H412) (sz_sA rfl H397 HZ)))) (Nat.le_of_ble_eq_true rfl)⟩
theorem p1_41_4n {xs : Nat → Int32} {h : mj_H} (hk : xs 0 &&& nI 63 = nI 41) (hx1 : xs 1 = nI 4) {q : Int32} (hx2 : xs 2 = q) (hq : q.toInt < 0) (HL : h.length = 414) (HZ : mj_sz h ≤ 20000) (H0 : mj_rd h 0 = some (.inr (0, [.ref 1, .ref 38, .ref 299, .ref 336, .ref 373, .ref 375, .ref 378, .ref 381, .ref 387, .ref 393, .null, .null, .ref 397, .ref 398, .ref 399, .long (lN 0), .long (lN 0)]))) (H400 : mj_rd h 400 = some (.inr (17, [.int (nI 0), .ref 401, .ref 402, .ref 1000300, .long (lN 0), .long (lN 0), .ref 410, .null, .null, .null, .ref 411]))) : mj_fin 4 xs h := by
  unfold mj_fin
  refine l_ild (p' := 30) rfl rfl rfl rfl ?_
  refine l_alds (p' := 31) rfl rfl rfl rfl ?_
  refine l_lens (p' := 32) rfl rfl rfl ?_
  refine l_con (p' := 33) rfl rfl rfl ?_
  refine l_bz (p' := 34) (z := (nI 0)) rfl rfl rfl rfl rfl (by decide +kernel) ?_
  refine l_icmp (p' := 37) false rfl rfl (by decide +kernel) rfl ?_
  refine l_alds (p' := 38) rfl rfl rfl rfl ?_
  refine l_ild (p' := 40) rfl rfl rfl rfl ?_
  refine l_ialz (p' := 41) (m := 0) (z := (xs 0)) rfl rfl (by decide +kernel) rfl rfl rfl ?_
  refine l_bip (p' := 43) rfl rfl rfl ?_
  refine l_bz (p' := 44) (z := (nI 41)) rfl rfl rfl rfl rfl hk ?_
  refine l_sp (p' := 2188) (ls' := _) rfl rfl rfl rfl rfl ?_
  refine l_aldn (p' := 2189) rfl rfl rfl rfl ?_
  refine l_alds (p' := 2190) rfl rfl rfl rfl ?_
  refine l_ild (p' := 2192) rfl rfl rfl rfl ?_
  refine l_con (p' := 2193) rfl rfl rfl ?_
  refine l_bz (p' := 2194) (z := (nI 1)) rfl rfl rfl rfl rfl (by decide +kernel) ?_
  refine l_ialz (p' := 2195) (m := 1) (z := (nI 4)) rfl rfl (by decide +kernel) rfl hx1 rfl ?_
  refine l_alds (p' := 2196) rfl rfl rfl rfl ?_
  refine l_ild (p' := 2198) rfl rfl rfl rfl ?_
  refine l_con (p' := 2199) rfl rfl rfl ?_
  refine l_bz (p' := 2200) (z := (nI 2)) rfl rfl rfl rfl rfl (by decide +kernel) ?_
  refine l_ialz (p' := 2201) (m := 2) (z := q) rfl rfl (by decide +kernel) rfl hx2 rfl ?_
  refine l_aldn (p' := 2202) rfl rfl rfl rfl ?_
  refine l_call (p' := 2205) (kc := 99) (ls0 := [_, _, _, _, _]) rfl rfl rfl rfl rfl rfl rfl rfl rfl rfl ?_
  refine s_aldn (p' := 1) rfl rfl rfl ?_
  refine s_con (p' := 2) rfl rfl ?_
  refine s_aldn (p' := 3) rfl rfl rfl ?_
  refine s_ildn (p' := 4) rfl rfl rfl ?_
  refine s_ildn (p' := 5) rfl rfl rfl ?_
  refine c_call (p' := 8) (kc := 98) (ls0 := [_, _, _, _]) rfl rfl rfl rfl rfl (mj_rcv_is H0) rfl rfl rfl ?_
  refine s_ildn (p' := 1) rfl rfl rfl ?_
  refine c_call (p' := 4) (kc := 97) (ls0 := [_]) rfl rfl rfl rfl rfl rfl rfl rfl rfl ?_
  refine s_ildn (p' := 1) rfl rfl rfl ?_
  refine s_if (p' := 4) false rfl (by decide +kernel) rfl ?_
  refine s_ildn (p' := 5) rfl rfl rfl ?_
  refine s_bip (p' := 7) rfl rfl ?_
  refine s_icmp (p' := 10) false rfl (by decide +kernel) rfl ?_
  refine s_con (p' := 11) rfl rfl ?_
  refine s_goto (p' := 15) rfl rfl ?_
  refine c_iret rfl (by decide +kernel) ?_
  refine s_if (p' := 7) false rfl (by decide +kernel) rfl ?_
  refine s_ildn (p' := 8) rfl rfl rfl ?_
  refine c_call (p' := 11) (kc := 97) (ls0 := [_]) rfl rfl rfl rfl rfl rfl rfl rfl rfl ?_
  refine s_ildn (p' := 1) rfl rfl rfl ?_
  refine s_if (p' := 14) true rfl ((cg_lt (w := 0) (by decide +kernel)).trans (decide_eq_true (by omega))) rfl ?_
  refine s_con (p' := 15) rfl rfl ?_
  refine c_iret rfl (by decide +kernel) ?_
  refine s_if (p' := 14) false rfl (by decide +kernel) rfl ?_
  refine s_thrz (q := 414) rfl HL rfl ?_
  refine K_c (hp := 13) rfl (mj_ocl_is (rd_nw rfl HL)) rfl ?_
  refine s_ast (p' := 15) (ls' := [_, _, _, _, _]) rfl rfl rfl rfl ?_
  refine s_con (p' := 16) rfl rfl ?_
  refine k_iret rfl rfl ?_
  refine l_ist (p' := 2207) (ls' := [_, _, _, _, _, _, _, _, _, _]) rfl rfl rfl rfl rfl ?_
  refine l_aldn (p' := 2208) rfl rfl rfl rfl ?_
  refine l_alds (p' := 2209) rfl rfl rfl rfl ?_
  refine l_ild (p' := 2211) rfl rfl rfl rfl ?_
  refine l_con (p' := 2212) rfl rfl rfl ?_
  refine l_bz (p' := 2213) (z := (nI 1)) rfl rfl rfl rfl rfl (by decide +kernel) ?_
  refine l_ialz (p' := 2214) (m := 1) (z := (nI 4)) rfl rfl (by decide +kernel) rfl hx1 rfl ?_
  refine l_alds (p' := 2215) rfl rfl rfl rfl ?_
  refine l_ild (p' := 2217) rfl rfl rfl rfl ?_
  refine l_con (p' := 2218) rfl rfl rfl ?_
  refine l_bz (p' := 2219) (z := (nI 2)) rfl rfl rfl rfl rfl (by decide +kernel) ?_
  refine l_ialz (p' := 2220) (m := 2) (z := q) rfl rfl (by decide +kernel) rfl hx2 rfl ?_
  refine l_call (p' := 2223) (kc := 99) (ls0 := [_, _, _, _]) rfl rfl rfl rfl rfl rfl (mj_rcv_is (rd_app H400)) rfl rfl rfl ?_
  refine s_aldn (p' := 1) rfl rfl rfl ?_
  refine s_ildn (p' := 2) rfl rfl rfl ?_
  refine s_con (p' := 3) rfl rfl ?_
  refine s_bip (p' := 5) rfl rfl ?_
  refine c_call (p' := 8) (kc := 98) (ls0 := [_, _, _]) rfl rfl rfl rfl rfl rfl rfl rfl rfl ?_
  refine s_ildn (p' := 1) rfl rfl rfl ?_
  refine s_ildn (p' := 2) rfl rfl rfl ?_
  refine s_icmp (p' := 5) false rfl (by decide +kernel) rfl ?_
  refine s_ildn (p' := 6) rfl rfl rfl ?_
  refine s_ildn (p' := 7) rfl rfl rfl ?_
  refine s_icmp (p' := 10) false rfl (by decide +kernel) rfl ?_
  refine s_con (p' := 11) rfl rfl ?_
  refine s_goto (p' := 15) rfl rfl ?_
  refine c_iret rfl (by decide +kernel) ?_
  refine s_if (p' := 11) false rfl (by decide +kernel) rfl ?_
  refine s_ildn (p' := 12) rfl rfl rfl ?_
  refine s_con (p' := 13) rfl rfl ?_
  refine s_bip (p' := 15) rfl rfl ?_
  refine c_call (p' := 18) (kc := 98) (ls0 := [_, _, _]) rfl rfl rfl rfl rfl rfl rfl rfl rfl ?_
  refine s_ildn (p' := 1) rfl rfl rfl ?_
  refine s_ildn (p' := 2) rfl rfl rfl ?_
  refine s_icmp (p' := 14) true rfl ((ch_gt (w := 0) (by decide +kernel)).trans (decide_eq_true (by omega))) rfl ?_
  refine s_con (p' := 15) rfl rfl ?_
  refine c_iret rfl (by decide +kernel) ?_
  refine s_if (p' := 25) true rfl (by decide +kernel) rfl ?_
  refine s_con (p' := 26) rfl rfl ?_
  refine c_call (p' := 29) (kc := 98) (ls0 := [_, _]) rfl rfl rfl rfl rfl (mj_rcv_is (rd_app H400)) rfl rfl rfl ?_
  refine s_aldn (p' := 1) rfl rfl rfl ?_
  refine s_ildn (p' := 2) rfl rfl rfl ?_
  refine s_pfz (p' := 5) (fs' := [_, _, _, _, _, _, _, _, _, _, _]) rfl rfl (rd_app H400) rfl rfl rfl rfl ?_
  refine s_ildn (p' := 6) rfl rfl rfl ?_
  refine s_if (p' := 9) false rfl (by decide +kernel) rfl ?_
  refine s_con (p' := 10) rfl rfl ?_
  refine s_goto (p' := 14) rfl rfl ?_
  refine c_iret rfl (by decide +kernel) ?_
  refine s_if (p' := 32) false rfl (by decide +kernel) rfl ?_
  refine s_con (p' := 33) rfl rfl ?_
  refine k_iret rfl rfl ?_
  refine l_ist (p' := 2225) (ls' := [_, _, _, _, _, _, _, _, _, _]) rfl rfl rfl rfl rfl ?_
  refine l_aldn (p' := 2226) rfl rfl rfl rfl ?_
  refine l_call (p' := 2229) (kc := 99) (ls0 := [_]) rfl rfl rfl rfl rfl rfl (mj_rcv_is (rd_ss rfl (rd_app H400))) rfl rfl rfl ?_
  refine s_aldn (p' := 1) rfl rfl rfl ?_
  refine s_gf (p' := 4) rfl (rd_ss rfl (rd_app H400)) rfl rfl ?_
  refine k_iret rfl rfl ?_
  refine l_ild (p' := 2231) rfl rfl rfl rfl ?_
  refine l_icmp (p' := 2236) true rfl rfl (by decide +kernel) rfl ?_
  refine l_ild (p' := 2238) rfl rfl rfl rfl ?_
  refine l_if (p' := 2253) true rfl rfl (by decide +kernel) rfl ?_
  refine l_goto (p' := 2541) rfl rfl rfl ?_
  refine l_incz (p' := 2544) (w := (nI 4)) (ls' := [_, _, _, _, _, _, _, _, _, _]) rfl rfl rfl rfl (by decide +kernel) rfl rfl ?_
  refine l_goto (p' := 28) rfl rfl rfl ?_
  refine l_ild (p' := 30) rfl rfl rfl rfl ?_
  refine l_alds (p' := 31) rfl rfl rfl rfl ?_
  refine l_lens (p' := 32) rfl rfl rfl ?_
  refine l_con (p' := 33) rfl rfl rfl ?_
  refine l_bz (p' := 34) (z := (nI 0)) rfl rfl rfl rfl rfl (by decide +kernel) ?_
  refine l_icmp (p' := 2547) true rfl rfl (by decide +kernel) rfl ?_
  refine l_con (p' := 2548) rfl rfl rfl ?_
  refine l_end rfl rfl ?_
  exact ⟨Nat.le_trans (Nat.le_of_eq (len_s (len_a HL rfl))) (Nat.le_of_ble_eq_true rfl), Nat.le_trans (sz_s rfl (rd_app H400) rfl (sz_aa (k := 6) (m := 20006) rfl rfl HZ)) (Nat.le_of_ble_eq_true rfl)⟩
theorem p1_41_4m {xs : Nat → Int32} {h : mj_H} (hk : xs 0 &&& nI 63 = nI 41) (hx1 : xs 1 = nI 4) {q : Int32} (hx2 : xs 2 = q) (hq : 7 < q.toInt) (HL : h.length = 414) (HZ : mj_sz h ≤ 20000) (H0 : mj_rd h 0 = some (.inr (0, [.ref 1, .ref 38, .ref 299, .ref 336, .ref 373, .ref 375, .ref 378, .ref 381, .ref 387, .ref 393, .null, .null, .ref 397, .ref 398, .ref 399, .long (lN 0), .long (lN 0)]))) (H400 : mj_rd h 400 = some (.inr (17, [.int (nI 0), .ref 401, .ref 402, .ref 1000300, .long (lN 0), .long (lN 0), .ref 410, .null, .null, .null, .ref 411]))) : mj_fin 4 xs h := by
  unfold mj_fin
  refine l_ild (p' := 30) rfl rfl rfl rfl ?_
  refine l_alds (p' := 31) rfl rfl rfl rfl ?_
  refine l_lens (p' := 32) rfl rfl rfl ?_
  refine l_con (p' := 33) rfl rfl rfl ?_
  refine l_bz (p' := 34) (z := (nI 0)) rfl rfl rfl rfl rfl (by decide +kernel) ?_
  refine l_icmp (p' := 37) false rfl rfl (by decide +kernel) rfl ?_
  refine l_alds (p' := 38) rfl rfl rfl rfl ?_
  refine l_ild (p' := 40) rfl rfl rfl rfl ?_
  refine l_ialz (p' := 41) (m := 0) (z := (xs 0)) rfl rfl (by decide +kernel) rfl rfl rfl ?_
  refine l_bip (p' := 43) rfl rfl rfl ?_
  refine l_bz (p' := 44) (z := (nI 41)) rfl rfl rfl rfl rfl hk ?_
  refine l_sp (p' := 2188) (ls' := _) rfl rfl rfl rfl rfl ?_
  refine l_aldn (p' := 2189) rfl rfl rfl rfl ?_
  refine l_alds (p' := 2190) rfl rfl rfl rfl ?_
  refine l_ild (p' := 2192) rfl rfl rfl rfl ?_
  refine l_con (p' := 2193) rfl rfl rfl ?_
  refine l_bz (p' := 2194) (z := (nI 1)) rfl rfl rfl rfl rfl (by decide +kernel) ?_
  refine l_ialz (p' := 2195) (m := 1) (z := (nI 4)) rfl rfl (by decide +kernel) rfl hx1 rfl ?_
  refine l_alds (p' := 2196) rfl rfl rfl rfl ?_
  refine l_ild (p' := 2198) rfl rfl rfl rfl ?_
  refine l_con (p' := 2199) rfl rfl rfl ?_
  refine l_bz (p' := 2200) (z := (nI 2)) rfl rfl rfl rfl rfl (by decide +kernel) ?_
  refine l_ialz (p' := 2201) (m := 2) (z := q) rfl rfl (by decide +kernel) rfl hx2 rfl ?_
  refine l_aldn (p' := 2202) rfl rfl rfl rfl ?_
  refine l_call (p' := 2205) (kc := 99) (ls0 := [_, _, _, _, _]) rfl rfl rfl rfl rfl rfl rfl rfl rfl rfl ?_
  refine s_aldn (p' := 1) rfl rfl rfl ?_
  refine s_con (p' := 2) rfl rfl ?_
  refine s_aldn (p' := 3) rfl rfl rfl ?_
  refine s_ildn (p' := 4) rfl rfl rfl ?_
  refine s_ildn (p' := 5) rfl rfl rfl ?_
  refine c_call (p' := 8) (kc := 98) (ls0 := [_, _, _, _]) rfl rfl rfl rfl rfl (mj_rcv_is H0) rfl rfl rfl ?_
  refine s_ildn (p' := 1) rfl rfl rfl ?_
  refine c_call (p' := 4) (kc := 97) (ls0 := [_]) rfl rfl rfl rfl rfl rfl rfl rfl rfl ?_
  refine s_ildn (p' := 1) rfl rfl rfl ?_
  refine s_if (p' := 4) false rfl (by decide +kernel) rfl ?_
  refine s_ildn (p' := 5) rfl rfl rfl ?_
  refine s_bip (p' := 7) rfl rfl ?_
  refine s_icmp (p' := 10) false rfl (by decide +kernel) rfl ?_
  refine s_con (p' := 11) rfl rfl ?_
  refine s_goto (p' := 15) rfl rfl ?_
  refine c_iret rfl (by decide +kernel) ?_
  refine s_if (p' := 7) false rfl (by decide +kernel) rfl ?_
  refine s_ildn (p' := 8) rfl rfl rfl ?_
  refine c_call (p' := 11) (kc := 97) (ls0 := [_]) rfl rfl rfl rfl rfl rfl rfl rfl rfl ?_
  refine s_ildn (p' := 1) rfl rfl rfl ?_
  refine s_if (p' := 4) false rfl ((cg_lt (w := 0) (by decide +kernel)).trans (decide_eq_false (by omega))) rfl ?_
  refine s_ildn (p' := 5) rfl rfl rfl ?_
  refine s_bip (p' := 7) rfl rfl ?_
  refine s_icmp (p' := 14) true rfl ((cg_ge (w := 8) (by decide +kernel)).trans (decide_eq_true (by omega))) rfl ?_
  refine s_con (p' := 15) rfl rfl ?_
  refine c_iret rfl (by decide +kernel) ?_
  refine s_if (p' := 14) false rfl (by decide +kernel) rfl ?_
  refine s_thrz (q := 414) rfl HL rfl ?_
  refine K_c (hp := 13) rfl (mj_ocl_is (rd_nw rfl HL)) rfl ?_
  refine s_ast (p' := 15) (ls' := [_, _, _, _, _]) rfl rfl rfl rfl ?_
  refine s_con (p' := 16) rfl rfl ?_
  refine k_iret rfl rfl ?_
  refine l_ist (p' := 2207) (ls' := [_, _, _, _, _, _, _, _, _, _]) rfl rfl rfl rfl rfl ?_
  refine l_aldn (p' := 2208) rfl rfl rfl rfl ?_
  refine l_alds (p' := 2209) rfl rfl rfl rfl ?_
  refine l_ild (p' := 2211) rfl rfl rfl rfl ?_
  refine l_con (p' := 2212) rfl rfl rfl ?_
  refine l_bz (p' := 2213) (z := (nI 1)) rfl rfl rfl rfl rfl (by decide +kernel) ?_
  refine l_ialz (p' := 2214) (m := 1) (z := (nI 4)) rfl rfl (by decide +kernel) rfl hx1 rfl ?_
  refine l_alds (p' := 2215) rfl rfl rfl rfl ?_
  refine l_ild (p' := 2217) rfl rfl rfl rfl ?_
  refine l_con (p' := 2218) rfl rfl rfl ?_
  refine l_bz (p' := 2219) (z := (nI 2)) rfl rfl rfl rfl rfl (by decide +kernel) ?_
  refine l_ialz (p' := 2220) (m := 2) (z := q) rfl rfl (by decide +kernel) rfl hx2 rfl ?_
  refine l_call (p' := 2223) (kc := 99) (ls0 := [_, _, _, _]) rfl rfl rfl rfl rfl rfl (mj_rcv_is (rd_app H400)) rfl rfl rfl ?_
  refine s_aldn (p' := 1) rfl rfl rfl ?_
  refine s_ildn (p' := 2) rfl rfl rfl ?_
  refine s_con (p' := 3) rfl rfl ?_
  refine s_bip (p' := 5) rfl rfl ?_
  refine c_call (p' := 8) (kc := 98) (ls0 := [_, _, _]) rfl rfl rfl rfl rfl rfl rfl rfl rfl ?_
  refine s_ildn (p' := 1) rfl rfl rfl ?_
  refine s_ildn (p' := 2) rfl rfl rfl ?_
  refine s_icmp (p' := 5) false rfl (by decide +kernel) rfl ?_
  refine s_ildn (p' := 6) rfl rfl rfl ?_
  refine s_ildn (p' := 7) rfl rfl rfl ?_
  refine s_icmp (p' := 10) false rfl (by decide +kernel) rfl ?_
  refine s_con (p' := 11) rfl rfl ?_
  refine s_goto (p' := 15) rfl rfl ?_
  refine c_iret rfl (by decide +kernel) ?_
  refine s_if (p' := 11) false rfl (by decide +kernel) rfl ?_
  refine s_ildn (p' := 12) rfl rfl rfl ?_
  refine s_con (p' := 13) rfl rfl ?_
  refine s_bip (p' := 15) rfl rfl ?_
  refine c_call (p' := 18) (kc := 98) (ls0 := [_, _, _]) rfl rfl rfl rfl rfl rfl rfl rfl rfl ?_
  refine s_ildn (p' := 1) rfl rfl rfl ?_
  refine s_ildn (p' := 2) rfl rfl rfl ?_
  refine s_icmp (p' := 5) false rfl ((ch_gt (w := 0) (by decide +kernel)).trans (decide_eq_false (by omega))) rfl ?_
  refine s_ildn (p' := 6) rfl rfl rfl ?_
  refine s_ildn (p' := 7) rfl rfl rfl ?_
  refine s_icmp (p' := 14) true rfl ((cg_gt (w := 7) (by decide +kernel)).trans (decide_eq_true (by omega))) rfl ?_
  refine s_con (p' := 15) rfl rfl ?_
  refine c_iret rfl (by decide +kernel) ?_
  refine s_if (p' := 25) true rfl (by decide +kernel) rfl ?_
  refine s_con (p' := 26) rfl rfl ?_
  refine c_call (p' := 29) (kc := 98) (ls0 := [_, _]) rfl rfl rfl rfl rfl (mj_rcv_is (rd_app H400)) rfl rfl rfl ?_
  refine s_aldn (p' := 1) rfl rfl rfl ?_
  refine s_ildn (p' := 2) rfl rfl rfl ?_
  refine s_pfz (p' := 5) (fs' := [_, _, _, _, _, _, _, _, _, _, _]) rfl rfl (rd_app H400) rfl rfl rfl rfl ?_
  refine s_ildn (p' := 6) rfl rfl rfl ?_
  refine s_if (p' := 9) false rfl (by decide +kernel) rfl ?_
  refine s_con (p' := 10) rfl rfl ?_
  refine s_goto (p' := 14) rfl rfl ?_
  refine c_iret rfl (by decide +kernel) ?_
  refine s_if (p' := 32) false rfl (by decide +kernel) rfl ?_
  refine s_con (p' := 33) rfl rfl ?_
  refine k_iret rfl rfl ?_
  refine l_ist (p' := 2225) (ls' := [_, _, _, _, _, _, _, _, _, _]) rfl rfl rfl rfl rfl ?_
  refine l_aldn (p' := 2226) rfl rfl rfl rfl ?_
  refine l_call (p' := 2229) (kc := 99) (ls0 := [_]) rfl rfl rfl rfl rfl rfl (mj_rcv_is (rd_ss rfl (rd_app H400))) rfl rfl rfl ?_
  refine s_aldn (p' := 1) rfl rfl rfl ?_
  refine s_gf (p' := 4) rfl (rd_ss rfl (rd_app H400)) rfl rfl ?_
  refine k_iret rfl rfl ?_
  refine l_ild (p' := 2231) rfl rfl rfl rfl ?_
  refine l_icmp (p' := 2236) true rfl rfl (by decide +kernel) rfl ?_
  refine l_ild (p' := 2238) rfl rfl rfl rfl ?_
  refine l_if (p' := 2253) true rfl rfl (by decide +kernel) rfl ?_
  refine l_goto (p' := 2541) rfl rfl rfl ?_
  refine l_incz (p' := 2544) (w := (nI 4)) (ls' := [_, _, _, _, _, _, _, _, _, _]) rfl rfl rfl rfl (by decide +kernel) rfl rfl ?_
  refine l_goto (p' := 28) rfl rfl rfl ?_
  refine l_ild (p' := 30) rfl rfl rfl rfl ?_
  refine l_alds (p' := 31) rfl rfl rfl rfl ?_
  refine l_lens (p' := 32) rfl rfl rfl ?_
  refine l_con (p' := 33) rfl rfl rfl ?_
  refine l_bz (p' := 34) (z := (nI 0)) rfl rfl rfl rfl rfl (by decide +kernel) ?_
  refine l_icmp (p' := 2547) true rfl rfl (by decide +kernel) rfl ?_
  refine l_con (p' := 2548) rfl rfl rfl ?_
  refine l_end rfl rfl ?_
  exact ⟨Nat.le_trans (Nat.le_of_eq (len_s (len_a HL rfl))) (Nat.le_of_ble_eq_true rfl), Nat.le_trans (sz_s rfl (rd_app H400) rfl (sz_aa (k := 6) (m := 20006) rfl rfl HZ)) (Nat.le_of_ble_eq_true rfl)⟩
theorem p1_41_5 {xs : Nat → Int32} {h : mj_H} (hk : xs 0 &&& nI 63 = nI 41) (hx1 : xs 1 = nI 5) {q : Int32} (hx2 : xs 2 = q) (hq : 0 ≤ q.toInt ∧ q.toInt ≤ 7) (HL : h.length = 414) (HZ : mj_sz h ≤ 20000) (H0 : mj_rd h 0 = some (.inr (0, [.ref 1, .ref 38, .ref 299, .ref 336, .ref 373, .ref 375, .ref 378, .ref 381, .ref 387, .ref 393, .null, .null, .ref 397, .ref 398, .ref 399, .long (lN 0), .long (lN 0)]))) (H397 : mj_rd h 397 = some (.inl (0, (8, .inl (fun _ => 0))))) (H400 : mj_rd h 400 = some (.inr (17, [.int (nI 0), .ref 401, .ref 402, .ref 1000300, .long (lN 0), .long (lN 0), .ref 410, .null, .null, .null, .ref 411]))) (H411 : mj_rd h 411 = some (.inl (0, (8, .inl (fun _ => 0))))) (H412 : mj_rd h 412 = some (.inl (4, (1, .inr (.inl (fun _ => 0)))))) : mj_fin 4 xs h := by
  unfold mj_fin
  refine l_ild (p' := 30) rfl rfl rfl rfl ?_
  refine l_alds (p' := 31) rfl rfl rfl rfl ?_
  refine l_lens (p' := 32) rfl rfl rfl ?_
  refine l_con (p' := 33) rfl rfl rfl ?_
  refine l_bz (p' := 34) (z := (nI 0)) rfl rfl rfl rfl rfl (by decide +kernel) ?_
  refine l_icmp (p' := 37) false rfl rfl (by decide +kernel) rfl ?_
  refine l_alds (p' := 38) rfl rfl rfl rfl ?_
  refine l_ild (p' := 40) rfl rfl rfl rfl ?_
  refine l_ialz (p' := 41) (m := 0) (z := (xs 0)) rfl rfl (by decide +kernel) rfl rfl rfl ?_
  refine l_bip (p' := 43) rfl rfl rfl ?_
  refine l_bz (p' := 44) (z := (nI 41)) rfl rfl rfl rfl rfl hk ?_
  refine l_sp (p' := 2188) (ls' := _) rfl rfl rfl rfl rfl ?_
  refine l_aldn (p' := 2189) rfl rfl rfl rfl ?_
  refine l_alds (p' := 2190) rfl rfl rfl rfl ?_
  refine l_ild (p' := 2192) rfl rfl rfl rfl ?_
  refine l_con (p' := 2193) rfl rfl rfl ?_
  refine l_bz (p' := 2194) (z := (nI 1)) rfl rfl rfl rfl rfl (by decide +kernel) ?_
  refine l_ialz (p' := 2195) (m := 1) (z := (nI 5)) rfl rfl (by decide +kernel) rfl hx1 rfl ?_
  refine l_alds (p' := 2196) rfl rfl rfl rfl ?_
  refine l_ild (p' := 2198) rfl rfl rfl rfl ?_
  refine l_con (p' := 2199) rfl rfl rfl ?_
  refine l_bz (p' := 2200) (z := (nI 2)) rfl rfl rfl rfl rfl (by decide +kernel) ?_
  refine l_ialz (p' := 2201) (m := 2) (z := q) rfl rfl (by decide +kernel) rfl hx2 rfl ?_
  refine l_aldn (p' := 2202) rfl rfl rfl rfl ?_
  refine l_call (p' := 2205) (kc := 99) (ls0 := [_, _, _, _, _]) rfl rfl rfl rfl rfl rfl rfl rfl rfl rfl ?_
  refine s_aldn (p' := 1) rfl rfl rfl ?_
  refine s_con (p' := 2) rfl rfl ?_
  refine s_aldn (p' := 3) rfl rfl rfl ?_
  refine s_ildn (p' := 4) rfl rfl rfl ?_
  refine s_ildn (p' := 5) rfl rfl rfl ?_
  refine c_call (p' := 8) (kc := 98) (ls0 := [_, _, _, _]) rfl rfl rfl rfl rfl (mj_rcv_is H0) rfl rfl rfl ?_
  refine s_ildn (p' := 1) rfl rfl rfl ?_
  refine c_call (p' := 4) (kc := 97) (ls0 := [_]) rfl rfl rfl rfl rfl rfl rfl rfl rfl ?_
  refine s_ildn (p' := 1) rfl rfl rfl ?_
  refine s_if (p' := 4) false rfl (by decide +kernel) rfl ?_
  refine s_ildn (p' := 5) rfl rfl rfl ?_
  refine s_bip (p' := 7) rfl rfl ?_
  refine s_icmp (p' := 10) false rfl (by decide +kernel) rfl ?_
  refine s_con (p' := 11) rfl rfl ?_
  refine s_goto (p' := 15) rfl rfl ?_
  refine c_iret rfl (by decide +kernel) ?_
  refine s_if (p' := 7) false rfl (by decide +kernel) rfl ?_
  refine s_ildn (p' := 8) rfl rfl rfl ?_
  refine c_call (p' := 11) (kc := 97) (ls0 := [_]) rfl rfl rfl rfl rfl rfl rfl rfl rfl ?_
  refine s_ildn (p' := 1) rfl rfl rfl ?_
  refine s_if (p' := 4) false rfl ((cg_lt (w := 0) (by decide +kernel)).trans (decide_eq_false (by omega))) rfl ?_
  refine s_ildn (p' := 5) rfl rfl rfl ?_
  refine s_bip (p' := 7) rfl rfl ?_
  refine s_icmp (p' := 10) false rfl ((cg_ge (w := 8) (by decide +kernel)).trans (decide_eq_false (by omega))) rfl ?_
  refine s_con (p' := 11) rfl rfl ?_
  refine s_goto (p' := 15) rfl rfl ?_
  refine c_iret rfl (by decide +kernel) ?_
  refine s_if (p' := 25) true rfl (by decide +kernel) rfl ?_
  refine s_aldn (p' := 26) rfl rfl rfl ?_
  refine s_gf (p' := 29) rfl H0 rfl rfl ?_
  refine s_ildn (p' := 30) rfl rfl rfl ?_
  refine s_ialz (p' := 31) (m := 5) (v := (nI 0)) rfl H397 (by decide +kernel) rfl (by decide +kernel) rfl ?_
  refine s_istn (p' := 32) (ls' := [_, _, _, _]) rfl rfl rfl rfl ?_
  refine s_aldn (p' := 33) rfl rfl rfl ?_
  refine s_gf (p' := 36) rfl H0 rfl rfl ?_
  refine s_ildn (p' := 37) rfl rfl rfl ?_
  refine s_ildn (p' := 38) rfl rfl rfl ?_
  refine s_iasz (p' := 39) (m := 5) rfl rfl H397 (by decide +kernel) rfl rfl rfl ?_
  refine s_ildn (p' := 40) rfl rfl rfl ?_
  refine c_iret rfl rfl ?_
  refine s_bzL (p' := 9) (z := (lN 0)) rfl rfl rfl (by decide +kernel) ?_
  refine s_lasz (p' := 10) (m := 0) rfl rfl (rd_sn rfl H412) (by decide +kernel) rfl rfl rfl ?_
  refine s_goto (p' := 17) rfl rfl ?_
  refine s_con (p' := 18) rfl rfl ?_
  refine k_iret rfl rfl ?_
  refine l_ist (p' := 2207) (ls' := [_, _, _, _, _, _, _, _, _, _]) rfl rfl rfl rfl rfl ?_
  refine l_aldn (p' := 2208) rfl rfl rfl rfl ?_
  refine l_alds (p' := 2209) rfl rfl rfl rfl ?_
  refine l_ild (p' := 2211) rfl rfl rfl rfl ?_
  refine l_con (p' := 2212) rfl rfl rfl ?_
  refine l_bz (p' := 2213) (z := (nI 1)) rfl rfl rfl rfl rfl (by decide +kernel) ?_
  refine l_ialz (p' := 2214) (m := 1) (z := (nI 5)) rfl rfl (by decide +kernel) rfl hx1 rfl ?_
  refine l_alds (p' := 2215) rfl rfl rfl rfl ?_
  refine l_ild (p' := 2217) rfl rfl rfl rfl ?_
  refine l_con (p' := 2218) rfl rfl rfl ?_
  refine l_bz (p' := 2219) (z := (nI 2)) rfl rfl rfl rfl rfl (by decide +kernel) ?_
  refine l_ialz (p' := 2220) (m := 2) (z := q) rfl rfl (by decide +kernel) rfl hx2 rfl ?_
  refine l_call (p' := 2223) (kc := 99) (ls0 := [_, _, _, _]) rfl rfl rfl rfl rfl rfl (mj_rcv_is (rd_sn rfl (rd_sn rfl H400))) rfl rfl rfl ?_
  refine s_aldn (p' := 1) rfl rfl rfl ?_
  refine s_ildn (p' := 2) rfl rfl rfl ?_
  refine s_con (p' := 3) rfl rfl ?_
  refine s_bip (p' := 5) rfl rfl ?_
  refine c_call (p' := 8) (kc := 98) (ls0 := [_, _, _]) rfl rfl rfl rfl rfl rfl rfl rfl rfl ?_
  refine s_ildn (p' := 1) rfl rfl rfl ?_
  refine s_ildn (p' := 2) rfl rfl rfl ?_
  refine s_icmp (p' := 5) false rfl (by decide +kernel) rfl ?_
  refine s_ildn (p' := 6) rfl rfl rfl ?_
  refine s_ildn (p' := 7) rfl rfl rfl ?_
  refine s_icmp (p' := 10) false rfl (by decide +kernel) rfl ?_
  refine s_con (p' := 11) rfl rfl ?_
  refine s_goto (p' := 15) rfl rfl ?_
  refine c_iret rfl (by decide +kernel) ?_
  refine s_if (p' := 11) false rfl (by decide +kernel) rfl ?_
  refine s_ildn (p' := 12) rfl rfl rfl ?_
  refine s_con (p' := 13) rfl rfl ?_
  refine s_bip (p' := 15) rfl rfl ?_
  refine c_call (p' := 18) (kc := 98) (ls0 := [_, _, _]) rfl rfl rfl rfl rfl rfl rfl rfl rfl ?_
  refine s_ildn (p' := 1) rfl rfl rfl ?_
  refine s_ildn (p' := 2) rfl rfl rfl ?_
  refine s_icmp (p' := 5) false rfl ((ch_gt (w := 0) (by decide +kernel)).trans (decide_eq_false (by omega))) rfl ?_
  refine s_ildn (p' := 6) rfl rfl rfl ?_
  refine s_ildn (p' := 7) rfl rfl rfl ?_
  refine s_icmp (p' := 10) false rfl ((cg_gt (w := 7) (by decide +kernel)).trans (decide_eq_false (by omega))) rfl ?_
  refine s_con (p' := 11) rfl rfl ?_
  refine s_goto (p' := 15) rfl rfl ?_
  refine c_iret rfl (by decide +kernel) ?_
  refine s_if (p' := 21) false rfl (by decide +kernel) rfl ?_
  refine s_con (p' := 22) rfl rfl ?_
  refine s_goto (p' := 26) rfl rfl ?_
  refine c_call (p' := 29) (kc := 98) (ls0 := [_, _]) rfl rfl rfl rfl rfl (mj_rcv_is (rd_sn rfl (rd_sn rfl H400))) rfl rfl rfl ?_
  refine s_aldn (p' := 1) rfl rfl rfl ?_
  refine s_ildn (p' := 2) rfl rfl rfl ?_
  refine s_pfz (p' := 5) (fs' := [_, _, _, _, _, _, _, _, _, _, _]) rfl rfl (rd_sn rfl (rd_sn rfl H400)) rfl rfl rfl rfl ?_
  refine s_ildn (p' := 6) rfl rfl rfl ?_
  refine s_if (p' := 13) true rfl (by decide +kernel) rfl ?_
  refine s_con (p' := 14) rfl rfl ?_
  refine c_iret rfl (by decide +kernel) ?_
  refine s_if (p' := 34) true rfl (by decide +kernel) rfl ?_
  refine s_aldn (p' := 35) rfl rfl rfl ?_
  refine s_gf (p' := 38) rfl (rd_ss rfl (rd_sn rfl (rd_sn rfl H400))) rfl rfl ?_
  refine s_ildn (p' := 39) rfl rfl rfl ?_
  refine s_ialz (p' := 40) (m := 5) (v := (nI 0)) rfl (rd_sn rfl (rd_sn rfl (rd_sn rfl H411))) (by decide +kernel) rfl (by decide +kernel) rfl ?_
  refine s_istn (p' := 41) (ls' := [_, _, _, _]) rfl rfl rfl rfl ?_
  refine s_aldn (p' := 42) rfl rfl rfl ?_
  refine s_gf (p' := 45) rfl (rd_ss rfl (rd_sn rfl (rd_sn rfl H400))) rfl rfl ?_
  refine s_ildn (p' := 46) rfl rfl rfl ?_
  refine s_ildn (p' := 47) rfl rfl rfl ?_
  refine s_iasz (p' := 48) (m := 5) rfl rfl (rd_sn rfl (rd_sn rfl (rd_sn rfl H411))) (by decide +kernel) rfl rfl rfl ?_
  refine s_ildn (p' := 49) rfl rfl rfl ?_
  refine k_iret rfl rfl ?_
  refine l_ist (p' := 2225) (ls' := [_, _, _, _, _, _, _, _, _, _]) rfl rfl rfl rfl rfl ?_
  refine l_aldn (p' := 2226) rfl rfl rfl rfl ?_
  refine l_call (p' := 2229) (kc := 99) (ls0 := [_]) rfl rfl rfl rfl rfl rfl (mj_rcv_is (rd_sn rfl (rd_ss rfl (rd_sn rfl (rd_sn rfl H400))))) rfl rfl rfl ?_
  refine s_aldn (p' := 1) rfl rfl rfl ?_
  refine s_gf (p' := 4) rfl (rd_sn rfl (rd_ss rfl (rd_sn rfl (rd_sn rfl H400)))) rfl rfl ?_
  refine k_iret rfl rfl ?_
  refine l_ild (p' := 2231) rfl rfl rfl rfl ?_
  refine l_icmp (p' := 2236) true rfl rfl (by decide +kernel) rfl ?_
  refine l_ild (p' := 2238) rfl rfl rfl rfl ?_
  refine l_if (p' := 2241) false rfl rfl (by decide +kernel) rfl ?_
  refine l_aldn (p' := 2242) rfl rfl rfl rfl ?_
  refine l_con (p' := 2243) rfl rfl rfl ?_
  refine l_lalz (p' := 2244) (m := 0) (v := (lN 0)) rfl rfl (rd_sn rfl (rd_sn rfl (rd_ss rfl (rd_sn rfl H412)))) (by decide +kernel) rfl (by decide +kernel) rfl ?_
  refine l_ild (p' := 2246) rfl rfl rfl rfl ?_
  refine l_bzL (p' := 2247) (z := (lN 0)) rfl rfl rfl rfl rfl (by decide +kernel) ?_
  refine l_bz (p' := 2248) (z := (nI 0)) rfl rfl rfl rfl rfl (by decide +kernel) ?_
  refine l_if (p' := 2253) true rfl rfl (by decide +kernel) rfl ?_
  refine l_goto (p' := 2541) rfl rfl rfl ?_
  refine l_incz (p' := 2544) (w := (nI 4)) (ls' := [_, _, _, _, _, _, _, _, _, _]) rfl rfl rfl rfl (by decide +kernel) rfl rfl ?_
  refine l_goto (p' := 28) rfl rfl rfl ?_
  refine l_ild (p' := 30) rfl rfl rfl rfl ?_
  refine l_alds (p' := 31) rfl rfl rfl rfl ?_
  refine l_lens (p' := 32) rfl rfl rfl ?_
  refine l_con (p' := 33) rfl rfl rfl ?_
  refine l_bz (p' := 34) (z := (nI 0)) rfl rfl rfl rfl rfl (by decide +kernel) ?_
  refine l_icmp (p' := 2547) true rfl rfl (by decide +kernel) rfl ?_
  refine l_con (p' := 2548) rfl rfl rfl ?_
  refine l_end rfl rfl ?_
  exact ⟨Nat.le_trans (Nat.le_of_eq (len_s (len_s (len_s (len_s HL))))) (Nat.le_of_ble_eq_true rfl), Nat.le_trans (sz_sA rfl (rd_sn rfl (rd_sn rfl (rd_sn rfl H411))) (sz_s rfl (rd_sn rfl (rd_sn rfl H400)) rfl (sz_sA rfl (rd_sn rfl H412) (sz_sA rfl H397 HZ)))) (Nat.le_of_ble_eq_true rfl)⟩
theorem p1_41_5n {xs : Nat → Int32} {h : mj_H} (hk : xs 0 &&& nI 63 = nI 41) (hx1 : xs 1 = nI 5) {q : Int32} (hx2 : xs 2 = q) (hq : q.toInt < 0) (HL : h.length = 414) (HZ : mj_sz h ≤ 20000) (H0 : mj_rd h 0 = some (.inr (0, [.ref 1, .ref 38, .ref 299, .ref 336, .ref 373, .ref 375, .ref 378, .ref 381, .ref 387, .ref 393, .null, .null, .ref 397, .ref 398, .ref 399, .long (lN 0), .long (lN 0)]))) (H400 : mj_rd h 400 = some (.inr (17, [.int (nI 0), .ref 401, .ref 402, .ref 1000300, .long (lN 0), .long (lN 0), .ref 410, .null, .null, .null, .ref 411]))) : mj_fin 4 xs h := by
  unfold mj_fin
  refine l_ild (p' := 30) rfl rfl rfl rfl ?_
  refine l_alds (p' := 31) rfl rfl rfl rfl ?_
  refine l_lens (p' := 32) rfl rfl rfl ?_
  refine l_con (p' := 33) rfl rfl rfl ?_
  refine l_bz (p' := 34) (z := (nI 0)) rfl rfl rfl rfl rfl (by decide +kernel) ?_
  refine l_icmp (p' := 37) false rfl rfl (by decide +kernel) rfl ?_
  refine l_alds (p' := 38) rfl rfl rfl rfl ?_
  refine l_ild (p' := 40) rfl rfl rfl rfl ?_
  refine l_ialz (p' := 41) (m := 0) (z := (xs 0)) rfl rfl (by decide +kernel) rfl rfl rfl ?_
  refine l_bip (p' := 43) rfl rfl rfl ?_
  refine l_bz (p' := 44) (z := (nI 41)) rfl rfl rfl rfl rfl hk ?_
  refine l_sp (p' := 2188) (ls' := _) rfl rfl rfl rfl rfl ?_
  refine l_aldn (p' := 2189) rfl rfl rfl rfl ?_
  refine l_alds (p' := 2190) rfl rfl rfl rfl ?_
  refine l_ild (p' := 2192) rfl rfl rfl rfl ?_
  refine l_con (p' := 2193) rfl rfl rfl ?_
  refine l_bz (p' := 2194) (z := (nI 1)) rfl rfl rfl rfl rfl (by decide +kernel) ?_
  refine l_ialz (p' := 2195) (m := 1) (z := (nI 5)) rfl rfl (by decide +kernel) rfl hx1 rfl ?_
  refine l_alds (p' := 2196) rfl rfl rfl rfl ?_
  refine l_ild (p' := 2198) rfl rfl rfl rfl ?_
  refine l_con (p' := 2199) rfl rfl rfl ?_
  refine l_bz (p' := 2200) (z := (nI 2)) rfl rfl rfl rfl rfl (by decide +kernel) ?_
  refine l_ialz (p' := 2201) (m := 2) (z := q) rfl rfl (by decide +kernel) rfl hx2 rfl ?_
  refine l_aldn (p' := 2202) rfl rfl rfl rfl ?_
  refine l_call (p' := 2205) (kc := 99) (ls0 := [_, _, _, _, _]) rfl rfl rfl rfl rfl rfl rfl rfl rfl rfl ?_
  refine s_aldn (p' := 1) rfl rfl rfl ?_
  refine s_con (p' := 2) rfl rfl ?_
  refine s_aldn (p' := 3) rfl rfl rfl ?_
  refine s_ildn (p' := 4) rfl rfl rfl ?_
  refine s_ildn (p' := 5) rfl rfl rfl ?_
  refine c_call (p' := 8) (kc := 98) (ls0 := [_, _, _, _]) rfl rfl rfl rfl rfl (mj_rcv_is H0) rfl rfl rfl ?_
  refine s_ildn (p' := 1) rfl rfl rfl ?_
  refine c_call (p' := 4) (kc := 97) (ls0 := [_]) rfl rfl rfl rfl rfl rfl rfl rfl rfl ?_
  refine s_ildn (p' := 1) rfl rfl rfl ?_
  refine s_if (p' := 4) false rfl (by decide +kernel) rfl ?_
  refine s_ildn (p' := 5) rfl rfl rfl ?_
  refine s_bip (p' := 7) rfl rfl ?_
  refine s_icmp (p' := 10) false rfl (by decide +kernel) rfl ?_
  refine s_con (p' := 11) rfl rfl ?_
  refine s_goto (p' := 15) rfl rfl ?_
  refine c_iret rfl (by decide +kernel) ?_
  refine s_if (p' := 7) false rfl (by decide +kernel) rfl ?_
  refine s_ildn (p' := 8) rfl rfl rfl ?_
  refine c_call (p' := 11) (kc := 97) (ls0 := [_]) rfl rfl rfl rfl rfl rfl rfl rfl rfl ?_
  refine s_ildn (p' := 1) rfl rfl rfl ?_
  refine s_if (p' := 14) true rfl ((cg_lt (w := 0) (by decide +kernel)).trans (decide_eq_true (by omega))) rfl ?_
  refine s_con (p' := 15) rfl rfl ?_
  refine c_iret rfl (by decide +kernel) ?_
  refine s_if (p' := 14) false rfl (by decide +kernel) rfl ?_
  refine s_thrz (q := 414) rfl HL rfl ?_
  refine K_c (hp := 13) rfl (mj_ocl_is (rd_nw rfl HL)) rfl ?_
  refine s_ast (p' := 15) (ls' := [_, _, _, _, _]) rfl rfl rfl rfl ?_
  refine s_con (p' := 16) rfl rfl ?_
  refine k_iret rfl rfl ?_
  refine l_ist (p' := 2207) (ls' := [_, _, _, _, _, _, _, _, _, _]) rfl rfl rfl rfl rfl ?_
  refine l_aldn (p' := 2208) rfl rfl rfl rfl ?_
  refine l_alds (p' := 2209) rfl rfl rfl rfl ?_
  refine l_ild (p' := 2211) rfl rfl rfl rfl ?_
  refine l_con (p' := 2212) rfl rfl rfl ?_
  refine l_bz (p' := 2213) (z := (nI 1)) rfl rfl rfl rfl rfl (by decide +kernel) ?_
  refine l_ialz (p' := 2214) (m := 1) (z := (nI 5)) rfl rfl (by decide +kernel) rfl hx1 rfl ?_
  refine l_alds (p' := 2215) rfl rfl rfl rfl ?_
  refine l_ild (p' := 2217) rfl rfl rfl rfl ?_
  refine l_con (p' := 2218) rfl rfl rfl ?_
  refine l_bz (p' := 2219) (z := (nI 2)) rfl rfl rfl rfl rfl (by decide +kernel) ?_
  refine l_ialz (p' := 2220) (m := 2) (z := q) rfl rfl (by decide +kernel) rfl hx2 rfl ?_
  refine l_call (p' := 2223) (kc := 99) (ls0 := [_, _, _, _]) rfl rfl rfl rfl rfl rfl (mj_rcv_is (rd_app H400)) rfl rfl rfl ?_
  refine s_aldn (p' := 1) rfl rfl rfl ?_
  refine s_ildn (p' := 2) rfl rfl rfl ?_
  refine s_con (p' := 3) rfl rfl ?_
  refine s_bip (p' := 5) rfl rfl ?_
  refine c_call (p' := 8) (kc := 98) (ls0 := [_, _, _]) rfl rfl rfl rfl rfl rfl rfl rfl rfl ?_
  refine s_ildn (p' := 1) rfl rfl rfl ?_
  refine s_ildn (p' := 2) rfl rfl rfl ?_
  refine s_icmp (p' := 5) false rfl (by decide +kernel) rfl ?_
  refine s_ildn (p' := 6) rfl rfl rfl ?_
  refine s_ildn (p' := 7) rfl rfl rfl ?_
  refine s_icmp (p' := 10) false rfl (by decide +kernel) rfl ?_
  refine s_con (p' := 11) rfl rfl ?_
  refine s_goto (p' := 15) rfl rfl ?_
  refine c_iret rfl (by decide +kernel) ?_
  refine s_if (p' := 11) false rfl (by decide +kernel) rfl ?_
  refine s_ildn (p' := 12) rfl rfl rfl ?_
  refine s_con (p' := 13) rfl rfl ?_
  refine s_bip (p' := 15) rfl rfl ?_
  refine c_call (p' := 18) (kc := 98) (ls0 := [_, _, _]) rfl rfl rfl rfl rfl rfl rfl rfl rfl ?_
  refine s_ildn (p' := 1) rfl rfl rfl ?_
  refine s_ildn (p' := 2) rfl rfl rfl ?_
  refine s_icmp (p' := 14) true rfl ((ch_gt (w := 0) (by decide +kernel)).trans (decide_eq_true (by omega))) rfl ?_
  refine s_con (p' := 15) rfl rfl ?_
  refine c_iret rfl (by decide +kernel) ?_
  refine s_if (p' := 25) true rfl (by decide +kernel) rfl ?_
  refine s_con (p' := 26) rfl rfl ?_
  refine c_call (p' := 29) (kc := 98) (ls0 := [_, _]) rfl rfl rfl rfl rfl (mj_rcv_is (rd_app H400)) rfl rfl rfl ?_
  refine s_aldn (p' := 1) rfl rfl rfl ?_
  refine s_ildn (p' := 2) rfl rfl rfl ?_
  refine s_pfz (p' := 5) (fs' := [_, _, _, _, _, _, _, _, _, _, _]) rfl rfl (rd_app H400) rfl rfl rfl rfl ?_
  refine s_ildn (p' := 6) rfl rfl rfl ?_
  refine s_if (p' := 9) false rfl (by decide +kernel) rfl ?_
  refine s_con (p' := 10) rfl rfl ?_
  refine s_goto (p' := 14) rfl rfl ?_
  refine c_iret rfl (by decide +kernel) ?_
  refine s_if (p' := 32) false rfl (by decide +kernel) rfl ?_
  refine s_con (p' := 33) rfl rfl ?_
  refine k_iret rfl rfl ?_
  refine l_ist (p' := 2225) (ls' := [_, _, _, _, _, _, _, _, _, _]) rfl rfl rfl rfl rfl ?_
  refine l_aldn (p' := 2226) rfl rfl rfl rfl ?_
  refine l_call (p' := 2229) (kc := 99) (ls0 := [_]) rfl rfl rfl rfl rfl rfl (mj_rcv_is (rd_ss rfl (rd_app H400))) rfl rfl rfl ?_
  refine s_aldn (p' := 1) rfl rfl rfl ?_
  refine s_gf (p' := 4) rfl (rd_ss rfl (rd_app H400)) rfl rfl ?_
  refine k_iret rfl rfl ?_
  refine l_ild (p' := 2231) rfl rfl rfl rfl ?_
  refine l_icmp (p' := 2236) true rfl rfl (by decide +kernel) rfl ?_
  refine l_ild (p' := 2238) rfl rfl rfl rfl ?_
  refine l_if (p' := 2253) true rfl rfl (by decide +kernel) rfl ?_
  refine l_goto (p' := 2541) rfl rfl rfl ?_
  refine l_incz (p' := 2544) (w := (nI 4)) (ls' := [_, _, _, _, _, _, _, _, _, _]) rfl rfl rfl rfl (by decide +kernel) rfl rfl ?_
  refine l_goto (p' := 28) rfl rfl rfl ?_
  refine l_ild (p' := 30) rfl rfl rfl rfl ?_
  refine l_alds (p' := 31) rfl rfl rfl rfl ?_
  refine l_lens (p' := 32) rfl rfl rfl ?_
  refine l_con (p' := 33) rfl rfl rfl ?_
  refine l_bz (p' := 34) (z := (nI 0)) rfl rfl rfl rfl rfl (by decide +kernel) ?_
  refine l_icmp (p' := 2547) true rfl rfl (by decide +kernel) rfl ?_
  refine l_con (p' := 2548) rfl rfl rfl ?_
  refine l_end rfl rfl ?_
  exact ⟨Nat.le_trans (Nat.le_of_eq (len_s (len_a HL rfl))) (Nat.le_of_ble_eq_true rfl), Nat.le_trans (sz_s rfl (rd_app H400) rfl (sz_aa (k := 6) (m := 20006) rfl rfl HZ)) (Nat.le_of_ble_eq_true rfl)⟩
theorem p1_41_5m {xs : Nat → Int32} {h : mj_H} (hk : xs 0 &&& nI 63 = nI 41) (hx1 : xs 1 = nI 5) {q : Int32} (hx2 : xs 2 = q) (hq : 7 < q.toInt) (HL : h.length = 414) (HZ : mj_sz h ≤ 20000) (H0 : mj_rd h 0 = some (.inr (0, [.ref 1, .ref 38, .ref 299, .ref 336, .ref 373, .ref 375, .ref 378, .ref 381, .ref 387, .ref 393, .null, .null, .ref 397, .ref 398, .ref 399, .long (lN 0), .long (lN 0)]))) (H400 : mj_rd h 400 = some (.inr (17, [.int (nI 0), .ref 401, .ref 402, .ref 1000300, .long (lN 0), .long (lN 0), .ref 410, .null, .null, .null, .ref 411]))) : mj_fin 4 xs h := by
  unfold mj_fin
  refine l_ild (p' := 30) rfl rfl rfl rfl ?_
  refine l_alds (p' := 31) rfl rfl rfl rfl ?_
  refine l_lens (p' := 32) rfl rfl rfl ?_
  refine l_con (p' := 33) rfl rfl rfl ?_
  refine l_bz (p' := 34) (z := (nI 0)) rfl rfl rfl rfl rfl (by decide +kernel) ?_
  refine l_icmp (p' := 37) false rfl rfl (by decide +kernel) rfl ?_
  refine l_alds (p' := 38) rfl rfl rfl rfl ?_
  refine l_ild (p' := 40) rfl rfl rfl rfl ?_
  refine l_ialz (p' := 41) (m := 0) (z := (xs 0)) rfl rfl (by decide +kernel) rfl rfl rfl ?_
  refine l_bip (p' := 43) rfl rfl rfl ?_
  refine l_bz (p' := 44) (z := (nI 41)) rfl rfl rfl rfl rfl hk ?_
  refine l_sp (p' := 2188) (ls' := _) rfl rfl rfl rfl rfl ?_
  refine l_aldn (p' := 2189) rfl rfl rfl rfl ?_
  refine l_alds (p' := 2190) rfl rfl rfl rfl ?_
  refine l_ild (p' := 2192) rfl rfl rfl rfl ?_
  refine l_con (p' := 2193) rfl rfl rfl ?_
  refine l_bz (p' := 2194) (z := (nI 1)) rfl rfl rfl rfl rfl (by decide +kernel) ?_
  refine l_ialz (p' := 2195) (m := 1) (z := (nI 5)) rfl rfl (by decide +kernel) rfl hx1 rfl ?_
  refine l_alds (p' := 2196) rfl rfl rfl rfl ?_
  refine l_ild (p' := 2198) rfl rfl rfl rfl ?_
  refine l_con (p' := 2199) rfl rfl rfl ?_
  refine l_bz (p' := 2200) (z := (nI 2)) rfl rfl rfl rfl rfl (by decide +kernel) ?_
  refine l_ialz (p' := 2201) (m := 2) (z := q) rfl rfl (by decide +kernel) rfl hx2 rfl ?_
  refine l_aldn (p' := 2202) rfl rfl rfl rfl ?_
  refine l_call (p' := 2205) (kc := 99) (ls0 := [_, _, _, _, _]) rfl rfl rfl rfl rfl rfl rfl rfl rfl rfl ?_
  refine s_aldn (p' := 1) rfl rfl rfl ?_
  refine s_con (p' := 2) rfl rfl ?_
  refine s_aldn (p' := 3) rfl rfl rfl ?_
  refine s_ildn (p' := 4) rfl rfl rfl ?_
  refine s_ildn (p' := 5) rfl rfl rfl ?_
  refine c_call (p' := 8) (kc := 98) (ls0 := [_, _, _, _]) rfl rfl rfl rfl rfl (mj_rcv_is H0) rfl rfl rfl ?_
  refine s_ildn (p' := 1) rfl rfl rfl ?_
  refine c_call (p' := 4) (kc := 97) (ls0 := [_]) rfl rfl rfl rfl rfl rfl rfl rfl rfl ?_
  refine s_ildn (p' := 1) rfl rfl rfl ?_
  refine s_if (p' := 4) false rfl (by decide +kernel) rfl ?_
  refine s_ildn (p' := 5) rfl rfl rfl ?_
  refine s_bip (p' := 7) rfl rfl ?_
  refine s_icmp (p' := 10) false rfl (by decide +kernel) rfl ?_
  refine s_con (p' := 11) rfl rfl ?_
  refine s_goto (p' := 15) rfl rfl ?_
  refine c_iret rfl (by decide +kernel) ?_
  refine s_if (p' := 7) false rfl (by decide +kernel) rfl ?_
  refine s_ildn (p' := 8) rfl rfl rfl ?_
  refine c_call (p' := 11) (kc := 97) (ls0 := [_]) rfl rfl rfl rfl rfl rfl rfl rfl rfl ?_
  refine s_ildn (p' := 1) rfl rfl rfl ?_
  refine s_if (p' := 4) false rfl ((cg_lt (w := 0) (by decide +kernel)).trans (decide_eq_false (by omega))) rfl ?_
  refine s_ildn (p' := 5) rfl rfl rfl ?_
  refine s_bip (p' := 7) rfl rfl ?_
  refine s_icmp (p' := 14) true rfl ((cg_ge (w := 8) (by decide +kernel)).trans (decide_eq_true (by omega))) rfl ?_
  refine s_con (p' := 15) rfl rfl ?_
  refine c_iret rfl (by decide +kernel) ?_
  refine s_if (p' := 14) false rfl (by decide +kernel) rfl ?_
  refine s_thrz (q := 414) rfl HL rfl ?_
  refine K_c (hp := 13) rfl (mj_ocl_is (rd_nw rfl HL)) rfl ?_
  refine s_ast (p' := 15) (ls' := [_, _, _, _, _]) rfl rfl rfl rfl ?_
  refine s_con (p' := 16) rfl rfl ?_
  refine k_iret rfl rfl ?_
  refine l_ist (p' := 2207) (ls' := [_, _, _, _, _, _, _, _, _, _]) rfl rfl rfl rfl rfl ?_
  refine l_aldn (p' := 2208) rfl rfl rfl rfl ?_
  refine l_alds (p' := 2209) rfl rfl rfl rfl ?_
  refine l_ild (p' := 2211) rfl rfl rfl rfl ?_
  refine l_con (p' := 2212) rfl rfl rfl ?_
  refine l_bz (p' := 2213) (z := (nI 1)) rfl rfl rfl rfl rfl (by decide +kernel) ?_
  refine l_ialz (p' := 2214) (m := 1) (z := (nI 5)) rfl rfl (by decide +kernel) rfl hx1 rfl ?_
  refine l_alds (p' := 2215) rfl rfl rfl rfl ?_
  refine l_ild (p' := 2217) rfl rfl rfl rfl ?_
  refine l_con (p' := 2218) rfl rfl rfl ?_
  refine l_bz (p' := 2219) (z := (nI 2)) rfl rfl rfl rfl rfl (by decide +kernel) ?_
  refine l_ialz (p' := 2220) (m := 2) (z := q) rfl rfl (by decide +kernel) rfl hx2 rfl ?_
  refine l_call (p' := 2223) (kc := 99) (ls0 := [_, _, _, _]) rfl rfl rfl rfl rfl rfl (mj_rcv_is (rd_app H400)) rfl rfl rfl ?_
  refine s_aldn (p' := 1) rfl rfl rfl ?_
  refine s_ildn (p' := 2) rfl rfl rfl ?_
  refine s_con (p' := 3) rfl rfl ?_
  refine s_bip (p' := 5) rfl rfl ?_
  refine c_call (p' := 8) (kc := 98) (ls0 := [_, _, _]) rfl rfl rfl rfl rfl rfl rfl rfl rfl ?_
  refine s_ildn (p' := 1) rfl rfl rfl ?_
  refine s_ildn (p' := 2) rfl rfl rfl ?_
  refine s_icmp (p' := 5) false rfl (by decide +kernel) rfl ?_
  refine s_ildn (p' := 6) rfl rfl rfl ?_
  refine s_ildn (p' := 7) rfl rfl rfl ?_
  refine s_icmp (p' := 10) false rfl (by decide +kernel) rfl ?_
  refine s_con (p' := 11) rfl rfl ?_
  refine s_goto (p' := 15) rfl rfl ?_
  refine c_iret rfl (by decide +kernel) ?_
  refine s_if (p' := 11) false rfl (by decide +kernel) rfl ?_
  refine s_ildn (p' := 12) rfl rfl rfl ?_
  refine s_con (p' := 13) rfl rfl ?_
  refine s_bip (p' := 15) rfl rfl ?_
  refine c_call (p' := 18) (kc := 98) (ls0 := [_, _, _]) rfl rfl rfl rfl rfl rfl rfl rfl rfl ?_
  refine s_ildn (p' := 1) rfl rfl rfl ?_
  refine s_ildn (p' := 2) rfl rfl rfl ?_
  refine s_icmp (p' := 5) false rfl ((ch_gt (w := 0) (by decide +kernel)).trans (decide_eq_false (by omega))) rfl ?_
  refine s_ildn (p' := 6) rfl rfl rfl ?_
  refine s_ildn (p' := 7) rfl rfl rfl ?_
  refine s_icmp (p' := 14) true rfl ((cg_gt (w := 7) (by decide +kernel)).trans (decide_eq_true (by omega))) rfl ?_
  refine s_con (p' := 15) rfl rfl ?_
  refine c_iret rfl (by decide +kernel) ?_
  refine s_if (p' := 25) true rfl (by decide +kernel) rfl ?_
  refine s_con (p' := 26) rfl rfl ?_
  refine c_call (p' := 29) (kc := 98) (ls0 := [_, _]) rfl rfl rfl rfl rfl (mj_rcv_is (rd_app H400)) rfl rfl rfl ?_
  refine s_aldn (p' := 1) rfl rfl rfl ?_
  refine s_ildn (p' := 2) rfl rfl rfl ?_
  refine s_pfz (p' := 5) (fs' := [_, _, _, _, _, _, _, _, _, _, _]) rfl rfl (rd_app H400) rfl rfl rfl rfl ?_
  refine s_ildn (p' := 6) rfl rfl rfl ?_
  refine s_if (p' := 9) false rfl (by decide +kernel) rfl ?_
  refine s_con (p' := 10) rfl rfl ?_
  refine s_goto (p' := 14) rfl rfl ?_
  refine c_iret rfl (by decide +kernel) ?_
  refine s_if (p' := 32) false rfl (by decide +kernel) rfl ?_
  refine s_con (p' := 33) rfl rfl ?_
  refine k_iret rfl rfl ?_
  refine l_ist (p' := 2225) (ls' := [_, _, _, _, _, _, _, _, _, _]) rfl rfl rfl rfl rfl ?_
  refine l_aldn (p' := 2226) rfl rfl rfl rfl ?_
  refine l_call (p' := 2229) (kc := 99) (ls0 := [_]) rfl rfl rfl rfl rfl rfl (mj_rcv_is (rd_ss rfl (rd_app H400))) rfl rfl rfl ?_
  refine s_aldn (p' := 1) rfl rfl rfl ?_
  refine s_gf (p' := 4) rfl (rd_ss rfl (rd_app H400)) rfl rfl ?_
  refine k_iret rfl rfl ?_
  refine l_ild (p' := 2231) rfl rfl rfl rfl ?_
  refine l_icmp (p' := 2236) true rfl rfl (by decide +kernel) rfl ?_
  refine l_ild (p' := 2238) rfl rfl rfl rfl ?_
  refine l_if (p' := 2253) true rfl rfl (by decide +kernel) rfl ?_
  refine l_goto (p' := 2541) rfl rfl rfl ?_
  refine l_incz (p' := 2544) (w := (nI 4)) (ls' := [_, _, _, _, _, _, _, _, _, _]) rfl rfl rfl rfl (by decide +kernel) rfl rfl ?_
  refine l_goto (p' := 28) rfl rfl rfl ?_
  refine l_ild (p' := 30) rfl rfl rfl rfl ?_
  refine l_alds (p' := 31) rfl rfl rfl rfl ?_
  refine l_lens (p' := 32) rfl rfl rfl ?_
  refine l_con (p' := 33) rfl rfl rfl ?_
  refine l_bz (p' := 34) (z := (nI 0)) rfl rfl rfl rfl rfl (by decide +kernel) ?_
  refine l_icmp (p' := 2547) true rfl rfl (by decide +kernel) rfl ?_
  refine l_con (p' := 2548) rfl rfl rfl ?_
  refine l_end rfl rfl ?_
  exact ⟨Nat.le_trans (Nat.le_of_eq (len_s (len_a HL rfl))) (Nat.le_of_ble_eq_true rfl), Nat.le_trans (sz_s rfl (rd_app H400) rfl (sz_aa (k := 6) (m := 20006) rfl rfl HZ)) (Nat.le_of_ble_eq_true rfl)⟩
theorem p1_41_6 {xs : Nat → Int32} {h : mj_H} (hk : xs 0 &&& nI 63 = nI 41) (hx1 : xs 1 = nI 6) {q : Int32} (hx2 : xs 2 = q) (hq : 0 ≤ q.toInt ∧ q.toInt ≤ 7) (HL : h.length = 414) (HZ : mj_sz h ≤ 20000) (H0 : mj_rd h 0 = some (.inr (0, [.ref 1, .ref 38, .ref 299, .ref 336, .ref 373, .ref 375, .ref 378, .ref 381, .ref 387, .ref 393, .null, .null, .ref 397, .ref 398, .ref 399, .long (lN 0), .long (lN 0)]))) (H397 : mj_rd h 397 = some (.inl (0, (8, .inl (fun _ => 0))))) (H400 : mj_rd h 400 = some (.inr (17, [.int (nI 0), .ref 401, .ref 402, .ref 1000300, .long (lN 0), .long (lN 0), .ref 410, .null, .null, .null, .ref 411]))) (H411 : mj_rd h 411 = some (.inl (0, (8, .inl (fun _ => 0))))) (H412 : mj_rd h 412 = some (.inl (4, (1, .inr (.inl (fun _ => 0)))))) : mj_fin 4 xs h := by
  unfold mj_fin
  refine l_ild (p' := 30) rfl rfl rfl rfl ?_
  refine l_alds (p' := 31) rfl rfl rfl rfl ?_
  refine l_lens (p' := 32) rfl rfl rfl ?_
  refine l_con (p' := 33) rfl rfl rfl ?_
  refine l_bz (p' := 34) (z := (nI 0)) rfl rfl rfl rfl rfl (by decide +kernel) ?_
  refine l_icmp (p' := 37) false rfl rfl (by decide +kernel) rfl ?_
  refine l_alds (p' := 38) rfl rfl rfl rfl ?_
  refine l_ild (p' := 40) rfl rfl rfl rfl ?_
  refine l_ialz (p' := 41) (m := 0) (z := (xs 0)) rfl rfl (by decide +kernel) rfl rfl rfl ?_
  refine l_bip (p' := 43) rfl rfl rfl ?_
  refine l_bz (p' := 44) (z := (nI 41)) rfl rfl rfl rfl rfl hk ?_
  refine l_sp (p' := 2188) (ls' := _) rfl rfl rfl rfl rfl ?_
  refine l_aldn (p' := 2189) rfl rfl rfl rfl ?_
  refine l_alds (p' := 2190) rfl rfl rfl rfl ?_
  refine l_ild (p' := 2192) rfl rfl rfl rfl ?_
  refine l_con (p' := 2193) rfl rfl rfl ?_
  refine l_bz (p' := 2194) (z := (nI 1)) rfl rfl rfl rfl rfl (by decide +kernel) ?_
  refine l_ialz (p' := 2195) (m := 1) (z := (nI 6)) rfl rfl (by decide +kernel) rfl hx1 rfl ?_
  refine l_alds (p' := 2196) rfl rfl rfl rfl ?_
  refine l_ild (p' := 2198) rfl rfl rfl rfl ?_
  refine l_con (p' := 2199) rfl rfl rfl ?_
  refine l_bz (p' := 2200) (z := (nI 2)) rfl rfl rfl rfl rfl (by decide +kernel) ?_
  refine l_ialz (p' := 2201) (m := 2) (z := q) rfl rfl (by decide +kernel) rfl hx2 rfl ?_
  refine l_aldn (p' := 2202) rfl rfl rfl rfl ?_
  refine l_call (p' := 2205) (kc := 99) (ls0 := [_, _, _, _, _]) rfl rfl rfl rfl rfl rfl rfl rfl rfl rfl ?_
  refine s_aldn (p' := 1) rfl rfl rfl ?_
  refine s_con (p' := 2) rfl rfl ?_
  refine s_aldn (p' := 3) rfl rfl rfl ?_
  refine s_ildn (p' := 4) rfl rfl rfl ?_
  refine s_ildn (p' := 5) rfl rfl rfl ?_
  refine c_call (p' := 8) (kc := 98) (ls0 := [_, _, _, _]) rfl rfl rfl rfl rfl (mj_rcv_is H0) rfl rfl rfl ?_
  refine s_ildn (p' := 1) rfl rfl rfl ?_
  refine c_call (p' := 4) (kc := 97) (ls0 := [_]) rfl rfl rfl rfl rfl rfl rfl rfl rfl ?_
  refine s_ildn (p' := 1) rfl rfl rfl ?_
  refine s_if (p' := 4) false rfl (by decide +kernel) rfl ?_
  refine s_ildn (p' := 5) rfl rfl rfl ?_
  refine s_bip (p' := 7) rfl rfl ?_
  refine s_icmp (p' := 10) false rfl (by decide +kernel) rfl ?_
  refine s_con (p' := 11) rfl rfl ?_
  refine s_goto (p' := 15) rfl rfl ?_
  refine c_iret rfl (by decide +kernel) ?_
  refine s_if (p' := 7) false rfl (by decide +kernel) rfl ?_
  refine s_ildn (p' := 8) rfl rfl rfl ?_
  refine c_call (p' := 11) (kc := 97) (ls0 := [_]) rfl rfl rfl rfl rfl rfl rfl rfl rfl ?_
  refine s_ildn (p' := 1) rfl rfl rfl ?_
  refine s_if (p' := 4) false rfl ((cg_lt (w := 0) (by decide +kernel)).trans (decide_eq_false (by omega))) rfl ?_
  refine s_ildn (p' := 5) rfl rfl rfl ?_
  refine s_bip (p' := 7) rfl rfl ?_
  refine s_icmp (p' := 10) false rfl ((cg_ge (w := 8) (by decide +kernel)).trans (decide_eq_false (by omega))) rfl ?_
  refine s_con (p' := 11) rfl rfl ?_
  refine s_goto (p' := 15) rfl rfl ?_
  refine c_iret rfl (by decide +kernel) ?_
  refine s_if (p' := 25) true rfl (by decide +kernel) rfl ?_
  refine s_aldn (p' := 26) rfl rfl rfl ?_
  refine s_gf (p' := 29) rfl H0 rfl rfl ?_
  refine s_ildn (p' := 30) rfl rfl rfl ?_
  refine s_ialz (p' := 31) (m := 6) (v := (nI 0)) rfl H397 (by decide +kernel) rfl (by decide +kernel) rfl ?_
  refine s_istn (p' := 32) (ls' := [_, _, _, _]) rfl rfl rfl rfl ?_
  refine s_aldn (p' := 33) rfl rfl rfl ?_
  refine s_gf (p' := 36) rfl H0 rfl rfl ?_
  refine s_ildn (p' := 37) rfl rfl rfl ?_
  refine s_ildn (p' := 38) rfl rfl rfl ?_
  refine s_iasz (p' := 39) (m := 6) rfl rfl H397 (by decide +kernel) rfl rfl rfl ?_
  refine s_ildn (p' := 40) rfl rfl rfl ?_
  refine c_iret rfl rfl ?_
  refine s_bzL (p' := 9) (z := (lN 0)) rfl rfl rfl (by decide +kernel) ?_
  refine s_lasz (p' := 10) (m := 0) rfl rfl (rd_sn rfl H412) (by decide +kernel) rfl rfl rfl ?_
  refine s_goto (p' := 17) rfl rfl ?_
  refine s_con (p' := 18) rfl rfl ?_
  refine k_iret rfl rfl ?_
  refine l_ist (p' := 2207) (ls' := [_, _, _, _, _, _, _, _, _, _]) rfl rfl rfl rfl rfl ?_
  refine l_aldn (p' := 2208) rfl rfl rfl rfl ?_
  refine l_alds (p' := 2209) rfl rfl rfl rfl ?_
  refine l_ild (p' := 2211) rfl rfl rfl rfl ?_
  refine l_con (p' := 2212) rfl rfl rfl ?_
  refine l_bz (p' := 2213) (z := (nI 1)) rfl rfl rfl rfl rfl (by decide +kernel) ?_
  refine l_ialz (p' := 2214) (m := 1) (z := (nI 6)) rfl rfl (by decide +kernel) rfl hx1 rfl ?_
  refine l_alds (p' := 2215) rfl rfl rfl rfl ?_
  refine l_ild (p' := 2217) rfl rfl rfl rfl ?_
  refine l_con (p' := 2218) rfl rfl rfl ?_
  refine l_bz (p' := 2219) (z := (nI 2)) rfl rfl rfl rfl rfl (by decide +kernel) ?_
  refine l_ialz (p' := 2220) (m := 2) (z := q) rfl rfl (by decide +kernel) rfl hx2 rfl ?_
  refine l_call (p' := 2223) (kc := 99) (ls0 := [_, _, _, _]) rfl rfl rfl rfl rfl rfl (mj_rcv_is (rd_sn rfl (rd_sn rfl H400))) rfl rfl rfl ?_
  refine s_aldn (p' := 1) rfl rfl rfl ?_
  refine s_ildn (p' := 2) rfl rfl rfl ?_
  refine s_con (p' := 3) rfl rfl ?_
  refine s_bip (p' := 5) rfl rfl ?_
  refine c_call (p' := 8) (kc := 98) (ls0 := [_, _, _]) rfl rfl rfl rfl rfl rfl rfl rfl rfl ?_
  refine s_ildn (p' := 1) rfl rfl rfl ?_
  refine s_ildn (p' := 2) rfl rfl rfl ?_
  refine s_icmp (p' := 5) false rfl (by decide +kernel) rfl ?_
  refine s_ildn (p' := 6) rfl rfl rfl ?_
  refine s_ildn (p' := 7) rfl rfl rfl ?_
  refine s_icmp (p' := 10) false rfl (by decide +kernel) rfl ?_
  refine s_con (p' := 11) rfl rfl ?_
  refine s_goto (p' := 15) rfl rfl ?_
  refine c_iret rfl (by decide +kernel) ?_
  refine s_if (p' := 11) false rfl (by decide +kernel) rfl ?_
  refine s_ildn (p' := 12) rfl rfl rfl ?_
  refine s_con (p' := 13) rfl rfl ?_
  refine s_bip (p' := 15) rfl rfl ?_
  refine c_call (p' := 18) (kc := 98) (ls0 := [_, _, _]) rfl rfl rfl rfl rfl rfl rfl rfl rfl ?_
  refine s_ildn (p' := 1) rfl rfl rfl ?_
  refine s_ildn (p' := 2) rfl rfl rfl ?_
  refine s_icmp (p' := 5) false rfl ((ch_gt (w := 0) (by decide +kernel)).trans (decide_eq_false (by omega))) rfl ?_
  refine s_ildn (p' := 6) rfl rfl rfl ?_
  refine s_ildn (p' := 7) rfl rfl rfl ?_
  refine s_icmp (p' := 10) false rfl ((cg_gt (w := 7) (by decide +kernel)).trans (decide_eq_false (by omega))) rfl ?_
  refine s_con (p' := 11) rfl rfl ?_
  refine s_goto (p' := 15) rfl rfl ?_
  refine c_iret rfl (by decide +kernel) ?_
  refine s_if (p' := 21) false rfl (by decide +kernel) rfl ?_
  refine s_con (p' := 22) rfl rfl ?_
  refine s_goto (p' := 26) rfl rfl ?_
  refine c_call (p' := 29) (kc := 98) (ls0 := [_, _]) rfl rfl rfl rfl rfl (mj_rcv_is (rd_sn rfl (rd_sn rfl H400))) rfl rfl rfl ?_
  refine s_aldn (p' := 1) rfl rfl rfl ?_
  refine s_ildn (p' := 2) rfl rfl rfl ?_
  refine s_pfz (p' := 5) (fs' := [_, _, _, _, _, _, _, _, _, _, _]) rfl rfl (rd_sn rfl (rd_sn rfl H400)) rfl rfl rfl rfl ?_
  refine s_ildn (p' := 6) rfl rfl rfl ?_
  refine s_if (p' := 13) true rfl (by decide +kernel) rfl ?_
  refine s_con (p' := 14) rfl rfl ?_
  refine c_iret rfl (by decide +kernel) ?_
  refine s_if (p' := 34) true rfl (by decide +kernel) rfl ?_
  refine s_aldn (p' := 35) rfl rfl rfl ?_
  refine s_gf (p' := 38) rfl (rd_ss rfl (rd_sn rfl (rd_sn rfl H400))) rfl rfl ?_
  refine s_ildn (p' := 39) rfl rfl rfl ?_
  refine s_ialz (p' := 40) (m := 6) (v := (nI 0)) rfl (rd_sn rfl (rd_sn rfl (rd_sn rfl H411))) (by decide +kernel) rfl (by decide +kernel) rfl ?_
  refine s_istn (p' := 41) (ls' := [_, _, _, _]) rfl rfl rfl rfl ?_
  refine s_aldn (p' := 42) rfl rfl rfl ?_
  refine s_gf (p' := 45) rfl (rd_ss rfl (rd_sn rfl (rd_sn rfl H400))) rfl rfl ?_
  refine s_ildn (p' := 46) rfl rfl rfl ?_
  refine s_ildn (p' := 47) rfl rfl rfl ?_
  refine s_iasz (p' := 48) (m := 6) rfl rfl (rd_sn rfl (rd_sn rfl (rd_sn rfl H411))) (by decide +kernel) rfl rfl rfl ?_
  refine s_ildn (p' := 49) rfl rfl rfl ?_
  refine k_iret rfl rfl ?_
  refine l_ist (p' := 2225) (ls' := [_, _, _, _, _, _, _, _, _, _]) rfl rfl rfl rfl rfl ?_
  refine l_aldn (p' := 2226) rfl rfl rfl rfl ?_
  refine l_call (p' := 2229) (kc := 99) (ls0 := [_]) rfl rfl rfl rfl rfl rfl (mj_rcv_is (rd_sn rfl (rd_ss rfl (rd_sn rfl (rd_sn rfl H400))))) rfl rfl rfl ?_
  refine s_aldn (p' := 1) rfl rfl rfl ?_
  refine s_gf (p' := 4) rfl (rd_sn rfl (rd_ss rfl (rd_sn rfl (rd_sn rfl H400)))) rfl rfl ?_
  refine k_iret rfl rfl ?_
  refine l_ild (p' := 2231) rfl rfl rfl rfl ?_
  refine l_icmp (p' := 2236) true rfl rfl (by decide +kernel) rfl ?_
  refine l_ild (p' := 2238) rfl rfl rfl rfl ?_
  refine l_if (p' := 2241) false rfl rfl (by decide +kernel) rfl ?_
  refine l_aldn (p' := 2242) rfl rfl rfl rfl ?_
  refine l_con (p' := 2243) rfl rfl rfl ?_
  refine l_lalz (p' := 2244) (m := 0) (v := (lN 0)) rfl rfl (rd_sn rfl (rd_sn rfl (rd_ss rfl (rd_sn rfl H412)))) (by decide +kernel) rfl (by decide +kernel) rfl ?_
  refine l_ild (p' := 2246) rfl rfl rfl rfl ?_
  refine l_bzL (p' := 2247) (z := (lN 0)) rfl rfl rfl rfl rfl (by decide +kernel) ?_
  refine l_bz (p' := 2248) (z := (nI 0)) rfl rfl rfl rfl rfl (by decide +kernel) ?_
  refine l_if (p' := 2253) true rfl rfl (by decide +kernel) rfl ?_
  refine l_goto (p' := 2541) rfl rfl rfl ?_
  refine l_incz (p' := 2544) (w := (nI 4)) (ls' := [_, _, _, _, _, _, _, _, _, _]) rfl rfl rfl rfl (by decide +kernel) rfl rfl ?_
  refine l_goto (p' := 28) rfl rfl rfl ?_
  refine l_ild (p' := 30) rfl rfl rfl rfl ?_
  refine l_alds (p' := 31) rfl rfl rfl rfl ?_
  refine l_lens (p' := 32) rfl rfl rfl ?_
  refine l_con (p' := 33) rfl rfl rfl ?_
  refine l_bz (p' := 34) (z := (nI 0)) rfl rfl rfl rfl rfl (by decide +kernel) ?_
  refine l_icmp (p' := 2547) true rfl rfl (by decide +kernel) rfl ?_
  refine l_con (p' := 2548) rfl rfl rfl ?_
  refine l_end rfl rfl ?_
  exact ⟨Nat.le_trans (Nat.le_of_eq (len_s (len_s (len_s (len_s HL))))) (Nat.le_of_ble_eq_true rfl), Nat.le_trans (sz_sA rfl (rd_sn rfl (rd_sn rfl (rd_sn rfl H411))) (sz_s rfl (rd_sn rfl (rd_sn rfl H400)) rfl (sz_sA rfl (rd_sn rfl H412) (sz_sA rfl H397 HZ)))) (Nat.le_of_ble_eq_true rfl)⟩
theorem p1_41_6n {xs : Nat → Int32} {h : mj_H} (hk : xs 0 &&& nI 63 = nI 41) (hx1 : xs 1 = nI 6) {q : Int32} (hx2 : xs 2 = q) (hq : q.toInt < 0) (HL : h.length = 414) (HZ : mj_sz h ≤ 20000) (H0 : mj_rd h 0 = some (.inr (0, [.ref 1, .ref 38, .ref 299, .ref 336, .ref 373, .ref 375, .ref 378, .ref 381, .ref 387, .ref 393, .null, .null, .ref 397, .ref 398, .ref 399, .long (lN 0), .long (lN 0)]))) (H400 : mj_rd h 400 = some (.inr (17, [.int (nI 0), .ref 401, .ref 402, .ref 1000300, .long (lN 0), .long (lN 0), .ref 410, .null, .null, .null, .ref 411]))) : mj_fin 4 xs h := by
  unfold mj_fin
  refine l_ild (p' := 30) rfl rfl rfl rfl ?_
  refine l_alds (p' := 31) rfl rfl rfl rfl ?_
  refine l_lens (p' := 32) rfl rfl rfl ?_
  refine l_con (p' := 33) rfl rfl rfl ?_
  refine l_bz (p' := 34) (z := (nI 0)) rfl rfl rfl rfl rfl (by decide +kernel) ?_
  refine l_icmp (p' := 37) false rfl rfl (by decide +kernel) rfl ?_
  refine l_alds (p' := 38) rfl rfl rfl rfl ?_
  refine l_ild (p' := 40) rfl rfl rfl rfl ?_
  refine l_ialz (p' := 41) (m := 0) (z := (xs 0)) rfl rfl (by decide +kernel) rfl rfl rfl ?_
  refine l_bip (p' := 43) rfl rfl rfl ?_
  refine l_bz (p' := 44) (z := (nI 41)) rfl rfl rfl rfl rfl hk ?_
  refine l_sp (p' := 2188) (ls' := _) rfl rfl rfl rfl rfl ?_
  refine l_aldn (p' := 2189) rfl rfl rfl rfl ?_
  refine l_alds (p' := 2190) rfl rfl rfl rfl ?_
  refine l_ild (p' := 2192) rfl rfl rfl rfl ?_
  refine l_con (p' := 2193) rfl rfl rfl ?_
  refine l_bz (p' := 2194) (z := (nI 1)) rfl rfl rfl rfl rfl (by decide +kernel) ?_
  refine l_ialz (p' := 2195) (m := 1) (z := (nI 6)) rfl rfl (by decide +kernel) rfl hx1 rfl ?_
  refine l_alds (p' := 2196) rfl rfl rfl rfl ?_
  refine l_ild (p' := 2198) rfl rfl rfl rfl ?_
  refine l_con (p' := 2199) rfl rfl rfl ?_
  refine l_bz (p' := 2200) (z := (nI 2)) rfl rfl rfl rfl rfl (by decide +kernel) ?_
  refine l_ialz (p' := 2201) (m := 2) (z := q) rfl rfl (by decide +kernel) rfl hx2 rfl ?_
  refine l_aldn (p' := 2202) rfl rfl rfl rfl ?_
  refine l_call (p' := 2205) (kc := 99) (ls0 := [_, _, _, _, _]) rfl rfl rfl rfl rfl rfl rfl rfl rfl rfl ?_
  refine s_aldn (p' := 1) rfl rfl rfl ?_
  refine s_con (p' := 2) rfl rfl ?_
  refine s_aldn (p' := 3) rfl rfl rfl ?_
  refine s_ildn (p' := 4) rfl rfl rfl ?_
  refine s_ildn (p' := 5) rfl rfl rfl ?_
  refine c_call (p' := 8) (kc := 98) (ls0 := [_, _, _, _]) rfl rfl rfl rfl rfl (mj_rcv_is H0) rfl rfl rfl ?_
  refine s_ildn (p' := 1) rfl rfl rfl ?_
  refine c_call (p' := 4) (kc := 97) (ls0 := [_]) rfl rfl rfl rfl rfl rfl rfl rfl rfl ?_
  refine s_ildn (p' := 1) rfl rfl rfl ?_
  refine s_if (p' := 4) false rfl (by decide +kernel) rfl ?_
  refine s_ildn (p' := 5) rfl rfl rfl ?_
  refine s_bip (p' := 7) rfl rfl ?_
  refine s_icmp (p' := 10) false rfl (by decide +kernel) rfl ?_
  refine s_con (p' := 11) rfl rfl ?_
  refine s_goto (p' := 15) rfl rfl ?_
  refine c_iret rfl (by decide +kernel) ?_
  refine s_if (p' := 7) false rfl (by decide +kernel) rfl ?_
  refine s_ildn (p' := 8) rfl rfl rfl ?_
  refine c_call (p' := 11) (kc := 97) (ls0 := [_]) rfl rfl rfl rfl rfl rfl rfl rfl rfl ?_
  refine s_ildn (p' := 1) rfl rfl rfl ?_
  refine s_if (p' := 14) true rfl ((cg_lt (w := 0) (by decide +kernel)).trans (decide_eq_true (by omega))) rfl ?_
  refine s_con (p' := 15) rfl rfl ?_
  refine c_iret rfl (by decide +kernel) ?_
  refine s_if (p' := 14) false rfl (by decide +kernel) rfl ?_
  refine s_thrz (q := 414) rfl HL rfl ?_
  refine K_c (hp := 13) rfl (mj_ocl_is (rd_nw rfl HL)) rfl ?_
  refine s_ast (p' := 15) (ls' := [_, _, _, _, _]) rfl rfl rfl rfl ?_
  refine s_con (p' := 16) rfl rfl ?_
  refine k_iret rfl rfl ?_
  refine l_ist (p' := 2207) (ls' := [_, _, _, _, _, _, _, _, _, _]) rfl rfl rfl rfl rfl ?_
  refine l_aldn (p' := 2208) rfl rfl rfl rfl ?_
  refine l_alds (p' := 2209) rfl rfl rfl rfl ?_
  refine l_ild (p' := 2211) rfl rfl rfl rfl ?_
  refine l_con (p' := 2212) rfl rfl rfl ?_
  refine l_bz (p' := 2213) (z := (nI 1)) rfl rfl rfl rfl rfl (by decide +kernel) ?_
  refine l_ialz (p' := 2214) (m := 1) (z := (nI 6)) rfl rfl (by decide +kernel) rfl hx1 rfl ?_
  refine l_alds (p' := 2215) rfl rfl rfl rfl ?_
  refine l_ild (p' := 2217) rfl rfl rfl rfl ?_
  refine l_con (p' := 2218) rfl rfl rfl ?_
  refine l_bz (p' := 2219) (z := (nI 2)) rfl rfl rfl rfl rfl (by decide +kernel) ?_
  refine l_ialz (p' := 2220) (m := 2) (z := q) rfl rfl (by decide +kernel) rfl hx2 rfl ?_
  refine l_call (p' := 2223) (kc := 99) (ls0 := [_, _, _, _]) rfl rfl rfl rfl rfl rfl (mj_rcv_is (rd_app H400)) rfl rfl rfl ?_
  refine s_aldn (p' := 1) rfl rfl rfl ?_
  refine s_ildn (p' := 2) rfl rfl rfl ?_
  refine s_con (p' := 3) rfl rfl ?_
  refine s_bip (p' := 5) rfl rfl ?_
  refine c_call (p' := 8) (kc := 98) (ls0 := [_, _, _]) rfl rfl rfl rfl rfl rfl rfl rfl rfl ?_
  refine s_ildn (p' := 1) rfl rfl rfl ?_
  refine s_ildn (p' := 2) rfl rfl rfl ?_
  refine s_icmp (p' := 5) false rfl (by decide +kernel) rfl ?_
  refine s_ildn (p' := 6) rfl rfl rfl ?_
  refine s_ildn (p' := 7) rfl rfl rfl ?_
  refine s_icmp (p' := 10) false rfl (by decide +kernel) rfl ?_
  refine s_con (p' := 11) rfl rfl ?_
  refine s_goto (p' := 15) rfl rfl ?_
  refine c_iret rfl (by decide +kernel) ?_
  refine s_if (p' := 11) false rfl (by decide +kernel) rfl ?_
  refine s_ildn (p' := 12) rfl rfl rfl ?_
  refine s_con (p' := 13) rfl rfl ?_
  refine s_bip (p' := 15) rfl rfl ?_
  refine c_call (p' := 18) (kc := 98) (ls0 := [_, _, _]) rfl rfl rfl rfl rfl rfl rfl rfl rfl ?_
  refine s_ildn (p' := 1) rfl rfl rfl ?_
  refine s_ildn (p' := 2) rfl rfl rfl ?_
  refine s_icmp (p' := 14) true rfl ((ch_gt (w := 0) (by decide +kernel)).trans (decide_eq_true (by omega))) rfl ?_
  refine s_con (p' := 15) rfl rfl ?_
  refine c_iret rfl (by decide +kernel) ?_
  refine s_if (p' := 25) true rfl (by decide +kernel) rfl ?_
  refine s_con (p' := 26) rfl rfl ?_
  refine c_call (p' := 29) (kc := 98) (ls0 := [_, _]) rfl rfl rfl rfl rfl (mj_rcv_is (rd_app H400)) rfl rfl rfl ?_
  refine s_aldn (p' := 1) rfl rfl rfl ?_
  refine s_ildn (p' := 2) rfl rfl rfl ?_
  refine s_pfz (p' := 5) (fs' := [_, _, _, _, _, _, _, _, _, _, _]) rfl rfl (rd_app H400) rfl rfl rfl rfl ?_
  refine s_ildn (p' := 6) rfl rfl rfl ?_
  refine s_if (p' := 9) false rfl (by decide +kernel) rfl ?_
  refine s_con (p' := 10) rfl rfl ?_
  refine s_goto (p' := 14) rfl rfl ?_
  refine c_iret rfl (by decide +kernel) ?_
  refine s_if (p' := 32) false rfl (by decide +kernel) rfl ?_
  refine s_con (p' := 33) rfl rfl ?_
  refine k_iret rfl rfl ?_
  refine l_ist (p' := 2225) (ls' := [_, _, _, _, _, _, _, _, _, _]) rfl rfl rfl rfl rfl ?_
  refine l_aldn (p' := 2226) rfl rfl rfl rfl ?_
  refine l_call (p' := 2229) (kc := 99) (ls0 := [_]) rfl rfl rfl rfl rfl rfl (mj_rcv_is (rd_ss rfl (rd_app H400))) rfl rfl rfl ?_
  refine s_aldn (p' := 1) rfl rfl rfl ?_
  refine s_gf (p' := 4) rfl (rd_ss rfl (rd_app H400)) rfl rfl ?_
  refine k_iret rfl rfl ?_
  refine l_ild (p' := 2231) rfl rfl rfl rfl ?_
  refine l_icmp (p' := 2236) true rfl rfl (by decide +kernel) rfl ?_
  refine l_ild (p' := 2238) rfl rfl rfl rfl ?_
  refine l_if (p' := 2253) true rfl rfl (by decide +kernel) rfl ?_
  refine l_goto (p' := 2541) rfl rfl rfl ?_
  refine l_incz (p' := 2544) (w := (nI 4)) (ls' := [_, _, _, _, _, _, _, _, _, _]) rfl rfl rfl rfl (by decide +kernel) rfl rfl ?_
  refine l_goto (p' := 28) rfl rfl rfl ?_
  refine l_ild (p' := 30) rfl rfl rfl rfl ?_
  refine l_alds (p' := 31) rfl rfl rfl rfl ?_
  refine l_lens (p' := 32) rfl rfl rfl ?_
  refine l_con (p' := 33) rfl rfl rfl ?_
  refine l_bz (p' := 34) (z := (nI 0)) rfl rfl rfl rfl rfl (by decide +kernel) ?_
  refine l_icmp (p' := 2547) true rfl rfl (by decide +kernel) rfl ?_
  refine l_con (p' := 2548) rfl rfl rfl ?_
  refine l_end rfl rfl ?_
  exact ⟨Nat.le_trans (Nat.le_of_eq (len_s (len_a HL rfl))) (Nat.le_of_ble_eq_true rfl), Nat.le_trans (sz_s rfl (rd_app H400) rfl (sz_aa (k := 6) (m := 20006) rfl rfl HZ)) (Nat.le_of_ble_eq_true rfl)⟩
theorem p1_41_6m {xs : Nat → Int32} {h : mj_H} (hk : xs 0 &&& nI 63 = nI 41) (hx1 : xs 1 = nI 6) {q : Int32} (hx2 : xs 2 = q) (hq : 7 < q.toInt) (HL : h.length = 414) (HZ : mj_sz h ≤ 20000) (H0 : mj_rd h 0 = some (.inr (0, [.ref 1, .ref 38, .ref 299, .ref 336, .ref 373, .ref 375, .ref 378, .ref 381, .ref 387, .ref 393, .null, .null, .ref 397, .ref 398, .ref 399, .long (lN 0), .long (lN 0)]))) (H400 : mj_rd h 400 = some (.inr (17, [.int (nI 0), .ref 401, .ref 402, .ref 1000300, .long (lN 0), .long (lN 0), .ref 410, .null, .null, .null, .ref 411]))) : mj_fin 4 xs h := by
  unfold mj_fin
  refine l_ild (p' := 30) rfl rfl rfl rfl ?_
  refine l_alds (p' := 31) rfl rfl rfl rfl ?_
  refine l_lens (p' := 32) rfl rfl rfl ?_
  refine l_con (p' := 33) rfl rfl rfl ?_
  refine l_bz (p' := 34) (z := (nI 0)) rfl rfl rfl rfl rfl (by decide +kernel) ?_
  refine l_icmp (p' := 37) false rfl rfl (by decide +kernel) rfl ?_
  refine l_alds (p' := 38) rfl rfl rfl rfl ?_
  refine l_ild (p' := 40) rfl rfl rfl rfl ?_
  refine l_ialz (p' := 41) (m := 0) (z := (xs 0)) rfl rfl (by decide +kernel) rfl rfl rfl ?_
  refine l_bip (p' := 43) rfl rfl rfl ?_
  refine l_bz (p' := 44) (z := (nI 41)) rfl rfl rfl rfl rfl hk ?_
  refine l_sp (p' := 2188) (ls' := _) rfl rfl rfl rfl rfl ?_
  refine l_aldn (p' := 2189) rfl rfl rfl rfl ?_
  refine l_alds (p' := 2190) rfl rfl rfl rfl ?_
  refine l_ild (p' := 2192) rfl rfl rfl rfl ?_
  refine l_con (p' := 2193) rfl rfl rfl ?_
  refine l_bz (p' := 2194) (z := (nI 1)) rfl rfl rfl rfl rfl (by decide +kernel) ?_
  refine l_ialz (p' := 2195) (m := 1) (z := (nI 6)) rfl rfl (by decide +kernel) rfl hx1 rfl ?_
  refine l_alds (p' := 2196) rfl rfl rfl rfl ?_
  refine l_ild (p' := 2198) rfl rfl rfl rfl ?_
  refine l_con (p' := 2199) rfl rfl rfl ?_
  refine l_bz (p' := 2200) (z := (nI 2)) rfl rfl rfl rfl rfl (by decide +kernel) ?_
  refine l_ialz (p' := 2201) (m := 2) (z := q) rfl rfl (by decide +kernel) rfl hx2 rfl ?_
  refine l_aldn (p' := 2202) rfl rfl rfl rfl ?_
  refine l_call (p' := 2205) (kc := 99) (ls0 := [_, _, _, _, _]) rfl rfl rfl rfl rfl rfl rfl rfl rfl rfl ?_
  refine s_aldn (p' := 1) rfl rfl rfl ?_
  refine s_con (p' := 2) rfl rfl ?_
  refine s_aldn (p' := 3) rfl rfl rfl ?_
  refine s_ildn (p' := 4) rfl rfl rfl ?_
  refine s_ildn (p' := 5) rfl rfl rfl ?_
  refine c_call (p' := 8) (kc := 98) (ls0 := [_, _, _, _]) rfl rfl rfl rfl rfl (mj_rcv_is H0) rfl rfl rfl ?_
  refine s_ildn (p' := 1) rfl rfl rfl ?_
  refine c_call (p' := 4) (kc := 97) (ls0 := [_]) rfl rfl rfl rfl rfl rfl rfl rfl rfl ?_
  refine s_ildn (p' := 1) rfl rfl rfl ?_
  refine s_if (p' := 4) false rfl (by decide +kernel) rfl ?_
  refine s_ildn (p' := 5) rfl rfl rfl ?_
  refine s_bip (p' := 7) rfl rfl ?_
  refine s_icmp (p' := 10) false rfl (by decide +kernel) rfl ?_
  refine s_con (p' := 11) rfl rfl ?_
  refine s_goto (p' := 15) rfl rfl ?_
  refine c_iret rfl (by decide +kernel) ?_
  refine s_if (p' := 7) false rfl (by decide +kernel) rfl ?_
  refine s_ildn (p' := 8) rfl rfl rfl ?_
  refine c_call (p' := 11) (kc := 97) (ls0 := [_]) rfl rfl rfl rfl rfl rfl rfl rfl rfl ?_
  refine s_ildn (p' := 1) rfl rfl rfl ?_
  refine s_if (p' := 4) false rfl ((cg_lt (w := 0) (by decide +kernel)).trans (decide_eq_false (by omega))) rfl ?_
  refine s_ildn (p' := 5) rfl rfl rfl ?_
  refine s_bip (p' := 7) rfl rfl ?_
  refine s_icmp (p' := 14) true rfl ((cg_ge (w := 8) (by decide +kernel)).trans (decide_eq_true (by omega))) rfl ?_
  refine s_con (p' := 15) rfl rfl ?_
  refine c_iret rfl (by decide +kernel) ?_
  refine s_if (p' := 14) false rfl (by decide +kernel) rfl ?_
  refine s_thrz (q := 414) rfl HL rfl ?_
  refine K_c (hp := 13) rfl (mj_ocl_is (rd_nw rfl HL)) rfl ?_
  refine s_ast (p' := 15) (ls' := [_, _, _, _, _]) rfl rfl rfl rfl ?_
  refine s_con (p' := 16) rfl rfl ?_
  refine k_iret rfl rfl ?_
  refine l_ist (p' := 2207) (ls' := [_, _, _, _, _, _, _, _, _, _]) rfl rfl rfl rfl rfl ?_
  refine l_aldn (p' := 2208) rfl rfl rfl rfl ?_
  refine l_alds (p' := 2209) rfl rfl rfl rfl ?_
  refine l_ild (p' := 2211) rfl rfl rfl rfl ?_
  refine l_con (p' := 2212) rfl rfl rfl ?_
  refine l_bz (p' := 2213) (z := (nI 1)) rfl rfl rfl rfl rfl (by decide +kernel) ?_
  refine l_ialz (p' := 2214) (m := 1) (z := (nI 6)) rfl rfl (by decide +kernel) rfl hx1 rfl ?_
  refine l_alds (p' := 2215) rfl rfl rfl rfl ?_
  refine l_ild (p' := 2217) rfl rfl rfl rfl ?_
  refine l_con (p' := 2218) rfl rfl rfl ?_
  refine l_bz (p' := 2219) (z := (nI 2)) rfl rfl rfl rfl rfl (by decide +kernel) ?_
  refine l_ialz (p' := 2220) (m := 2) (z := q) rfl rfl (by decide +kernel) rfl hx2 rfl ?_
  refine l_call (p' := 2223) (kc := 99) (ls0 := [_, _, _, _]) rfl rfl rfl rfl rfl rfl (mj_rcv_is (rd_app H400)) rfl rfl rfl ?_
  refine s_aldn (p' := 1) rfl rfl rfl ?_
  refine s_ildn (p' := 2) rfl rfl rfl ?_
  refine s_con (p' := 3) rfl rfl ?_
  refine s_bip (p' := 5) rfl rfl ?_
  refine c_call (p' := 8) (kc := 98) (ls0 := [_, _, _]) rfl rfl rfl rfl rfl rfl rfl rfl rfl ?_
  refine s_ildn (p' := 1) rfl rfl rfl ?_
  refine s_ildn (p' := 2) rfl rfl rfl ?_
  refine s_icmp (p' := 5) false rfl (by decide +kernel) rfl ?_
  refine s_ildn (p' := 6) rfl rfl rfl ?_
  refine s_ildn (p' := 7) rfl rfl rfl ?_
  refine s_icmp (p' := 10) false rfl (by decide +kernel) rfl ?_
  refine s_con (p' := 11) rfl rfl ?_
  refine s_goto (p' := 15) rfl rfl ?_
  refine c_iret rfl (by decide +kernel) ?_
  refine s_if (p' := 11) false rfl (by decide +kernel) rfl ?_
  refine s_ildn (p' := 12) rfl rfl rfl ?_
  refine s_con (p' := 13) rfl rfl ?_
  refine s_bip (p' := 15) rfl rfl ?_
  refine c_call (p' := 18) (kc := 98) (ls0 := [_, _, _]) rfl rfl rfl rfl rfl rfl rfl rfl rfl ?_
  refine s_ildn (p' := 1) rfl rfl rfl ?_
  refine s_ildn (p' := 2) rfl rfl rfl ?_
  refine s_icmp (p' := 5) false rfl ((ch_gt (w := 0) (by decide +kernel)).trans (decide_eq_false (by omega))) rfl ?_
  refine s_ildn (p' := 6) rfl rfl rfl ?_
  refine s_ildn (p' := 7) rfl rfl rfl ?_
  refine s_icmp (p' := 14) true rfl ((cg_gt (w := 7) (by decide +kernel)).trans (decide_eq_true (by omega))) rfl ?_
  refine s_con (p' := 15) rfl rfl ?_
  refine c_iret rfl (by decide +kernel) ?_
  refine s_if (p' := 25) true rfl (by decide +kernel) rfl ?_
  refine s_con (p' := 26) rfl rfl ?_
  refine c_call (p' := 29) (kc := 98) (ls0 := [_, _]) rfl rfl rfl rfl rfl (mj_rcv_is (rd_app H400)) rfl rfl rfl ?_
  refine s_aldn (p' := 1) rfl rfl rfl ?_
  refine s_ildn (p' := 2) rfl rfl rfl ?_
  refine s_pfz (p' := 5) (fs' := [_, _, _, _, _, _, _, _, _, _, _]) rfl rfl (rd_app H400) rfl rfl rfl rfl ?_
  refine s_ildn (p' := 6) rfl rfl rfl ?_
  refine s_if (p' := 9) false rfl (by decide +kernel) rfl ?_
  refine s_con (p' := 10) rfl rfl ?_
  refine s_goto (p' := 14) rfl rfl ?_
  refine c_iret rfl (by decide +kernel) ?_
  refine s_if (p' := 32) false rfl (by decide +kernel) rfl ?_
  refine s_con (p' := 33) rfl rfl ?_
  refine k_iret rfl rfl ?_
  refine l_ist (p' := 2225) (ls' := [_, _, _, _, _, _, _, _, _, _]) rfl rfl rfl rfl rfl ?_
  refine l_aldn (p' := 2226) rfl rfl rfl rfl ?_
  refine l_call (p' := 2229) (kc := 99) (ls0 := [_]) rfl rfl rfl rfl rfl rfl (mj_rcv_is (rd_ss rfl (rd_app H400))) rfl rfl rfl ?_
  refine s_aldn (p' := 1) rfl rfl rfl ?_
  refine s_gf (p' := 4) rfl (rd_ss rfl (rd_app H400)) rfl rfl ?_
  refine k_iret rfl rfl ?_
  refine l_ild (p' := 2231) rfl rfl rfl rfl ?_
  refine l_icmp (p' := 2236) true rfl rfl (by decide +kernel) rfl ?_
  refine l_ild (p' := 2238) rfl rfl rfl rfl ?_
  refine l_if (p' := 2253) true rfl rfl (by decide +kernel) rfl ?_
  refine l_goto (p' := 2541) rfl rfl rfl ?_
  refine l_incz (p' := 2544) (w := (nI 4)) (ls' := [_, _, _, _, _, _, _, _, _, _]) rfl rfl rfl rfl (by decide +kernel) rfl rfl ?_
  refine l_goto (p' := 28) rfl rfl rfl ?_
  refine l_ild (p' := 30) rfl rfl rfl rfl ?_
  refine l_alds (p' := 31) rfl rfl rfl rfl ?_
  refine l_lens (p' := 32) rfl rfl rfl ?_
  refine l_con (p' := 33) rfl rfl rfl ?_
  refine l_bz (p' := 34) (z := (nI 0)) rfl rfl rfl rfl rfl (by decide +kernel) ?_
  refine l_icmp (p' := 2547) true rfl rfl (by decide +kernel) rfl ?_
  refine l_con (p' := 2548) rfl rfl rfl ?_
  refine l_end rfl rfl ?_
  exact ⟨Nat.le_trans (Nat.le_of_eq (len_s (len_a HL rfl))) (Nat.le_of_ble_eq_true rfl), Nat.le_trans (sz_s rfl (rd_app H400) rfl (sz_aa (k := 6) (m := 20006) rfl rfl HZ)) (Nat.le_of_ble_eq_true rfl)⟩
theorem p1_41_7 {xs : Nat → Int32} {h : mj_H} (hk : xs 0 &&& nI 63 = nI 41) (hx1 : xs 1 = nI 7) {q : Int32} (hx2 : xs 2 = q) (hq : 0 ≤ q.toInt ∧ q.toInt ≤ 7) (HL : h.length = 414) (HZ : mj_sz h ≤ 20000) (H0 : mj_rd h 0 = some (.inr (0, [.ref 1, .ref 38, .ref 299, .ref 336, .ref 373, .ref 375, .ref 378, .ref 381, .ref 387, .ref 393, .null, .null, .ref 397, .ref 398, .ref 399, .long (lN 0), .long (lN 0)]))) (H397 : mj_rd h 397 = some (.inl (0, (8, .inl (fun _ => 0))))) (H400 : mj_rd h 400 = some (.inr (17, [.int (nI 0), .ref 401, .ref 402, .ref 1000300, .long (lN 0), .long (lN 0), .ref 410, .null, .null, .null, .ref 411]))) (H411 : mj_rd h 411 = some (.inl (0, (8, .inl (fun _ => 0))))) (H412 : mj_rd h 412 = some (.inl (4, (1, .inr (.inl (fun _ => 0)))))) : mj_fin 4 xs h := by
  unfold mj_fin
  refine l_ild (p' := 30) rfl rfl rfl rfl ?_
  refine l_alds (p' := 31) rfl rfl rfl rfl ?_
  refine l_lens (p' := 32) rfl rfl rfl ?_
  refine l_con (p' := 33) rfl rfl rfl ?_
  refine l_bz (p' := 34) (z := (nI 0)) rfl rfl rfl rfl rfl (by decide +kernel) ?_
  refine l_icmp (p' := 37) false rfl rfl (by decide +kernel) rfl ?_
  refine l_alds (p' := 38) rfl rfl rfl rfl ?_
  refine l_ild (p' := 40) rfl rfl rfl rfl ?_
  refine l_ialz (p' := 41) (m := 0) (z := (xs 0)) rfl rfl (by decide +kernel) rfl rfl rfl ?_
  refine l_bip (p' := 43) rfl rfl rfl ?_
  refine l_bz (p' := 44) (z := (nI 41)) rfl rfl rfl rfl rfl hk ?_
  refine l_sp (p' := 2188) (ls' := _) rfl rfl rfl rfl rfl ?_
  refine l_aldn (p' := 2189) rfl rfl rfl rfl ?_
  refine l_alds (p' := 2190) rfl rfl rfl rfl ?_
  refine l_ild (p' := 2192) rfl rfl rfl rfl ?_
  refine l_con (p' := 2193) rfl rfl rfl ?_
  refine l_bz (p' := 2194) (z := (nI 1)) rfl rfl rfl rfl rfl (by decide +kernel) ?_
  refine l_ialz (p' := 2195) (m := 1) (z := (nI 7)) rfl rfl (by decide +kernel) rfl hx1 rfl ?_
  refine l_alds (p' := 2196) rfl rfl rfl rfl ?_
  refine l_ild (p' := 2198) rfl rfl rfl rfl ?_
  refine l_con (p' := 2199) rfl rfl rfl ?_
  refine l_bz (p' := 2200) (z := (nI 2)) rfl rfl rfl rfl rfl (by decide +kernel) ?_
  refine l_ialz (p' := 2201) (m := 2) (z := q) rfl rfl (by decide +kernel) rfl hx2 rfl ?_
  refine l_aldn (p' := 2202) rfl rfl rfl rfl ?_
  refine l_call (p' := 2205) (kc := 99) (ls0 := [_, _, _, _, _]) rfl rfl rfl rfl rfl rfl rfl rfl rfl rfl ?_
  refine s_aldn (p' := 1) rfl rfl rfl ?_
  refine s_con (p' := 2) rfl rfl ?_
  refine s_aldn (p' := 3) rfl rfl rfl ?_
  refine s_ildn (p' := 4) rfl rfl rfl ?_
  refine s_ildn (p' := 5) rfl rfl rfl ?_
  refine c_call (p' := 8) (kc := 98) (ls0 := [_, _, _, _]) rfl rfl rfl rfl rfl (mj_rcv_is H0) rfl rfl rfl ?_
  refine s_ildn (p' := 1) rfl rfl rfl ?_
  refine c_call (p' := 4) (kc := 97) (ls0 := [_]) rfl rfl rfl rfl rfl rfl rfl rfl rfl ?_
  refine s_ildn (p' := 1) rfl rfl rfl ?_
  refine s_if (p' := 4) false rfl (by decide +kernel) rfl ?_
  refine s_ildn (p' := 5) rfl rfl rfl ?_
  refine s_bip (p' := 7) rfl rfl ?_
  refine s_icmp (p' := 10) false rfl (by decide +kernel) rfl ?_
  refine s_con (p' := 11) rfl rfl ?_
  refine s_goto (p' := 15) rfl rfl ?_
  refine c_iret rfl (by decide +kernel) ?_
  refine s_if (p' := 7) false rfl (by decide +kernel) rfl ?_
  refine s_ildn (p' := 8) rfl rfl rfl ?_
  refine c_call (p' := 11) (kc := 97) (ls0 := [_]) rfl rfl rfl rfl rfl rfl rfl rfl rfl ?_
  refine s_ildn (p' := 1) rfl rfl rfl ?_
  refine s_if (p' := 4) false rfl ((cg_lt (w := 0) (by decide +kernel)).trans (decide_eq_false (by omega))) rfl ?_
  refine s_ildn (p' := 5) rfl rfl rfl ?_
  refine s_bip (p' := 7) rfl rfl ?_
  refine s_icmp (p' := 10) false rfl ((cg_ge (w := 8) (by decide +kernel)).trans (decide_eq_false (by omega))) rfl ?_
  refine s_con (p' := 11) rfl rfl ?_
  refine s_goto (p' := 15) rfl rfl ?_
  refine c_iret rfl (by decide +kernel) ?_
  refine s_if (p' := 25) true rfl (by decide +kernel) rfl ?_
  refine s_aldn (p' := 26) rfl rfl rfl ?_
  refine s_gf (p' := 29) rfl H0 rfl rfl ?_
  refine s_ildn (p' := 30) rfl rfl rfl ?_
  refine s_ialz (p' := 31) (m := 7) (v := (nI 0)) rfl H397 (by decide +kernel) rfl (by decide +kernel) rfl ?_
  refine s_istn (p' := 32) (ls' := [_, _, _, _]) rfl rfl rfl rfl ?_
  refine s_aldn (p' := 33) rfl rfl rfl ?_
  refine s_gf (p' := 36) rfl H0 rfl rfl ?_
  refine s_ildn (p' := 37) rfl rfl rfl ?_
  refine s_ildn (p' := 38) rfl rfl rfl ?_
  refine s_iasz (p' := 39) (m := 7) rfl rfl H397 (by decide +kernel) rfl rfl rfl ?_
  refine s_ildn (p' := 40) rfl rfl rfl ?_
  refine c_iret rfl rfl ?_
  refine s_bzL (p' := 9) (z := (lN 0)) rfl rfl rfl (by decide +kernel) ?_
  refine s_lasz (p' := 10) (m := 0) rfl rfl (rd_sn rfl H412) (by decide +kernel) rfl rfl rfl ?_
  refine s_goto (p' := 17) rfl rfl ?_
  refine s_con (p' := 18) rfl rfl ?_
  refine k_iret rfl rfl ?_
  refine l_ist (p' := 2207) (ls' := [_, _, _, _, _, _, _, _, _, _]) rfl rfl rfl rfl rfl ?_
  refine l_aldn (p' := 2208) rfl rfl rfl rfl ?_
  refine l_alds (p' := 2209) rfl rfl rfl rfl ?_
  refine l_ild (p' := 2211) rfl rfl rfl rfl ?_
  refine l_con (p' := 2212) rfl rfl rfl ?_
  refine l_bz (p' := 2213) (z := (nI 1)) rfl rfl rfl rfl rfl (by decide +kernel) ?_
  refine l_ialz (p' := 2214) (m := 1) (z := (nI 7)) rfl rfl (by decide +kernel) rfl hx1 rfl ?_
  refine l_alds (p' := 2215) rfl rfl rfl rfl ?_
  refine l_ild (p' := 2217) rfl rfl rfl rfl ?_
  refine l_con (p' := 2218) rfl rfl rfl ?_
  refine l_bz (p' := 2219) (z := (nI 2)) rfl rfl rfl rfl rfl (by decide +kernel) ?_
  refine l_ialz (p' := 2220) (m := 2) (z := q) rfl rfl (by decide +kernel) rfl hx2 rfl ?_
  refine l_call (p' := 2223) (kc := 99) (ls0 := [_, _, _, _]) rfl rfl rfl rfl rfl rfl (mj_rcv_is (rd_sn rfl (rd_sn rfl H400))) rfl rfl rfl ?_
  refine s_aldn (p' := 1) rfl rfl rfl ?_
  refine s_ildn (p' := 2) rfl rfl rfl ?_
  refine s_con (p' := 3) rfl rfl ?_
  refine s_bip (p' := 5) rfl rfl ?_
  refine c_call (p' := 8) (kc := 98) (ls0 := [_, _, _]) rfl rfl rfl rfl rfl rfl rfl rfl rfl ?_
  refine s_ildn (p' := 1) rfl rfl rfl ?_
  refine s_ildn (p' := 2) rfl rfl rfl ?_
  refine s_icmp (p' := 5) false rfl (by decide +kernel) rfl ?_
  refine s_ildn (p' := 6) rfl rfl rfl ?_
  refine s_ildn (p' := 7) rfl rfl rfl ?_
  refine s_icmp (p' := 10) false rfl (by decide +kernel) rfl ?_
  refine s_con (p' := 11) rfl rfl ?_
  refine s_goto (p' := 15) rfl rfl ?_
  refine c_iret rfl (by decide +kernel) ?_
  refine s_if (p' := 11) false rfl (by decide +kernel) rfl ?_
  refine s_ildn (p' := 12) rfl rfl rfl ?_
  refine s_con (p' := 13) rfl rfl ?_
  refine s_bip (p' := 15) rfl rfl ?_
  refine c_call (p' := 18) (kc := 98) (ls0 := [_, _, _]) rfl rfl rfl rfl rfl rfl rfl rfl rfl ?_
  refine s_ildn (p' := 1) rfl rfl rfl ?_
  refine s_ildn (p' := 2) rfl rfl rfl ?_
  refine s_icmp (p' := 5) false rfl ((ch_gt (w := 0) (by decide +kernel)).trans (decide_eq_false (by omega))) rfl ?_
  refine s_ildn (p' := 6) rfl rfl rfl ?_
  refine s_ildn (p' := 7) rfl rfl rfl ?_
  refine s_icmp (p' := 10) false rfl ((cg_gt (w := 7) (by decide +kernel)).trans (decide_eq_false (by omega))) rfl ?_
  refine s_con (p' := 11) rfl rfl ?_
  refine s_goto (p' := 15) rfl rfl ?_
  refine c_iret rfl (by decide +kernel) ?_
  refine s_if (p' := 21) false rfl (by decide +kernel) rfl ?_
  refine s_con (p' := 22) rfl rfl ?_
  refine s_goto (p' := 26) rfl rfl ?_
  refine c_call (p' := 29) (kc := 98) (ls0 := [_, _]) rfl rfl rfl rfl rfl (mj_rcv_is (rd_sn rfl (rd_sn rfl H400))) rfl rfl rfl ?_
  refine s_aldn (p' := 1) rfl rfl rfl ?_
  refine s_ildn (p' := 2) rfl rfl rfl ?_
  refine s_pfz (p' := 5) (fs' := [_, _, _, _, _, _, _, _, _, _, _]) rfl rfl (rd_sn rfl (rd_sn rfl H400)) rfl rfl rfl rfl ?_
  refine s_ildn (p' := 6) rfl rfl rfl ?_
  refine s_if (p' := 13) true rfl (by decide +kernel) rfl ?_
  refine s_con (p' := 14) rfl rfl ?_
  refine c_iret rfl (by decide +kernel) ?_
  refine s_if (p' := 34) true rfl (by decide +kernel) rfl ?_
  refine s_aldn (p' := 35) rfl rfl rfl ?_
  refine s_gf (p' := 38) rfl (rd_ss rfl (rd_sn rfl (rd_sn rfl H400))) rfl rfl ?_
  refine s_ildn (p' := 39) rfl rfl rfl ?_
  refine s_ialz (p' := 40) (m := 7) (v := (nI 0)) rfl (rd_sn rfl (rd_sn rfl (rd_sn rfl H411))) (by decide +kernel) rfl (by decide +kernel) rfl ?_
  refine s_istn (p' := 41) (ls' := [_, _, _, _]) rfl rfl rfl rfl ?_
  refine s_aldn (p' := 42) rfl rfl rfl ?_
  refine s_gf (p' := 45) rfl (rd_ss rfl (rd_sn rfl (rd_sn rfl H400))) rfl rfl ?_
  refine s_ildn (p' := 46) rfl rfl rfl ?_
  refine s_ildn (p' := 47) rfl rfl rfl ?_
  refine s_iasz (p' := 48) (m := 7) rfl rfl (rd_sn rfl (rd_sn rfl (rd_sn rfl H411))) (by decide +kernel) rfl rfl rfl ?_
  refine s_ildn (p' := 49) rfl rfl rfl ?_
  refine k_iret rfl rfl ?_
  refine l_ist (p' := 2225) (ls' := [_, _, _, _, _, _, _, _, _, _]) rfl rfl rfl rfl rfl ?_
  refine l_aldn (p' := 2226) rfl rfl rfl rfl ?_
  refine l_call (p' := 2229) (kc := 99) (ls0 := [_]) rfl rfl rfl rfl rfl rfl (mj_rcv_is (rd_sn rfl (rd_ss rfl (rd_sn rfl (rd_sn rfl H400))))) rfl rfl rfl ?_
  refine s_aldn (p' := 1) rfl rfl rfl ?_
  refine s_gf (p' := 4) rfl (rd_sn rfl (rd_ss rfl (rd_sn rfl (rd_sn rfl H400)))) rfl rfl ?_
  refine k_iret rfl rfl ?_
  refine l_ild (p' := 2231) rfl rfl rfl rfl ?_
  refine l_icmp (p' := 2236) true rfl rfl (by decide +kernel) rfl ?_
  refine l_ild (p' := 2238) rfl rfl rfl rfl ?_
  refine l_if (p' := 2241) false rfl rfl (by decide +kernel) rfl ?_
  refine l_aldn (p' := 2242) rfl rfl rfl rfl ?_
  refine l_con (p' := 2243) rfl rfl rfl ?_
  refine l_lalz (p' := 2244) (m := 0) (v := (lN 0)) rfl rfl (rd_sn rfl (rd_sn rfl (rd_ss rfl (rd_sn rfl H412)))) (by decide +kernel) rfl (by decide +kernel) rfl ?_
  refine l_ild (p' := 2246) rfl rfl rfl rfl ?_
  refine l_bzL (p' := 2247) (z := (lN 0)) rfl rfl rfl rfl rfl (by decide +kernel) ?_
  refine l_bz (p' := 2248) (z := (nI 0)) rfl rfl rfl rfl rfl (by decide +kernel) ?_
  refine l_if (p' := 2253) true rfl rfl (by decide +kernel) rfl ?_
  refine l_goto (p' := 2541) rfl rfl rfl ?_
  refine l_incz (p' := 2544) (w := (nI 4)) (ls' := [_, _, _, _, _, _, _, _, _, _]) rfl rfl rfl rfl (by decide +kernel) rfl rfl ?_
  refine l_goto (p' := 28) rfl rfl rfl ?_
  refine l_ild (p' := 30) rfl rfl rfl rfl ?_
  refine l_alds (p' := 31) rfl rfl rfl rfl ?_
  refine l_lens (p' := 32) rfl rfl rfl ?_
  refine l_con (p' := 33) rfl rfl rfl ?_
  refine l_bz (p' := 34) (z := (nI 0)) rfl rfl rfl rfl rfl (by decide +kernel) ?_
  refine l_icmp (p' := 2547) true rfl rfl (by decide +kernel) rfl ?_
  refine l_con (p' := 2548) rfl rfl rfl ?_
  refine l_end rfl rfl ?_
  exact ⟨Nat.le_trans (Nat.le_of_eq (len_s (len_s (len_s (len_s HL))))) (Nat.le_of_ble_eq_true rfl), Nat.le_trans (sz_sA rfl (rd_sn rfl (rd_sn rfl (rd_sn rfl H411))) (sz_s rfl (rd_sn rfl (rd_sn rfl H400)) rfl (sz_sA rfl (rd_sn rfl H412) (sz_sA rfl H397 HZ)))) (Nat.le_of_ble_eq_true rfl)⟩
theorem p1_41_7n {xs : Nat → Int32} {h : mj_H} (hk : xs 0 &&& nI 63 = nI 41) (hx1 : xs 1 = nI 7) {q : Int32} (hx2 : xs 2 = q) (hq : q.toInt < 0) (HL : h.length = 414) (HZ : mj_sz h ≤ 20000) (H0 : mj_rd h 0 = some (.inr (0, [.ref 1, .ref 38, .ref 299, .ref 336, .ref 373, .ref 375, .ref 378, .ref 381, .ref 387, .ref 393, .null, .null, .ref 397, .ref 398, .ref 399, .long (lN 0), .long (lN 0)]))) (H400 : mj_rd h 400 = some (.inr (17, [.int (nI 0), .ref 401, .ref 402, .ref 1000300, .long (lN 0), .long (lN 0), .ref 410, .null, .null, .null, .ref 411]))) : mj_fin 4 xs h := by
  unfold mj_fin
  refine l_ild (p' := 30) rfl rfl rfl rfl ?_
  refine l_alds (p' := 31) rfl rfl rfl rfl ?_
  refine l_lens (p' := 32) rfl rfl rfl ?_
  refine l_con (p' := 33) rfl rfl rfl ?_
  refine l_bz (p' := 34) (z := (nI 0)) rfl rfl rfl rfl rfl (by decide +kernel) ?_
  refine l_icmp (p' := 37) false rfl rfl (by decide +kernel) rfl ?_
  refine l_alds (p' := 38) rfl rfl rfl rfl ?_
  refine l_ild (p' := 40) rfl rfl rfl rfl ?_
  refine l_ialz (p' := 41) (m := 0) (z := (xs 0)) rfl rfl (by decide +kernel) rfl rfl rfl ?_
  refine l_bip (p' := 43) rfl rfl rfl ?_
  refine l_bz (p' := 44) (z := (nI 41)) rfl rfl rfl rfl rfl hk ?_
  refine l_sp (p' := 2188) (ls' := _) rfl rfl rfl rfl rfl ?_
  refine l_aldn (p' := 2189) rfl rfl rfl rfl ?_
  refine l_alds (p' := 2190) rfl rfl rfl rfl ?_
  refine l_ild (p' := 2192) rfl rfl rfl rfl ?_
  refine l_con (p' := 2193) rfl rfl rfl ?_
  refine l_bz (p' := 2194) (z := (nI 1)) rfl rfl rfl rfl rfl (by decide +kernel) ?_
  refine l_ialz (p' := 2195) (m := 1) (z := (nI 7)) rfl rfl (by decide +kernel) rfl hx1 rfl ?_
  refine l_alds (p' := 2196) rfl rfl rfl rfl ?_
  refine l_ild (p' := 2198) rfl rfl rfl rfl ?_
  refine l_con (p' := 2199) rfl rfl rfl ?_
  refine l_bz (p' := 2200) (z := (nI 2)) rfl rfl rfl rfl rfl (by decide +kernel) ?_
  refine l_ialz (p' := 2201) (m := 2) (z := q) rfl rfl (by decide +kernel) rfl hx2 rfl ?_
  refine l_aldn (p' := 2202) rfl rfl rfl rfl ?_
  refine l_call (p' := 2205) (kc := 99) (ls0 := [_, _, _, _, _]) rfl rfl rfl rfl rfl rfl rfl rfl rfl rfl ?_
  refine s_aldn (p' := 1) rfl rfl rfl ?_
  refine s_con (p' := 2) rfl rfl ?_
  refine s_aldn (p' := 3) rfl rfl rfl ?_
  refine s_ildn (p' := 4) rfl rfl rfl ?_
  refine s_ildn (p' := 5) rfl rfl rfl ?_
  refine c_call (p' := 8) (kc := 98) (ls0 := [_, _, _, _]) rfl rfl rfl rfl rfl (mj_rcv_is H0) rfl rfl rfl ?_
  refine s_ildn (p' := 1) rfl rfl rfl ?_
  refine c_call (p' := 4) (kc := 97) (ls0 := [_]) rfl rfl rfl rfl rfl rfl rfl rfl rfl ?_
  refine s_ildn (p' := 1) rfl rfl rfl ?_
  refine s_if (p' := 4) false rfl (by decide +kernel) rfl ?_
  refine s_ildn (p' := 5) rfl rfl rfl ?_
  refine s_bip (p' := 7) rfl rfl ?_
  refine s_icmp (p' := 10) false rfl (by decide +kernel) rfl ?_
  refine s_con (p' := 11) rfl rfl ?_
  refine s_goto (p' := 15) rfl rfl ?_
  refine c_iret rfl (by decide +kernel) ?_
  refine s_if (p' := 7) false rfl (by decide +kernel) rfl ?_
  refine s_ildn (p' := 8) rfl rfl rfl ?_
  refine c_call (p' := 11) (kc := 97) (ls0 := [_]) rfl rfl rfl rfl rfl rfl rfl rfl rfl ?_
  refine s_ildn (p' := 1) rfl rfl rfl ?_
  refine s_if (p' := 14) true rfl ((cg_lt (w := 0) (by decide +kernel)).trans (decide_eq_true (by omega))) rfl ?_
  refine s_con (p' := 15) rfl rfl ?_
  refine c_iret rfl (by decide +kernel) ?_
  refine s_if (p' := 14) false rfl (by decide +kernel) rfl ?_
  refine s_thrz (q := 414) rfl HL rfl ?_
  refine K_c (hp := 13) rfl (mj_ocl_is (rd_nw rfl HL)) rfl ?_
  refine s_ast (p' := 15) (ls' := [_, _, _, _, _]) rfl rfl rfl rfl ?_
  refine s_con (p' := 16) rfl rfl ?_
  refine k_iret rfl rfl ?_
  refine l_ist (p' := 2207) (ls' := [_, _, _, _, _, _, _, _, _, _]) rfl rfl rfl rfl rfl ?_
  refine l_aldn (p' := 2208) rfl rfl rfl rfl ?_
  refine l_alds (p' := 2209) rfl rfl rfl rfl ?_
  refine l_ild (p' := 2211) rfl rfl rfl rfl ?_
  refine l_con (p' := 2212) rfl rfl rfl ?_
  refine l_bz (p' := 2213) (z := (nI 1)) rfl rfl rfl rfl rfl (by decide +kernel) ?_
  refine l_ialz (p' := 2214) (m := 1) (z := (nI 7)) rfl rfl (by decide +kernel) rfl hx1 rfl ?_
  refine l_alds (p' := 2215) rfl rfl rfl rfl ?_
  refine l_ild (p' := 2217) rfl rfl rfl rfl ?_
  refine l_con (p' := 2218) rfl rfl rfl ?_
  refine l_bz (p' := 2219) (z := (nI 2)) rfl rfl rfl rfl rfl (by decide +kernel) ?_
  refine l_ialz (p' := 2220) (m := 2) (z := q) rfl rfl (by decide +kernel) rfl hx2 rfl ?_
  refine l_call (p' := 2223) (kc := 99) (ls0 := [_, _, _, _]) rfl rfl rfl rfl rfl rfl (mj_rcv_is (rd_app H400)) rfl rfl rfl ?_
  refine s_aldn (p' := 1) rfl rfl rfl ?_
  refine s_ildn (p' := 2) rfl rfl rfl ?_
  refine s_con (p' := 3) rfl rfl ?_
  refine s_bip (p' := 5) rfl rfl ?_
  refine c_call (p' := 8) (kc := 98) (ls0 := [_, _, _]) rfl rfl rfl rfl rfl rfl rfl rfl rfl ?_
  refine s_ildn (p' := 1) rfl rfl rfl ?_
  refine s_ildn (p' := 2) rfl rfl rfl ?_
  refine s_icmp (p' := 5) false rfl (by decide +kernel) rfl ?_
  refine s_ildn (p' := 6) rfl rfl rfl ?_
  refine s_ildn (p' := 7) rfl rfl rfl ?_
  refine s_icmp (p' := 10) false rfl (by decide +kernel) rfl ?_
  refine s_con (p' := 11) rfl rfl ?_
  refine s_goto (p' := 15) rfl rfl ?_
  refine c_iret rfl (by decide +kernel) ?_
  refine s_if (p' := 11) false rfl (by decide +kernel) rfl ?_
  refine s_ildn (p' := 12) rfl rfl rfl ?_
  refine s_con (p' := 13) rfl rfl ?_
  refine s_bip (p' := 15) rfl rfl ?_
  refine c_call (p' := 18) (kc := 98) (ls0 := [_, _, _]) rfl rfl rfl rfl rfl rfl rfl rfl rfl ?_
  refine s_ildn (p' := 1) rfl rfl rfl ?_
  refine s_ildn (p' := 2) rfl rfl rfl ?_
  refine s_icmp (p' := 14) true rfl ((ch_gt (w := 0) (by decide +kernel)).trans (decide_eq_true (by omega))) rfl ?_
  refine s_con (p' := 15) rfl rfl ?_
  refine c_iret rfl (by decide +kernel) ?_
  refine s_if (p' := 25) true rfl (by decide +kernel) rfl ?_
  refine s_con (p' := 26) rfl rfl ?_
  refine c_call (p' := 29) (kc := 98) (ls0 := [_, _]) rfl rfl rfl rfl rfl (mj_rcv_is (rd_app H400)) rfl rfl rfl ?_
  refine s_aldn (p' := 1) rfl rfl rfl ?_
  refine s_ildn (p' := 2) rfl rfl rfl ?_
  refine s_pfz (p' := 5) (fs' := [_, _, _, _, _, _, _, _, _, _, _]) rfl rfl (rd_app H400) rfl rfl rfl rfl ?_
  refine s_ildn (p' := 6) rfl rfl rfl ?_
  refine s_if (p' := 9) false rfl (by decide +kernel) rfl ?_
  refine s_con (p' := 10) rfl rfl ?_
  refine s_goto (p' := 14) rfl rfl ?_
  refine c_iret rfl (by decide +kernel) ?_
  refine s_if (p' := 32) false rfl (by decide +kernel) rfl ?_
  refine s_con (p' := 33) rfl rfl ?_
  refine k_iret rfl rfl ?_
  refine l_ist (p' := 2225) (ls' := [_, _, _, _, _, _, _, _, _, _]) rfl rfl rfl rfl rfl ?_
  refine l_aldn (p' := 2226) rfl rfl rfl rfl ?_
  refine l_call (p' := 2229) (kc := 99) (ls0 := [_]) rfl rfl rfl rfl rfl rfl (mj_rcv_is (rd_ss rfl (rd_app H400))) rfl rfl rfl ?_
  refine s_aldn (p' := 1) rfl rfl rfl ?_
  refine s_gf (p' := 4) rfl (rd_ss rfl (rd_app H400)) rfl rfl ?_
  refine k_iret rfl rfl ?_
  refine l_ild (p' := 2231) rfl rfl rfl rfl ?_
  refine l_icmp (p' := 2236) true rfl rfl (by decide +kernel) rfl ?_
  refine l_ild (p' := 2238) rfl rfl rfl rfl ?_
  refine l_if (p' := 2253) true rfl rfl (by decide +kernel) rfl ?_
  refine l_goto (p' := 2541) rfl rfl rfl ?_
  refine l_incz (p' := 2544) (w := (nI 4)) (ls' := [_, _, _, _, _, _, _, _, _, _]) rfl rfl rfl rfl (by decide +kernel) rfl rfl ?_
  refine l_goto (p' := 28) rfl rfl rfl ?_
  refine l_ild (p' := 30) rfl rfl rfl rfl ?_
  refine l_alds (p' := 31) rfl rfl rfl rfl ?_
  refine l_lens (p' := 32) rfl rfl rfl ?_
  refine l_con (p' := 33) rfl rfl rfl ?_
  refine l_bz (p' := 34) (z := (nI 0)) rfl rfl rfl rfl rfl (by decide +kernel) ?_
  refine l_icmp (p' := 2547) true rfl rfl (by decide +kernel) rfl ?_
  refine l_con (p' := 2548) rfl rfl rfl ?_
  refine l_end rfl rfl ?_
  exact ⟨Nat.le_trans (Nat.le_of_eq (len_s (len_a HL rfl))) (Nat.le_of_ble_eq_true rfl), Nat.le_trans (sz_s rfl (rd_app H400) rfl (sz_aa (k := 6) (m := 20006) rfl rfl HZ)) (Nat.le_of_ble_eq_true rfl)⟩
theorem p1_41_7m {xs : Nat → Int32} {h : mj_H} (hk : xs 0 &&& nI 63 = nI 41) (hx1 : xs 1 = nI 7) {q : Int32} (hx2 : xs 2 = q) (hq : 7 < q.toInt) (HL : h.length = 414) (HZ : mj_sz h ≤ 20000) (H0 : mj_rd h 0 = some (.inr (0, [.ref 1, .ref 38, .ref 299, .ref 336, .ref 373, .ref 375, .ref 378, .ref 381, .ref 387, .ref 393, .null, .null, .ref 397, .ref 398, .ref 399, .long (lN 0), .long (lN 0)]))) (H400 : mj_rd h 400 = some (.inr (17, [.int (nI 0), .ref 401, .ref 402, .ref 1000300, .long (lN 0), .long (lN 0), .ref 410, .null, .null, .null, .ref 411]))) : mj_fin 4 xs h := by
  unfold mj_fin
  refine l_ild (p' := 30) rfl rfl rfl rfl ?_
  refine l_alds (p' := 31) rfl rfl rfl rfl ?_
  refine l_lens (p' := 32) rfl rfl rfl ?_
  refine l_con (p' := 33) rfl rfl rfl ?_
  refine l_bz (p' := 34) (z := (nI 0)) rfl rfl rfl rfl rfl (by decide +kernel) ?_
  refine l_icmp (p' := 37) false rfl rfl (by decide +kernel) rfl ?_
  refine l_alds (p' := 38) rfl rfl rfl rfl ?_
  refine l_ild (p' := 40) rfl rfl rfl rfl ?_
  refine l_ialz (p' := 41) (m := 0) (z := (xs 0)) rfl rfl (by decide +kernel) rfl rfl rfl ?_
  refine l_bip (p' := 43) rfl rfl rfl ?_
  refine l_bz (p' := 44) (z := (nI 41)) rfl rfl rfl rfl rfl hk ?_
  refine l_sp (p' := 2188) (ls' := _) rfl rfl rfl rfl rfl ?_
  refine l_aldn (p' := 2189) rfl rfl rfl rfl ?_
  refine l_alds (p' := 2190) rfl rfl rfl rfl ?_
  refine l_ild (p' := 2192) rfl rfl rfl rfl ?_
  refine l_con (p' := 2193) rfl rfl rfl ?_
  refine l_bz (p' := 2194) (z := (nI 1)) rfl rfl rfl rfl rfl (by decide +kernel) ?_
  refine l_ialz (p' := 2195) (m := 1) (z := (nI 7)) rfl rfl (by decide +kernel) rfl hx1 rfl ?_
  refine l_alds (p' := 2196) rfl rfl rfl rfl ?_
  refine l_ild (p' := 2198) rfl rfl rfl rfl ?_
  refine l_con (p' := 2199) rfl rfl rfl ?_
  refine l_bz (p' := 2200) (z := (nI 2)) rfl rfl rfl rfl rfl (by decide +kernel) ?_
  refine l_ialz (p' := 2201) (m := 2) (z := q) rfl rfl (by decide +kernel) rfl hx2 rfl ?_
  refine l_aldn (p' := 2202) rfl rfl rfl rfl ?_
  refine l_call (p' := 2205) (kc := 99) (ls0 := [_, _, _, _, _]) rfl rfl rfl rfl rfl rfl rfl rfl rfl rfl ?_
  refine s_aldn (p' := 1) rfl rfl rfl ?_
  refine s_con (p' := 2) rfl rfl ?_
  refine s_aldn (p' := 3) rfl rfl rfl ?_
  refine s_ildn (p' := 4) rfl rfl rfl ?_
  refine s_ildn (p' := 5) rfl rfl rfl ?_
  refine c_call (p' := 8) (kc := 98) (ls0 := [_, _, _, _]) rfl rfl rfl rfl rfl (mj_rcv_is H0) rfl rfl rfl ?_
  refine s_ildn (p' := 1) rfl rfl rfl ?_
  refine c_call (p' := 4) (kc := 97) (ls0 := [_]) rfl rfl rfl rfl rfl rfl rfl rfl rfl ?_
  refine s_ildn (p' := 1) rfl rfl rfl ?_
  refine s_if (p' := 4) false rfl (by decide +kernel) rfl ?_
  refine s_ildn (p' := 5) rfl rfl rfl ?_
  refine s_bip (p' := 7) rfl rfl ?_
  refine s_icmp (p' := 10) false rfl (by decide +kernel) rfl ?_
  refine s_con (p' := 11) rfl rfl ?_
  refine s_goto (p' := 15) rfl rfl ?_
  refine c_iret rfl (by decide +kernel) ?_
  refine s_if (p' := 7) false rfl (by decide +kernel) rfl ?_
  refine s_ildn (p' := 8) rfl rfl rfl ?_
  refine c_call (p' := 11) (kc := 97) (ls0 := [_]) rfl rfl rfl rfl rfl rfl rfl rfl rfl ?_
  refine s_ildn (p' := 1) rfl rfl rfl ?_
  refine s_if (p' := 4) false rfl ((cg_lt (w := 0) (by decide +kernel)).trans (decide_eq_false (by omega))) rfl ?_
  refine s_ildn (p' := 5) rfl rfl rfl ?_
  refine s_bip (p' := 7) rfl rfl ?_
  refine s_icmp (p' := 14) true rfl ((cg_ge (w := 8) (by decide +kernel)).trans (decide_eq_true (by omega))) rfl ?_
  refine s_con (p' := 15) rfl rfl ?_
  refine c_iret rfl (by decide +kernel) ?_
  refine s_if (p' := 14) false rfl (by decide +kernel) rfl ?_
  refine s_thrz (q := 414) rfl HL rfl ?_
  refine K_c (hp := 13) rfl (mj_ocl_is (rd_nw rfl HL)) rfl ?_
  refine s_ast (p' := 15) (ls' := [_, _, _, _, _]) rfl rfl rfl rfl ?_
  refine s_con (p' := 16) rfl rfl ?_
  refine k_iret rfl rfl ?_
  refine l_ist (p' := 2207) (ls' := [_, _, _, _, _, _, _, _, _, _]) rfl rfl rfl rfl rfl ?_
  refine l_aldn (p' := 2208) rfl rfl rfl rfl ?_
  refine l_alds (p' := 2209) rfl rfl rfl rfl ?_
  refine l_ild (p' := 2211) rfl rfl rfl rfl ?_
  refine l_con (p' := 2212) rfl rfl rfl ?_
  refine l_bz (p' := 2213) (z := (nI 1)) rfl rfl rfl rfl rfl (by decide +kernel) ?_
  refine l_ialz (p' := 2214) (m := 1) (z := (nI 7)) rfl rfl (by decide +kernel) rfl hx1 rfl ?_
  refine l_alds (p' := 2215) rfl rfl rfl rfl ?_
  refine l_ild (p' := 2217) rfl rfl rfl rfl ?_
  refine l_con (p' := 2218) rfl rfl rfl ?_
  refine l_bz (p' := 2219) (z := (nI 2)) rfl rfl rfl rfl rfl (by decide +kernel) ?_
  refine l_ialz (p' := 2220) (m := 2) (z := q) rfl rfl (by decide +kernel) rfl hx2 rfl ?_
  refine l_call (p' := 2223) (kc := 99) (ls0 := [_, _, _, _]) rfl rfl rfl rfl rfl rfl (mj_rcv_is (rd_app H400)) rfl rfl rfl ?_
  refine s_aldn (p' := 1) rfl rfl rfl ?_
  refine s_ildn (p' := 2) rfl rfl rfl ?_
  refine s_con (p' := 3) rfl rfl ?_
  refine s_bip (p' := 5) rfl rfl ?_
  refine c_call (p' := 8) (kc := 98) (ls0 := [_, _, _]) rfl rfl rfl rfl rfl rfl rfl rfl rfl ?_
  refine s_ildn (p' := 1) rfl rfl rfl ?_
  refine s_ildn (p' := 2) rfl rfl rfl ?_
  refine s_icmp (p' := 5) false rfl (by decide +kernel) rfl ?_
  refine s_ildn (p' := 6) rfl rfl rfl ?_
  refine s_ildn (p' := 7) rfl rfl rfl ?_
  refine s_icmp (p' := 10) false rfl (by decide +kernel) rfl ?_
  refine s_con (p' := 11) rfl rfl ?_
  refine s_goto (p' := 15) rfl rfl ?_
  refine c_iret rfl (by decide +kernel) ?_
  refine s_if (p' := 11) false rfl (by decide +kernel) rfl ?_
  refine s_ildn (p' := 12) rfl rfl rfl ?_
  refine s_con (p' := 13) rfl rfl ?_
  refine s_bip (p' := 15) rfl rfl ?_
  refine c_call (p' := 18) (kc := 98) (ls0 := [_, _, _]) rfl rfl rfl rfl rfl rfl rfl rfl rfl ?_
  refine s_ildn (p' := 1) rfl rfl rfl ?_
  refine s_ildn (p' := 2) rfl rfl rfl ?_
  refine s_icmp (p' := 5) false rfl ((ch_gt (w := 0) (by decide +kernel)).trans (decide_eq_false (by omega))) rfl ?_
  refine s_ildn (p' := 6) rfl rfl rfl ?_
  refine s_ildn (p' := 7) rfl rfl rfl ?_
  refine s_icmp (p' := 14) true rfl ((cg_gt (w := 7) (by decide +kernel)).trans (decide_eq_true (by omega))) rfl ?_
  refine s_con (p' := 15) rfl rfl ?_
  refine c_iret rfl (by decide +kernel) ?_
  refine s_if (p' := 25) true rfl (by decide +kernel) rfl ?_
  refine s_con (p' := 26) rfl rfl ?_
  refine c_call (p' := 29) (kc := 98) (ls0 := [_, _]) rfl rfl rfl rfl rfl (mj_rcv_is (rd_app H400)) rfl rfl rfl ?_
  refine s_aldn (p' := 1) rfl rfl rfl ?_
  refine s_ildn (p' := 2) rfl rfl rfl ?_
  refine s_pfz (p' := 5) (fs' := [_, _, _, _, _, _, _, _, _, _, _]) rfl rfl (rd_app H400) rfl rfl rfl rfl ?_
  refine s_ildn (p' := 6) rfl rfl rfl ?_
  refine s_if (p' := 9) false rfl (by decide +kernel) rfl ?_
  refine s_con (p' := 10) rfl rfl ?_
  refine s_goto (p' := 14) rfl rfl ?_
  refine c_iret rfl (by decide +kernel) ?_
  refine s_if (p' := 32) false rfl (by decide +kernel) rfl ?_
  refine s_con (p' := 33) rfl rfl ?_
  refine k_iret rfl rfl ?_
  refine l_ist (p' := 2225) (ls' := [_, _, _, _, _, _, _, _, _, _]) rfl rfl rfl rfl rfl ?_
  refine l_aldn (p' := 2226) rfl rfl rfl rfl ?_
  refine l_call (p' := 2229) (kc := 99) (ls0 := [_]) rfl rfl rfl rfl rfl rfl (mj_rcv_is (rd_ss rfl (rd_app H400))) rfl rfl rfl ?_
  refine s_aldn (p' := 1) rfl rfl rfl ?_
  refine s_gf (p' := 4) rfl (rd_ss rfl (rd_app H400)) rfl rfl ?_
  refine k_iret rfl rfl ?_
  refine l_ild (p' := 2231) rfl rfl rfl rfl ?_
  refine l_icmp (p' := 2236) true rfl rfl (by decide +kernel) rfl ?_
  refine l_ild (p' := 2238) rfl rfl rfl rfl ?_
  refine l_if (p' := 2253) true rfl rfl (by decide +kernel) rfl ?_
  refine l_goto (p' := 2541) rfl rfl rfl ?_
  refine l_incz (p' := 2544) (w := (nI 4)) (ls' := [_, _, _, _, _, _, _, _, _, _]) rfl rfl rfl rfl (by decide +kernel) rfl rfl ?_
  refine l_goto (p' := 28) rfl rfl rfl ?_
  refine l_ild (p' := 30) rfl rfl rfl rfl ?_
  refine l_alds (p' := 31) rfl rfl rfl rfl ?_
  refine l_lens (p' := 32) rfl rfl rfl ?_
  refine l_con (p' := 33) rfl rfl rfl ?_
  refine l_bz (p' := 34) (z := (nI 0)) rfl rfl rfl rfl rfl (by decide +kernel) ?_
  refine l_icmp (p' := 2547) true rfl rfl (by decide +kernel) rfl ?_
  refine l_con (p' := 2548) rfl rfl rfl ?_
  refine l_end rfl rfl ?_
  exact ⟨Nat.le_trans (Nat.le_of_eq (len_s (len_a HL rfl))) (Nat.le_of_ble_eq_true rfl), Nat.le_trans (sz_s rfl (rd_app H400) rfl (sz_aa (k := 6) (m := 20006) rfl rfl HZ)) (Nat.le_of_ble_eq_true rfl)⟩
theorem p1_41_n {xs : Nat → Int32} {h : mj_H} (hk : xs 0 &&& nI 63 = nI 41) {p : Int32} (hx1 : xs 1 = p) (hp : p.toInt < 0) (HL : h.length = 414) (HZ : mj_sz h ≤ 20000) (H0 : mj_rd h 0 = some (.inr (0, [.ref 1, .ref 38, .ref 299, .ref 336, .ref 373, .ref 375, .ref 378, .ref 381, .ref 387, .ref 393, .null, .null, .ref 397, .ref 398, .ref 399, .long (lN 0), .long (lN 0)]))) (H400 : mj_rd h 400 = some (.inr (17, [.int (nI 0), .ref 401, .ref 402, .ref 1000300, .long (lN 0), .long (lN 0), .ref 410, .null, .null, .null, .ref 411]))) : mj_fin 4 xs h := by
  unfold mj_fin
  refine l_ild (p' := 30) rfl rfl rfl rfl ?_
  refine l_alds (p' := 31) rfl rfl rfl rfl ?_
  refine l_lens (p' := 32) rfl rfl rfl ?_
  refine l_con (p' := 33) rfl rfl rfl ?_
  refine l_bz (p' := 34) (z := (nI 0)) rfl rfl rfl rfl rfl (by decide +kernel) ?_
  refine l_icmp (p' := 37) false rfl rfl (by decide +kernel) rfl ?_
  refine l_alds (p' := 38) rfl rfl rfl rfl ?_
  refine l_ild (p' := 40) rfl rfl rfl rfl ?_
  refine l_ialz (p' := 41) (m := 0) (z := (xs 0)) rfl rfl (by decide +kernel) rfl rfl rfl ?_
  refine l_bip (p' := 43) rfl rfl rfl ?_
  refine l_bz (p' := 44) (z := (nI 41)) rfl rfl rfl rfl rfl hk ?_
  refine l_sp (p' := 2188) (ls' := _) rfl rfl rfl rfl rfl ?_
  refine l_aldn (p' := 2189) rfl rfl rfl rfl ?_
  refine l_alds (p' := 2190) rfl rfl rfl rfl ?_
  refine l_ild (p' := 2192) rfl rfl rfl rfl ?_
  refine l_con (p' := 2193) rfl rfl rfl ?_
  refine l_bz (p' := 2194) (z := (nI 1)) rfl rfl rfl rfl rfl (by decide +kernel) ?_
  refine l_ialz (p' := 2195) (m := 1) (z := p) rfl rfl (by decide +kernel) rfl hx1 rfl ?_
  refine l_alds (p' := 2196) rfl rfl rfl rfl ?_
  refine l_ild (p' := 2198) rfl rfl rfl rfl ?_
  refine l_con (p' := 2199) rfl rfl rfl ?_
  refine l_bz (p' := 2200) (z := (nI 2)) rfl rfl rfl rfl rfl (by decide +kernel) ?_
  refine l_ialz (p' := 2201) (m := 2) (z := (xs 2)) rfl rfl (by decide +kernel) rfl rfl rfl ?_
  refine l_aldn (p' := 2202) rfl rfl rfl rfl ?_
  refine l_call (p' := 2205) (kc := 99) (ls0 := [_, _, _, _, _]) rfl rfl rfl rfl rfl rfl rfl rfl rfl rfl ?_
  refine s_aldn (p' := 1) rfl rfl rfl ?_
  refine s_con (p' := 2) rfl rfl ?_
  refine s_aldn (p' := 3) rfl rfl rfl ?_
  refine s_ildn (p' := 4) rfl rfl rfl ?_
  refine s_ildn (p' := 5) rfl rfl rfl ?_
  refine c_call (p' := 8) (kc := 98) (ls0 := [_, _, _, _]) rfl rfl rfl rfl rfl (mj_rcv_is H0) rfl rfl rfl ?_
  refine s_ildn (p' := 1) rfl rfl rfl ?_
  refine c_call (p' := 4) (kc := 97) (ls0 := [_]) rfl rfl rfl rfl rfl rfl rfl rfl rfl ?_
  refine s_ildn (p' := 1) rfl rfl rfl ?_
  refine s_if (p' := 14) true rfl ((cg_lt (w := 0) (by decide +kernel)).trans (decide_eq_true (by omega))) rfl ?_
  refine s_con (p' := 15) rfl rfl ?_
  refine c_iret rfl (by decide +kernel) ?_
  refine s_if (p' := 14) true rfl (by decide +kernel) rfl ?_
  refine s_thrz (q := 414) rfl HL rfl ?_
  refine K_c (hp := 13) rfl (mj_ocl_is (rd_nw rfl HL)) rfl ?_
  refine s_ast (p' := 15) (ls' := [_, _, _, _, _]) rfl rfl rfl rfl ?_
  refine s_con (p' := 16) rfl rfl ?_
  refine k_iret rfl rfl ?_
  refine l_ist (p' := 2207) (ls' := [_, _, _, _, _, _, _, _, _, _]) rfl rfl rfl rfl rfl ?_
  refine l_aldn (p' := 2208) rfl rfl rfl rfl ?_
  refine l_alds (p' := 2209) rfl rfl rfl rfl ?_
  refine l_ild (p' := 2211) rfl rfl rfl rfl ?_
  refine l_con (p' := 2212) rfl rfl rfl ?_
  refine l_bz (p' := 2213) (z := (nI 1)) rfl rfl rfl rfl rfl (by decide +kernel) ?_
  refine l_ialz (p' := 2214) (m := 1) (z := p) rfl rfl (by decide +kernel) rfl hx1 rfl ?_
  refine l_alds (p' := 2215) rfl rfl rfl rfl ?_
  refine l_ild (p' := 2217) rfl rfl rfl rfl ?_
  refine l_con (p' := 2218) rfl rfl rfl ?_
  refine l_bz (p' := 2219) (z := (nI 2)) rfl rfl rfl rfl rfl (by decide +kernel) ?_
  refine l_ialz (p' := 2220) (m := 2) (z := (xs 2)) rfl rfl (by decide +kernel) rfl rfl rfl ?_
  refine l_call (p' := 2223) (kc := 99) (ls0 := [_, _, _, _]) rfl rfl rfl rfl rfl rfl (mj_rcv_is (rd_app H400)) rfl rfl rfl ?_
  refine s_aldn (p' := 1) rfl rfl rfl ?_
  refine s_ildn (p' := 2) rfl rfl rfl ?_
  refine s_con (p' := 3) rfl rfl ?_
  refine s_bip (p' := 5) rfl rfl ?_
  refine c_call (p' := 8) (kc := 98) (ls0 := [_, _, _]) rfl rfl rfl rfl rfl rfl rfl rfl rfl ?_
  refine s_ildn (p' := 1) rfl rfl rfl ?_
  refine s_ildn (p' := 2) rfl rfl rfl ?_
  refine s_icmp (p' := 14) true rfl ((ch_gt (w := 0) (by decide +kernel)).trans (decide_eq_true (by omega))) rfl ?_
  refine s_con (p' := 15) rfl rfl ?_
  refine c_iret rfl (by decide +kernel) ?_
  refine s_if (p' := 25) true rfl (by decide +kernel) rfl ?_
  refine s_con (p' := 26) rfl rfl ?_
  refine c_call (p' := 29) (kc := 98) (ls0 := [_, _]) rfl rfl rfl rfl rfl (mj_rcv_is (rd_app H400)) rfl rfl rfl ?_
  refine s_aldn (p' := 1) rfl rfl rfl ?_
  refine s_ildn (p' := 2) rfl rfl rfl ?_
  refine s_pfz (p' := 5) (fs' := [_, _, _, _, _, _, _, _, _, _, _]) rfl rfl (rd_app H400) rfl rfl rfl rfl ?_
  refine s_ildn (p' := 6) rfl rfl rfl ?_
  refine s_if (p' := 9) false rfl (by decide +kernel) rfl ?_
  refine s_con (p' := 10) rfl rfl ?_
  refine s_goto (p' := 14) rfl rfl ?_
  refine c_iret rfl (by decide +kernel) ?_
  refine s_if (p' := 32) false rfl (by decide +kernel) rfl ?_
  refine s_con (p' := 33) rfl rfl ?_
  refine k_iret rfl rfl ?_
  refine l_ist (p' := 2225) (ls' := [_, _, _, _, _, _, _, _, _, _]) rfl rfl rfl rfl rfl ?_
  refine l_aldn (p' := 2226) rfl rfl rfl rfl ?_
  refine l_call (p' := 2229) (kc := 99) (ls0 := [_]) rfl rfl rfl rfl rfl rfl (mj_rcv_is (rd_ss rfl (rd_app H400))) rfl rfl rfl ?_
  refine s_aldn (p' := 1) rfl rfl rfl ?_
  refine s_gf (p' := 4) rfl (rd_ss rfl (rd_app H400)) rfl rfl ?_
  refine k_iret rfl rfl ?_
  refine l_ild (p' := 2231) rfl rfl rfl rfl ?_
  refine l_icmp (p' := 2236) true rfl rfl (by decide +kernel) rfl ?_
  refine l_ild (p' := 2238) rfl rfl rfl rfl ?_
  refine l_if (p' := 2253) true rfl rfl (by decide +kernel) rfl ?_
  refine l_goto (p' := 2541) rfl rfl rfl ?_
  refine l_incz (p' := 2544) (w := (nI 4)) (ls' := [_, _, _, _, _, _, _, _, _, _]) rfl rfl rfl rfl (by decide +kernel) rfl rfl ?_
  refine l_goto (p' := 28) rfl rfl rfl ?_
  refine l_ild (p' := 30) rfl rfl rfl rfl ?_
  refine l_alds (p' := 31) rfl rfl rfl rfl ?_
  refine l_lens (p' := 32) rfl rfl rfl ?_
  refine l_con (p' := 33) rfl rfl rfl ?_
  refine l_bz (p' := 34) (z := (nI 0)) rfl rfl rfl rfl rfl (by decide +kernel) ?_
  refine l_icmp (p' := 2547) true rfl rfl (by decide +kernel) rfl ?_
  refine l_con (p' := 2548) rfl rfl rfl ?_
  refine l_end rfl rfl ?_
  exact ⟨Nat.le_trans (Nat.le_of_eq (len_s (len_a HL rfl))) (Nat.le_of_ble_eq_true rfl), Nat.le_trans (sz_s rfl (rd_app H400) rfl (sz_aa (k := 6) (m := 20006) rfl rfl HZ)) (Nat.le_of_ble_eq_true rfl)⟩
theorem p1_41_m {xs : Nat → Int32} {h : mj_H} (hk : xs 0 &&& nI 63 = nI 41) {p : Int32} (hx1 : xs 1 = p) (hp : 7 < p.toInt) (HL : h.length = 414) (HZ : mj_sz h ≤ 20000) (H0 : mj_rd h 0 = some (.inr (0, [.ref 1, .ref 38, .ref 299, .ref 336, .ref 373, .ref 375, .ref 378, .ref 381, .ref 387, .ref 393, .null, .null, .ref 397, .ref 398, .ref 399, .long (lN 0), .long (lN 0)]))) (H400 : mj_rd h 400 = some (.inr (17, [.int (nI 0), .ref 401, .ref 402, .ref 1000300, .long (lN 0), .long (lN 0), .ref 410, .null, .null, .null, .ref 411]))) : mj_fin 4 xs h := by
  unfold mj_fin
  refine l_ild (p' := 30) rfl rfl rfl rfl ?_
  refine l_alds (p' := 31) rfl rfl rfl rfl ?_
  refine l_lens (p' := 32) rfl rfl rfl ?_
  refine l_con (p' := 33) rfl rfl rfl ?_
  refine l_bz (p' := 34) (z := (nI 0)) rfl rfl rfl rfl rfl (by decide +kernel) ?_
  refine l_icmp (p' := 37) false rfl rfl (by decide +kernel) rfl ?_
  refine l_alds (p' := 38) rfl rfl rfl rfl ?_
  refine l_ild (p' := 40) rfl rfl rfl rfl ?_
  refine l_ialz (p' := 41) (m := 0) (z := (xs 0)) rfl rfl (by decide +kernel) rfl rfl rfl ?_
  refine l_bip (p' := 43) rfl rfl rfl ?_
  refine l_bz (p' := 44) (z := (nI 41)) rfl rfl rfl rfl rfl hk ?_
  refine l_sp (p' := 2188) (ls' := _) rfl rfl rfl rfl rfl ?_
  refine l_aldn (p' := 2189) rfl rfl rfl rfl ?_
  refine l_alds (p' := 2190) rfl rfl rfl rfl ?_
  refine l_ild (p' := 2192) rfl rfl rfl rfl ?_
  refine l_con (p' := 2193) rfl rfl rfl ?_
  refine l_bz (p' := 2194) (z := (nI 1)) rfl rfl rfl rfl rfl (by decide +kernel) ?_
  refine l_ialz (p' := 2195) (m := 1) (z := p) rfl rfl (by decide +kernel) rfl hx1 rfl ?_
  refine l_alds (p' := 2196) rfl rfl rfl rfl ?_
  refine l_ild (p' := 2198) rfl rfl rfl rfl ?_
  refine l_con (p' := 2199) rfl rfl rfl ?_
  refine l_bz (p' := 2200) (z := (nI 2)) rfl rfl rfl rfl rfl (by decide +kernel) ?_
  refine l_ialz (p' := 2201) (m := 2) (z := (xs 2)) rfl rfl (by decide +kernel) rfl rfl rfl ?_
  refine l_aldn (p' := 2202) rfl rfl rfl rfl ?_
  refine l_call (p' := 2205) (kc := 99) (ls0 := [_, _, _, _, _]) rfl rfl rfl rfl rfl rfl rfl rfl rfl rfl ?_
  refine s_aldn (p' := 1) rfl rfl rfl ?_
  refine s_con (p' := 2) rfl rfl ?_
  refine s_aldn (p' := 3) rfl rfl rfl ?_
  refine s_ildn (p' := 4) rfl rfl rfl ?_
  refine s_ildn (p' := 5) rfl rfl rfl ?_
  refine c_call (p' := 8) (kc := 98) (ls0 := [_, _, _, _]) rfl rfl rfl rfl rfl (mj_rcv_is H0) rfl rfl rfl ?_
  refine s_ildn (p' := 1) rfl rfl rfl ?_
  refine c_call (p' := 4) (kc := 97) (ls0 := [_]) rfl rfl rfl rfl rfl rfl rfl rfl rfl ?_
  refine s_ildn (p' := 1) rfl rfl rfl ?_
  refine s_if (p' := 4) false rfl ((cg_lt (w := 0) (by decide +kernel)).trans (decide_eq_false (by omega))) rfl ?_
  refine s_ildn (p' := 5) rfl rfl rfl ?_
  refine s_bip (p' := 7) rfl rfl ?_
  refine s_icmp (p' := 14) true rfl ((cg_ge (w := 8) (by decide +kernel)).trans (decide_eq_true (by omega))) rfl ?_
  refine s_con (p' := 15) rfl rfl ?_
  refine c_iret rfl (by decide +kernel) ?_
  refine s_if (p' := 14) true rfl (by decide +kernel) rfl ?_
  refine s_thrz (q := 414) rfl HL rfl ?_
  refine K_c (hp := 13) rfl (mj_ocl_is (rd_nw rfl HL)) rfl ?_
  refine s_ast (p' := 15) (ls' := [_, _, _, _, _]) rfl rfl rfl rfl ?_
  refine s_con (p' := 16) rfl rfl ?_
  refine k_iret rfl rfl ?_
  refine l_ist (p' := 2207) (ls' := [_, _, _, _, _, _, _, _, _, _]) rfl rfl rfl rfl rfl ?_
  refine l_aldn (p' := 2208) rfl rfl rfl rfl ?_
  refine l_alds (p' := 2209) rfl rfl rfl rfl ?_
  refine l_ild (p' := 2211) rfl rfl rfl rfl ?_
  refine l_con (p' := 2212) rfl rfl rfl ?_
  refine l_bz (p' := 2213) (z := (nI 1)) rfl rfl rfl rfl rfl (by decide +kernel) ?_
  refine l_ialz (p' := 2214) (m := 1) (z := p) rfl rfl (by decide +kernel) rfl hx1 rfl ?_
  refine l_alds (p' := 2215) rfl rfl rfl rfl ?_
  refine l_ild (p' := 2217) rfl rfl rfl rfl ?_
  refine l_con (p' := 2218) rfl rfl rfl ?_
  refine l_bz (p' := 2219) (z := (nI 2)) rfl rfl rfl rfl rfl (by decide +kernel) ?_
  refine l_ialz (p' := 2220) (m := 2) (z := (xs 2)) rfl rfl (by decide +kernel) rfl rfl rfl ?_
  refine l_call (p' := 2223) (kc := 99) (ls0 := [_, _, _, _]) rfl rfl rfl rfl rfl rfl (mj_rcv_is (rd_app H400)) rfl rfl rfl ?_
  refine s_aldn (p' := 1) rfl rfl rfl ?_
  refine s_ildn (p' := 2) rfl rfl rfl ?_
  refine s_con (p' := 3) rfl rfl ?_
  refine s_bip (p' := 5) rfl rfl ?_
  refine c_call (p' := 8) (kc := 98) (ls0 := [_, _, _]) rfl rfl rfl rfl rfl rfl rfl rfl rfl ?_
  refine s_ildn (p' := 1) rfl rfl rfl ?_
  refine s_ildn (p' := 2) rfl rfl rfl ?_
  refine s_icmp (p' := 5) false rfl ((ch_gt (w := 0) (by decide +kernel)).trans (decide_eq_false (by omega))) rfl ?_
  refine s_ildn (p' := 6) rfl rfl rfl ?_
  refine s_ildn (p' := 7) rfl rfl rfl ?_
  refine s_icmp (p' := 14) true rfl ((cg_gt (w := 7) (by decide +kernel)).trans (decide_eq_true (by omega))) rfl ?_
  refine s_con (p' := 15) rfl rfl ?_
  refine c_iret rfl (by decide +kernel) ?_
  refine s_if (p' := 25) true rfl (by decide +kernel) rfl ?_
  refine s_con (p' := 26) rfl rfl ?_
  refine c_call (p' := 29) (kc := 98) (ls0 := [_, _]) rfl rfl rfl rfl rfl (mj_rcv_is (rd_app H400)) rfl rfl rfl ?_
  refine s_aldn (p' := 1) rfl rfl rfl ?_
  refine s_ildn (p' := 2) rfl rfl rfl ?_
  refine s_pfz (p' := 5) (fs' := [_, _, _, _, _, _, _, _, _, _, _]) rfl rfl (rd_app H400) rfl rfl rfl rfl ?_
  refine s_ildn (p' := 6) rfl rfl rfl ?_
  refine s_if (p' := 9) false rfl (by decide +kernel) rfl ?_
  refine s_con (p' := 10) rfl rfl ?_
  refine s_goto (p' := 14) rfl rfl ?_
  refine c_iret rfl (by decide +kernel) ?_
  refine s_if (p' := 32) false rfl (by decide +kernel) rfl ?_
  refine s_con (p' := 33) rfl rfl ?_
  refine k_iret rfl rfl ?_
  refine l_ist (p' := 2225) (ls' := [_, _, _, _, _, _, _, _, _, _]) rfl rfl rfl rfl rfl ?_
  refine l_aldn (p' := 2226) rfl rfl rfl rfl ?_
  refine l_call (p' := 2229) (kc := 99) (ls0 := [_]) rfl rfl rfl rfl rfl rfl (mj_rcv_is (rd_ss rfl (rd_app H400))) rfl rfl rfl ?_
  refine s_aldn (p' := 1) rfl rfl rfl ?_
  refine s_gf (p' := 4) rfl (rd_ss rfl (rd_app H400)) rfl rfl ?_
  refine k_iret rfl rfl ?_
  refine l_ild (p' := 2231) rfl rfl rfl rfl ?_
  refine l_icmp (p' := 2236) true rfl rfl (by decide +kernel) rfl ?_
  refine l_ild (p' := 2238) rfl rfl rfl rfl ?_
  refine l_if (p' := 2253) true rfl rfl (by decide +kernel) rfl ?_
  refine l_goto (p' := 2541) rfl rfl rfl ?_
  refine l_incz (p' := 2544) (w := (nI 4)) (ls' := [_, _, _, _, _, _, _, _, _, _]) rfl rfl rfl rfl (by decide +kernel) rfl rfl ?_
  refine l_goto (p' := 28) rfl rfl rfl ?_
  refine l_ild (p' := 30) rfl rfl rfl rfl ?_
  refine l_alds (p' := 31) rfl rfl rfl rfl ?_
  refine l_lens (p' := 32) rfl rfl rfl ?_
  refine l_con (p' := 33) rfl rfl rfl ?_
  refine l_bz (p' := 34) (z := (nI 0)) rfl rfl rfl rfl rfl (by decide +kernel) ?_
  refine l_icmp (p' := 2547) true rfl rfl (by decide +kernel) rfl ?_
  refine l_con (p' := 2548) rfl rfl rfl ?_
  refine l_end rfl rfl ?_
  exact ⟨Nat.le_trans (Nat.le_of_eq (len_s (len_a HL rfl))) (Nat.le_of_ble_eq_true rfl), Nat.le_trans (sz_s rfl (rd_app H400) rfl (sz_aa (k := 6) (m := 20006) rfl rfl HZ)) (Nat.le_of_ble_eq_true rfl)⟩
theorem p1_44_n {xs : Nat → Int32} {h : mj_H} (hk : xs 0 &&& nI 63 = nI 44) {p : Int32} (hx1 : xs 1 = p) (hp : p.toInt < 1) (HL : h.length = 414) (HZ : mj_sz h ≤ 20000) (H0 : mj_rd h 0 = some (.inr (0, [.ref 1, .ref 38, .ref 299, .ref 336, .ref 373, .ref 375, .ref 378, .ref 381, .ref 387, .ref 393, .null, .null, .ref 397, .ref 398, .ref 399, .long (lN 0), .long (lN 0)]))) (H400 : mj_rd h 400 = some (.inr (17, [.int (nI 0), .ref 401, .ref 402, .ref 1000300, .long (lN 0), .long (lN 0), .ref 410, .null, .null, .null, .ref 411]))) : mj_fin 4 xs h := by
  unfold mj_fin
  refine l_ild (p' := 30) rfl rfl rfl rfl ?_
  refine l_alds (p' := 31) rfl rfl rfl rfl ?_
  refine l_lens (p' := 32) rfl rfl rfl ?_
  refine l_con (p' := 33) rfl rfl rfl ?_
  refine l_bz (p' := 34) (z := (nI 0)) rfl rfl rfl rfl rfl (by decide +kernel) ?_
  refine l_icmp (p' := 37) false rfl rfl (by decide +kernel) rfl ?_
  refine l_alds (p' := 38) rfl rfl rfl rfl ?_
  refine l_ild (p' := 40) rfl rfl rfl rfl ?_
  refine l_ialz (p' := 41) (m := 0) (z := (xs 0)) rfl rfl (by decide +kernel) rfl rfl rfl ?_
  refine l_bip (p' := 43) rfl rfl rfl ?_
  refine l_bz (p' := 44) (z := (nI 44)) rfl rfl rfl rfl rfl hk ?_
  refine l_sp (p' := 2312) (ls' := _) rfl rfl rfl rfl rfl ?_
  refine l_aldn (p' := 2313) rfl rfl rfl rfl ?_
  refine l_alds (p' := 2314) rfl rfl rfl rfl ?_
  refine l_ild (p' := 2316) rfl rfl rfl rfl ?_
  refine l_con (p' := 2317) rfl rfl rfl ?_
  refine l_bz (p' := 2318) (z := (nI 1)) rfl rfl rfl rfl rfl (by decide +kernel) ?_
  refine l_ialz (p' := 2319) (m := 1) (z := p) rfl rfl (by decide +kernel) rfl hx1 rfl ?_
  refine l_alds (p' := 2320) rfl rfl rfl rfl ?_
  refine l_ild (p' := 2322) rfl rfl rfl rfl ?_
  refine l_con (p' := 2323) rfl rfl rfl ?_
  refine l_bz (p' := 2324) (z := (nI 2)) rfl rfl rfl rfl rfl (by decide +kernel) ?_
  refine l_ialz (p' := 2325) (m := 2) (z := (xs 2)) rfl rfl (by decide +kernel) rfl rfl rfl ?_
  refine l_aldn (p' := 2326) rfl rfl rfl rfl ?_
  refine l_call (p' := 2329) (kc := 99) (ls0 := [_, _, _, _, _]) rfl rfl rfl rfl rfl rfl rfl rfl rfl rfl ?_
  refine s_aldn (p' := 1) rfl rfl rfl ?_
  refine s_con (p' := 2) rfl rfl ?_
  refine s_aldn (p' := 3) rfl rfl rfl ?_
  refine s_ildn (p' := 4) rfl rfl rfl ?_
  refine s_ildn (p' := 5) rfl rfl rfl ?_
  refine c_call (p' := 8) (kc := 98) (ls0 := [_, _, _, _]) rfl rfl rfl rfl rfl (mj_rcv_is H0) rfl rfl rfl ?_
  refine s_ildn (p' := 1) rfl rfl rfl ?_
  refine s_con (p' := 2) rfl rfl ?_
  refine s_icmp (p' := 22) true rfl ((cg_lt (w := 1) (by decide +kernel)).trans (decide_eq_true (by omega))) rfl ?_
  refine s_thrz (q := 414) rfl HL rfl ?_
  refine K_c (hp := 13) rfl (mj_ocl_is (rd_nw rfl HL)) rfl ?_
  refine s_ast (p' := 15) (ls' := [_, _, _, _, _]) rfl rfl rfl rfl ?_
  refine s_con (p' := 16) rfl rfl ?_
  refine k_iret rfl rfl ?_
  refine l_ist (p' := 2331) (ls' := [_, _, _, _, _, _, _, _, _, _]) rfl rfl rfl rfl rfl ?_
  refine l_aldn (p' := 2332) rfl rfl rfl rfl ?_
  refine l_alds (p' := 2333) rfl rfl rfl rfl ?_
  refine l_ild (p' := 2335) rfl rfl rfl rfl ?_
  refine l_con (p' := 2336) rfl rfl rfl ?_
  refine l_bz (p' := 2337) (z := (nI 1)) rfl rfl rfl rfl rfl (by decide +kernel) ?_
  refine l_ialz (p' := 2338) (m := 1) (z := p) rfl rfl (by decide +kernel) rfl hx1 rfl ?_
  refine l_alds (p' := 2339) rfl rfl rfl rfl ?_
  refine l_ild (p' := 2341) rfl rfl rfl rfl ?_
  refine l_con (p' := 2342) rfl rfl rfl ?_
  refine l_bz (p' := 2343) (z := (nI 2)) rfl rfl rfl rfl rfl (by decide +kernel) ?_
  refine l_ialz (p' := 2344) (m := 2) (z := (xs 2)) rfl rfl (by decide +kernel) rfl rfl rfl ?_
  refine l_call (p' := 2347) (kc := 99) (ls0 := [_, _, _, _]) rfl rfl rfl rfl rfl rfl (mj_rcv_is (rd_app H400)) rfl rfl rfl ?_
  refine s_aldn (p' := 1) rfl rfl rfl ?_
  refine s_ildn (p' := 2) rfl rfl rfl ?_
  refine s_con (p' := 3) rfl rfl ?_
  refine s_bip (p' := 5) rfl rfl ?_
  refine c_call (p' := 8) (kc := 98) (ls0 := [_, _, _]) rfl rfl rfl rfl rfl rfl rfl rfl rfl ?_
  refine s_ildn (p' := 1) rfl rfl rfl ?_
  refine s_ildn (p' := 2) rfl rfl rfl ?_
  refine s_icmp (p' := 14) true rfl ((ch_gt (w := 1) (by decide +kernel)).trans (decide_eq_true (by omega))) rfl ?_
  refine s_con (p' := 15) rfl rfl ?_
  refine c_iret rfl (by decide +kernel) ?_
  refine s_if (p' := 25) true rfl (by decide +kernel) rfl ?_
  refine s_con (p' := 26) rfl rfl ?_
  refine c_call (p' := 29) (kc := 98) (ls0 := [_, _]) rfl rfl rfl rfl rfl (mj_rcv_is (rd_app H400)) rfl rfl rfl ?_
  refine s_aldn (p' := 1) rfl rfl rfl ?_
  refine s_ildn (p' := 2) rfl rfl rfl ?_
  refine s_pfz (p' := 5) (fs' := [_, _, _, _, _, _, _, _, _, _, _]) rfl rfl (rd_app H400) rfl rfl rfl rfl ?_
  refine s_ildn (p' := 6) rfl rfl rfl ?_
  refine s_if (p' := 9) false rfl (by decide +kernel) rfl ?_
  refine s_con (p' := 10) rfl rfl ?_
  refine s_goto (p' := 14) rfl rfl ?_
  refine c_iret rfl (by decide +kernel) ?_
  refine s_if (p' := 32) false rfl (by decide +kernel) rfl ?_
  refine s_con (p' := 33) rfl rfl ?_
  refine k_iret rfl rfl ?_
  refine l_ist (p' := 2349) (ls' := [_, _, _, _, _, _, _, _, _, _]) rfl rfl rfl rfl rfl ?_
  refine l_aldn (p' := 2350) rfl rfl rfl rfl ?_
  refine l_call (p' := 2353) (kc := 99) (ls0 := [_]) rfl rfl rfl rfl rfl rfl (mj_rcv_is (rd_ss rfl (rd_app H400))) rfl rfl rfl ?_
  refine s_aldn (p' := 1) rfl rfl rfl ?_
  refine s_gf (p' := 4) rfl (rd_ss rfl (rd_app H400)) rfl rfl ?_
  refine k_iret rfl rfl ?_
  refine l_ild (p' := 2355) rfl rfl rfl rfl ?_
  refine l_icmp (p' := 2360) true rfl rfl (by decide +kernel) rfl ?_
  refine l_ild (p' := 2362) rfl rfl rfl rfl ?_
  refine l_if (p' := 2377) true rfl rfl (by decide +kernel) rfl ?_
  refine l_goto (p' := 2541) rfl rfl rfl ?_
  refine l_incz (p' := 2544) (w := (nI 4)) (ls' := [_, _, _, _, _, _, _, _, _, _]) rfl rfl rfl rfl (by decide +kernel) rfl rfl ?_
  refine l_goto (p' := 28) rfl rfl rfl ?_
  refine l_ild (p' := 30) rfl rfl rfl rfl ?_
  refine l_alds (p' := 31) rfl rfl rfl rfl ?_
  refine l_lens (p' := 32) rfl rfl rfl ?_
  refine l_con (p' := 33) rfl rfl rfl ?_
  refine l_bz (p' := 34) (z := (nI 0)) rfl rfl rfl rfl rfl (by decide +kernel) ?_
  refine l_icmp (p' := 2547) true rfl rfl (by decide +kernel) rfl ?_
  refine l_con (p' := 2548) rfl rfl rfl ?_
  refine l_end rfl rfl ?_
  exact ⟨Nat.le_trans (Nat.le_of_eq (len_s (len_a HL rfl))) (Nat.le_of_ble_eq_true rfl), Nat.le_trans (sz_s rfl (rd_app H400) rfl (sz_aa (k := 6) (m := 20006) rfl rfl HZ)) (Nat.le_of_ble_eq_true rfl)⟩
theorem p1_44_m {xs : Nat → Int32} {h : mj_H} (hk : xs 0 &&& nI 63 = nI 44) {p : Int32} (hx1 : xs 1 = p) (hp : 10 < p.toInt) (HL : h.length = 414) (HZ : mj_sz h ≤ 20000) (H0 : mj_rd h 0 = some (.inr (0, [.ref 1, .ref 38, .ref 299, .ref 336, .ref 373, .ref 375, .ref 378, .ref 381, .ref 387, .ref 393, .null, .null, .ref 397, .ref 398, .ref 399, .long (lN 0), .long (lN 0)]))) (H400 : mj_rd h 400 = some (.inr (17, [.int (nI 0), .ref 401, .ref 402, .ref 1000300, .long (lN 0), .long (lN 0), .ref 410, .null, .null, .null, .ref 411]))) : mj_fin 4 xs h := by
  unfold mj_fin
  refine l_ild (p' := 30) rfl rfl rfl rfl ?_
  refine l_alds (p' := 31) rfl rfl rfl rfl ?_
  refine l_lens (p' := 32) rfl rfl rfl ?_
  refine l_con (p' := 33) rfl rfl rfl ?_
  refine l_bz (p' := 34) (z := (nI 0)) rfl rfl rfl rfl rfl (by decide +kernel) ?_
  refine l_icmp (p' := 37) false rfl rfl (by decide +kernel) rfl ?_
  refine l_alds (p' := 38) rfl rfl rfl rfl ?_
  refine l_ild (p' := 40) rfl rfl rfl rfl ?_
  refine l_ialz (p' := 41) (m := 0) (z := (xs 0)) rfl rfl (by decide +kernel) rfl rfl rfl ?_
  refine l_bip (p' := 43) rfl rfl rfl ?_
  refine l_bz (p' := 44) (z := (nI 44)) rfl rfl rfl rfl rfl hk ?_
  refine l_sp (p' := 2312) (ls' := _) rfl rfl rfl rfl rfl ?_
  refine l_aldn (p' := 2313) rfl rfl rfl rfl ?_
  refine l_alds (p' := 2314) rfl rfl rfl rfl ?_
  refine l_ild (p' := 2316) rfl rfl rfl rfl ?_
  refine l_con (p' := 2317) rfl rfl rfl ?_
  refine l_bz (p' := 2318) (z := (nI 1)) rfl rfl rfl rfl rfl (by decide +kernel) ?_
  refine l_ialz (p' := 2319) (m := 1) (z := p) rfl rfl (by decide +kernel) rfl hx1 rfl ?_
  refine l_alds (p' := 2320) rfl rfl rfl rfl ?_
  refine l_ild (p' := 2322) rfl rfl rfl rfl ?_
  refine l_con (p' := 2323) rfl rfl rfl ?_
  refine l_bz (p' := 2324) (z := (nI 2)) rfl rfl rfl rfl rfl (by decide +kernel) ?_
  refine l_ialz (p' := 2325) (m := 2) (z := (xs 2)) rfl rfl (by decide +kernel) rfl rfl rfl ?_
  refine l_aldn (p' := 2326) rfl rfl rfl rfl ?_
  refine l_call (p' := 2329) (kc := 99) (ls0 := [_, _, _, _, _]) rfl rfl rfl rfl rfl rfl rfl rfl rfl rfl ?_
  refine s_aldn (p' := 1) rfl rfl rfl ?_
  refine s_con (p' := 2) rfl rfl ?_
  refine s_aldn (p' := 3) rfl rfl rfl ?_
  refine s_ildn (p' := 4) rfl rfl rfl ?_
  refine s_ildn (p' := 5) rfl rfl rfl ?_
  refine c_call (p' := 8) (kc := 98) (ls0 := [_, _, _, _]) rfl rfl rfl rfl rfl (mj_rcv_is H0) rfl rfl rfl ?_
  refine s_ildn (p' := 1) rfl rfl rfl ?_
  refine s_con (p' := 2) rfl rfl ?_
  refine s_icmp (p' := 5) false rfl ((cg_lt (w := 1) (by decide +kernel)).trans (decide_eq_false (by omega))) rfl ?_
  refine s_ildn (p' := 6) rfl rfl rfl ?_
  refine s_bip (p' := 8) rfl rfl ?_
  refine s_icmp (p' := 22) true rfl ((cg_gt (w := 10) (by decide +kernel)).trans (decide_eq_true (by omega))) rfl ?_
  refine s_thrz (q := 414) rfl HL rfl ?_
  refine K_c (hp := 13) rfl (mj_ocl_is (rd_nw rfl HL)) rfl ?_
  refine s_ast (p' := 15) (ls' := [_, _, _, _, _]) rfl rfl rfl rfl ?_
  refine s_con (p' := 16) rfl rfl ?_
  refine k_iret rfl rfl ?_
  refine l_ist (p' := 2331) (ls' := [_, _, _, _, _, _, _, _, _, _]) rfl rfl rfl rfl rfl ?_
  refine l_aldn (p' := 2332) rfl rfl rfl rfl ?_
  refine l_alds (p' := 2333) rfl rfl rfl rfl ?_
  refine l_ild (p' := 2335) rfl rfl rfl rfl ?_
  refine l_con (p' := 2336) rfl rfl rfl ?_
  refine l_bz (p' := 2337) (z := (nI 1)) rfl rfl rfl rfl rfl (by decide +kernel) ?_
  refine l_ialz (p' := 2338) (m := 1) (z := p) rfl rfl (by decide +kernel) rfl hx1 rfl ?_
  refine l_alds (p' := 2339) rfl rfl rfl rfl ?_
  refine l_ild (p' := 2341) rfl rfl rfl rfl ?_
  refine l_con (p' := 2342) rfl rfl rfl ?_
  refine l_bz (p' := 2343) (z := (nI 2)) rfl rfl rfl rfl rfl (by decide +kernel) ?_
  refine l_ialz (p' := 2344) (m := 2) (z := (xs 2)) rfl rfl (by decide +kernel) rfl rfl rfl ?_
  refine l_call (p' := 2347) (kc := 99) (ls0 := [_, _, _, _]) rfl rfl rfl rfl rfl rfl (mj_rcv_is (rd_app H400)) rfl rfl rfl ?_
  refine s_aldn (p' := 1) rfl rfl rfl ?_
  refine s_ildn (p' := 2) rfl rfl rfl ?_
  refine s_con (p' := 3) rfl rfl ?_
  refine s_bip (p' := 5) rfl rfl ?_
  refine c_call (p' := 8) (kc := 98) (ls0 := [_, _, _]) rfl rfl rfl rfl rfl rfl rfl rfl rfl ?_
  refine s_ildn (p' := 1) rfl rfl rfl ?_
  refine s_ildn (p' := 2) rfl rfl rfl ?_
  refine s_icmp (p' := 5) false rfl ((ch_gt (w := 1) (by decide +kernel)).trans (decide_eq_false (by omega))) rfl ?_
  refine s_ildn (p' := 6) rfl rfl rfl ?_
  refine s_ildn (p' := 7) rfl rfl rfl ?_
  refine s_icmp (p' := 14) true rfl ((cg_gt (w := 10) (by decide +kernel)).trans (decide_eq_true (by omega))) rfl ?_
  refine s_con (p' := 15) rfl rfl ?_
  refine c_iret rfl (by decide +kernel) ?_
  refine s_if (p' := 25) true rfl (by decide +kernel) rfl ?_
  refine s_con (p' := 26) rfl rfl ?_
  refine c_call (p' := 29) (kc := 98) (ls0 := [_, _]) rfl rfl rfl rfl rfl (mj_rcv_is (rd_app H400)) rfl rfl rfl ?_
  refine s_aldn (p' := 1) rfl rfl rfl ?_
  refine s_ildn (p' := 2) rfl rfl rfl ?_
  refine s_pfz (p' := 5) (fs' := [_, _, _, _, _, _, _, _, _, _, _]) rfl rfl (rd_app H400) rfl rfl rfl rfl ?_
  refine s_ildn (p' := 6) rfl rfl rfl ?_
  refine s_if (p' := 9) false rfl (by decide +kernel) rfl ?_
  refine s_con (p' := 10) rfl rfl ?_
  refine s_goto (p' := 14) rfl rfl ?_
  refine c_iret rfl (by decide +kernel) ?_
  refine s_if (p' := 32) false rfl (by decide +kernel) rfl ?_
  refine s_con (p' := 33) rfl rfl ?_
  refine k_iret rfl rfl ?_
  refine l_ist (p' := 2349) (ls' := [_, _, _, _, _, _, _, _, _, _]) rfl rfl rfl rfl rfl ?_
  refine l_aldn (p' := 2350) rfl rfl rfl rfl ?_
  refine l_call (p' := 2353) (kc := 99) (ls0 := [_]) rfl rfl rfl rfl rfl rfl (mj_rcv_is (rd_ss rfl (rd_app H400))) rfl rfl rfl ?_
  refine s_aldn (p' := 1) rfl rfl rfl ?_
  refine s_gf (p' := 4) rfl (rd_ss rfl (rd_app H400)) rfl rfl ?_
  refine k_iret rfl rfl ?_
  refine l_ild (p' := 2355) rfl rfl rfl rfl ?_
  refine l_icmp (p' := 2360) true rfl rfl (by decide +kernel) rfl ?_
  refine l_ild (p' := 2362) rfl rfl rfl rfl ?_
  refine l_if (p' := 2377) true rfl rfl (by decide +kernel) rfl ?_
  refine l_goto (p' := 2541) rfl rfl rfl ?_
  refine l_incz (p' := 2544) (w := (nI 4)) (ls' := [_, _, _, _, _, _, _, _, _, _]) rfl rfl rfl rfl (by decide +kernel) rfl rfl ?_
  refine l_goto (p' := 28) rfl rfl rfl ?_
  refine l_ild (p' := 30) rfl rfl rfl rfl ?_
  refine l_alds (p' := 31) rfl rfl rfl rfl ?_
  refine l_lens (p' := 32) rfl rfl rfl ?_
  refine l_con (p' := 33) rfl rfl rfl ?_
  refine l_bz (p' := 34) (z := (nI 0)) rfl rfl rfl rfl rfl (by decide +kernel) ?_
  refine l_icmp (p' := 2547) true rfl rfl (by decide +kernel) rfl ?_
  refine l_con (p' := 2548) rfl rfl rfl ?_
  refine l_end rfl rfl ?_
  exact ⟨Nat.le_trans (Nat.le_of_eq (len_s (len_a HL rfl))) (Nat.le_of_ble_eq_true rfl), Nat.le_trans (sz_s rfl (rd_app H400) rfl (sz_aa (k := 6) (m := 20006) rfl rfl HZ)) (Nat.le_of_ble_eq_true rfl)⟩
theorem p1_44_on {xs : Nat → Int32} {h : mj_H} (hk : xs 0 &&& nI 63 = nI 44) {p : Int32} (hx1 : xs 1 = p) {q : Int32} (hx2 : xs 2 = q) (hp : 1 ≤ p.toInt ∧ p.toInt ≤ 10) (hq : q.toInt < 1) (HL : h.length = 414) (HZ : mj_sz h ≤ 20000) (H0 : mj_rd h 0 = some (.inr (0, [.ref 1, .ref 38, .ref 299, .ref 336, .ref 373, .ref 375, .ref 378, .ref 381, .ref 387, .ref 393, .null, .null, .ref 397, .ref 398, .ref 399, .long (lN 0), .long (lN 0)]))) (H400 : mj_rd h 400 = some (.inr (17, [.int (nI 0), .ref 401, .ref 402, .ref 1000300, .long (lN 0), .long (lN 0), .ref 410, .null, .null, .null, .ref 411]))) : mj_fin 4 xs h := by
  unfold mj_fin
  refine l_ild (p' := 30) rfl rfl rfl rfl ?_
  refine l_alds (p' := 31) rfl rfl rfl rfl ?_
  refine l_lens (p' := 32) rfl rfl rfl ?_
  refine l_con (p' := 33) rfl rfl rfl ?_
  refine l_bz (p' := 34) (z := (nI 0)) rfl rfl rfl rfl rfl (by decide +kernel) ?_
  refine l_icmp (p' := 37) false rfl rfl (by decide +kernel) rfl ?_
  refine l_alds (p' := 38) rfl rfl rfl rfl ?_
  refine l_ild (p' := 40) rfl rfl rfl rfl ?_
  refine l_ialz (p' := 41) (m := 0) (z := (xs 0)) rfl rfl (by decide +kernel) rfl rfl rfl ?_
  refine l_bip (p' := 43) rfl rfl rfl ?_
  refine l_bz (p' := 44) (z := (nI 44)) rfl rfl rfl rfl rfl hk ?_
  refine l_sp (p' := 2312) (ls' := _) rfl rfl rfl rfl rfl ?_
  refine l_aldn (p' := 2313) rfl rfl rfl rfl ?_
  refine l_alds (p' := 2314) rfl rfl rfl rfl ?_
  refine l_ild (p' := 2316) rfl rfl rfl rfl ?_
  refine l_con (p' := 2317) rfl rfl rfl ?_
  refine l_bz (p' := 2318) (z := (nI 1)) rfl rfl rfl rfl rfl (by decide +kernel) ?_
  refine l_ialz (p' := 2319) (m := 1) (z := p) rfl rfl (by decide +kernel) rfl hx1 rfl ?_
  refine l_alds (p' := 2320) rfl rfl rfl rfl ?_
  refine l_ild (p' := 2322) rfl rfl rfl rfl ?_
  refine l_con (p' := 2323) rfl rfl rfl ?_
  refine l_bz (p' := 2324) (z := (nI 2)) rfl rfl rfl rfl rfl (by decide +kernel) ?_
  refine l_ialz (p' := 2325) (m := 2) (z := q) rfl rfl (by decide +kernel) rfl hx2 rfl ?_
  refine l_aldn (p' := 2326) rfl rfl rfl rfl ?_
  refine l_call (p' := 2329) (kc := 99) (ls0 := [_, _, _, _, _]) rfl rfl rfl rfl rfl rfl rfl rfl rfl rfl ?_
  refine s_aldn (p' := 1) rfl rfl rfl ?_
  refine s_con (p' := 2) rfl rfl ?_
  refine s_aldn (p' := 3) rfl rfl rfl ?_
  refine s_ildn (p' := 4) rfl rfl rfl ?_
  refine s_ildn (p' := 5) rfl rfl rfl ?_
  refine c_call (p' := 8) (kc := 98) (ls0 := [_, _, _, _]) rfl rfl rfl rfl rfl (mj_rcv_is H0) rfl rfl rfl ?_
  refine s_ildn (p' := 1) rfl rfl rfl ?_
  refine s_con (p' := 2) rfl rfl ?_
  refine s_icmp (p' := 5) false rfl ((cg_lt (w := 1) (by decide +kernel)).trans (decide_eq_false (by omega))) rfl ?_
  refine s_ildn (p' := 6) rfl rfl rfl ?_
  refine s_bip (p' := 8) rfl rfl ?_
  refine s_icmp (p' := 11) false rfl ((cg_gt (w := 10) (by decide +kernel)).trans (decide_eq_false (by omega))) rfl ?_
  refine s_ildn (p' := 12) rfl rfl rfl ?_
  refine s_con (p' := 13) rfl rfl ?_
  refine s_icmp (p' := 22) true rfl ((cg_lt (w := 1) (by decide +kernel)).trans (decide_eq_true (by omega))) rfl ?_
  refine s_thrz (q := 414) rfl HL rfl ?_
  refine K_c (hp := 13) rfl (mj_ocl_is (rd_nw rfl HL)) rfl ?_
  refine s_ast (p' := 15) (ls' := [_, _, _, _, _]) rfl rfl rfl rfl ?_
  refine s_con (p' := 16) rfl rfl ?_
  refine k_iret rfl rfl ?_
  refine l_ist (p' := 2331) (ls' := [_, _, _, _, _, _, _, _, _, _]) rfl rfl rfl rfl rfl ?_
  refine l_aldn (p' := 2332) rfl rfl rfl rfl ?_
  refine l_alds (p' := 2333) rfl rfl rfl rfl ?_
  refine l_ild (p' := 2335) rfl rfl rfl rfl ?_
  refine l_con (p' := 2336) rfl rfl rfl ?_
  refine l_bz (p' := 2337) (z := (nI 1)) rfl rfl rfl rfl rfl (by decide +kernel) ?_
  refine l_ialz (p' := 2338) (m := 1) (z := p) rfl rfl (by decide +kernel) rfl hx1 rfl ?_
  refine l_alds (p' := 2339) rfl rfl rfl rfl ?_
  refine l_ild (p' := 2341) rfl rfl rfl rfl ?_
  refine l_con (p' := 2342) rfl rfl rfl ?_
  refine l_bz (p' := 2343) (z := (nI 2)) rfl rfl rfl rfl rfl (by decide +kernel) ?_
  refine l_ialz (p' := 2344) (m := 2) (z := q) rfl rfl (by decide +kernel) rfl hx2 rfl ?_
  refine l_call (p' := 2347) (kc := 99) (ls0 := [_, _, _, _]) rfl rfl rfl rfl rfl rfl (mj_rcv_is (rd_app H400)) rfl rfl rfl ?_
  refine s_aldn (p' := 1) rfl rfl rfl ?_
  refine s_ildn (p' := 2) rfl rfl rfl ?_
  refine s_con (p' := 3) rfl rfl ?_
  refine s_bip (p' := 5) rfl rfl ?_
  refine c_call (p' := 8) (kc := 98) (ls0 := [_, _, _]) rfl rfl rfl rfl rfl rfl rfl rfl rfl ?_
  refine s_ildn (p' := 1) rfl rfl rfl ?_
  refine s_ildn (p' := 2) rfl rfl rfl ?_
  refine s_icmp (p' := 5) false rfl ((ch_gt (w := 1) (by decide +kernel)).trans (decide_eq_false (by omega))) rfl ?_
  refine s_ildn (p' := 6) rfl rfl rfl ?_
  refine s_ildn (p' := 7) rfl rfl rfl ?_
  refine s_icmp (p' := 10) false rfl ((cg_gt (w := 10) (by decide +kernel)).trans (decide_eq_false (by omega))) rfl ?_
  refine s_con (p' := 11) rfl rfl ?_
  refine s_goto (p' := 15) rfl rfl ?_
  refine c_iret rfl (by decide +kernel) ?_
  refine s_if (p' := 11) false rfl (by decide +kernel) rfl ?_
  refine s_ildn (p' := 12) rfl rfl rfl ?_
  refine s_con (p' := 13) rfl rfl ?_
  refine s_bip (p' := 15) rfl rfl ?_
  refine c_call (p' := 18) (kc := 98) (ls0 := [_, _, _]) rfl rfl rfl rfl rfl rfl rfl rfl rfl ?_
  refine s_ildn (p' := 1) rfl rfl rfl ?_
  refine s_ildn (p' := 2) rfl rfl rfl ?_
  refine s_icmp (p' := 14) true rfl ((ch_gt (w := 1) (by decide +kernel)).trans (decide_eq_true (by omega))) rfl ?_
  refine s_con (p' := 15) rfl rfl ?_
  refine c_iret rfl (by decide +kernel) ?_
  refine s_if (p' := 25) true rfl (by decide +kernel) rfl ?_
  refine s_con (p' := 26) rfl rfl ?_
  refine c_call (p' := 29) (kc := 98) (ls0 := [_, _]) rfl rfl rfl rfl rfl (mj_rcv_is (rd_app H400)) rfl rfl rfl ?_
  refine s_aldn (p' := 1) rfl rfl rfl ?_
  refine s_ildn (p' := 2) rfl rfl rfl ?_
  refine s_pfz (p' := 5) (fs' := [_, _, _, _, _, _, _, _, _, _, _]) rfl rfl (rd_app H400) rfl rfl rfl rfl ?_
  refine s_ildn (p' := 6) rfl rfl rfl ?_
  refine s_if (p' := 9) false rfl (by decide +kernel) rfl ?_
  refine s_con (p' := 10) rfl rfl ?_
  refine s_goto (p' := 14) rfl rfl ?_
  refine c_iret rfl (by decide +kernel) ?_
  refine s_if (p' := 32) false rfl (by decide +kernel) rfl ?_
  refine s_con (p' := 33) rfl rfl ?_
  refine k_iret rfl rfl ?_
  refine l_ist (p' := 2349) (ls' := [_, _, _, _, _, _, _, _, _, _]) rfl rfl rfl rfl rfl ?_
  refine l_aldn (p' := 2350) rfl rfl rfl rfl ?_
  refine l_call (p' := 2353) (kc := 99) (ls0 := [_]) rfl rfl rfl rfl rfl rfl (mj_rcv_is (rd_ss rfl (rd_app H400))) rfl rfl rfl ?_
  refine s_aldn (p' := 1) rfl rfl rfl ?_
  refine s_gf (p' := 4) rfl (rd_ss rfl (rd_app H400)) rfl rfl ?_
  refine k_iret rfl rfl ?_
  refine l_ild (p' := 2355) rfl rfl rfl rfl ?_
  refine l_icmp (p' := 2360) true rfl rfl (by decide +kernel) rfl ?_
  refine l_ild (p' := 2362) rfl rfl rfl rfl ?_
  refine l_if (p' := 2377) true rfl rfl (by decide +kernel) rfl ?_
  refine l_goto (p' := 2541) rfl rfl rfl ?_
  refine l_incz (p' := 2544) (w := (nI 4)) (ls' := [_, _, _, _, _, _, _, _, _, _]) rfl rfl rfl rfl (by decide +kernel) rfl rfl ?_
  refine l_goto (p' := 28) rfl rfl rfl ?_
  refine l_ild (p' := 30) rfl rfl rfl rfl ?_
  refine l_alds (p' := 31) rfl rfl rfl rfl ?_
  refine l_lens (p' := 32) rfl rfl rfl ?_
  refine l_con (p' := 33) rfl rfl rfl ?_
  refine l_bz (p' := 34) (z := (nI 0)) rfl rfl rfl rfl rfl (by decide +kernel) ?_
  refine l_icmp (p' := 2547) true rfl rfl (by decide +kernel) rfl ?_
  refine l_con (p' := 2548) rfl rfl rfl ?_
  refine l_end rfl rfl ?_
  exact ⟨Nat.le_trans (Nat.le_of_eq (len_s (len_a HL rfl))) (Nat.le_of_ble_eq_true rfl), Nat.le_trans (sz_s rfl (rd_app H400) rfl (sz_aa (k := 6) (m := 20006) rfl rfl HZ)) (Nat.le_of_ble_eq_true rfl)⟩
theorem p1_44_om {xs : Nat → Int32} {h : mj_H} (hk : xs 0 &&& nI 63 = nI 44) {p : Int32} (hx1 : xs 1 = p) {q : Int32} (hx2 : xs 2 = q) (hp : 1 ≤ p.toInt ∧ p.toInt ≤ 10) (hq : 10 < q.toInt) (HL : h.length = 414) (HZ : mj_sz h ≤ 20000) (H0 : mj_rd h 0 = some (.inr (0, [.ref 1, .ref 38, .ref 299, .ref 336, .ref 373, .ref 375, .ref 378, .ref 381, .ref 387, .ref 393, .null, .null, .ref 397, .ref 398, .ref 399, .long (lN 0), .long (lN 0)]))) (H400 : mj_rd h 400 = some (.inr (17, [.int (nI 0), .ref 401, .ref 402, .ref 1000300, .long (lN 0), .long (lN 0), .ref 410, .null, .null, .null, .ref 411]))) : mj_fin 4 xs h := by
  unfold mj_fin
  refine l_ild (p' := 30) rfl rfl rfl rfl ?_
  refine l_alds (p' := 31) rfl rfl rfl rfl ?_
  refine l_lens (p' := 32) rfl rfl rfl ?_
  refine l_con (p' := 33) rfl rfl rfl ?_
  refine l_bz (p' := 34) (z := (nI 0)) rfl rfl rfl rfl rfl (by decide +kernel) ?_
  refine l_icmp (p' := 37) false rfl rfl (by decide +kernel) rfl ?_
  refine l_alds (p' := 38) rfl rfl rfl rfl ?_
  refine l_ild (p' := 40) rfl rfl rfl rfl ?_
  refine l_ialz (p' := 41) (m := 0) (z := (xs 0)) rfl rfl (by decide +kernel) rfl rfl rfl ?_
  refine l_bip (p' := 43) rfl rfl rfl ?_
  refine l_bz (p' := 44) (z := (nI 44)) rfl rfl rfl rfl rfl hk ?_
  refine l_sp (p' := 2312) (ls' := _) rfl rfl rfl rfl rfl ?_
  refine l_aldn (p' := 2313) rfl rfl rfl rfl ?_
  refine l_alds (p' := 2314) rfl rfl rfl rfl ?_
  refine l_ild (p' := 2316) rfl rfl rfl rfl ?_
  refine l_con (p' := 2317) rfl rfl rfl ?_
  refine l_bz (p' := 2318) (z := (nI 1)) rfl rfl rfl rfl rfl (by decide +kernel) ?_
  refine l_ialz (p' := 2319) (m := 1) (z := p) rfl rfl (by decide +kernel) rfl hx1 rfl ?_
  refine l_alds (p' := 2320) rfl rfl rfl rfl ?_
  refine l_ild (p' := 2322) rfl rfl rfl rfl ?_
  refine l_con (p' := 2323) rfl rfl rfl ?_
  refine l_bz (p' := 2324) (z := (nI 2)) rfl rfl rfl rfl rfl (by decide +kernel) ?_
  refine l_ialz (p' := 2325) (m := 2) (z := q) rfl rfl (by decide +kernel) rfl hx2 rfl ?_
  refine l_aldn (p' := 2326) rfl rfl rfl rfl ?_
  refine l_call (p' := 2329) (kc := 99) (ls0 := [_, _, _, _, _]) rfl rfl rfl rfl rfl rfl rfl rfl rfl rfl ?_
  refine s_aldn (p' := 1) rfl rfl rfl ?_
  refine s_con (p' := 2) rfl rfl ?_
  refine s_aldn (p' := 3) rfl rfl rfl ?_
  refine s_ildn (p' := 4) rfl rfl rfl ?_
  refine s_ildn (p' := 5) rfl rfl rfl ?_
  refine c_call (p' := 8) (kc := 98) (ls0 := [_, _, _, _]) rfl rfl rfl rfl rfl (mj_rcv_is H0) rfl rfl rfl ?_
  refine s_ildn (p' := 1) rfl rfl rfl ?_
  refine s_con (p' := 2) rfl rfl ?_
  refine s_icmp (p' := 5) false rfl ((cg_lt (w := 1) (by decide +kernel)).trans (decide_eq_false (by omega))) rfl ?_
  refine s_ildn (p' := 6) rfl rfl rfl ?_
  refine s_bip (p' := 8) rfl rfl ?_
  refine s_icmp (p' := 11) false rfl ((cg_gt (w := 10) (by decide +kernel)).trans (decide_eq_false (by omega))) rfl ?_
  refine s_ildn (p' := 12) rfl rfl rfl ?_
  refine s_con (p' := 13) rfl rfl ?_
  refine s_icmp (p' := 16) false rfl ((cg_lt (w := 1) (by decide +kernel)).trans (decide_eq_false (by omega))) rfl ?_
  refine s_ildn (p' := 17) rfl rfl rfl ?_
  refine s_bip (p' := 19) rfl rfl ?_
  refine s_icmp (p' := 22) false rfl ((cg_le (w := 10) (by decide +kernel)).trans (decide_eq_false (by omega))) rfl ?_
  refine s_thrz (q := 414) rfl HL rfl ?_
  refine K_c (hp := 13) rfl (mj_ocl_is (rd_nw rfl HL)) rfl ?_
  refine s_ast (p' := 15) (ls' := [_, _, _, _, _]) rfl rfl rfl rfl ?_
  refine s_con (p' := 16) rfl rfl ?_
  refine k_iret rfl rfl ?_
  refine l_ist (p' := 2331) (ls' := [_, _, _, _, _, _, _, _, _, _]) rfl rfl rfl rfl rfl ?_
  refine l_aldn (p' := 2332) rfl rfl rfl rfl ?_
  refine l_alds (p' := 2333) rfl rfl rfl rfl ?_
  refine l_ild (p' := 2335) rfl rfl rfl rfl ?_
  refine l_con (p' := 2336) rfl rfl rfl ?_
  refine l_bz (p' := 2337) (z := (nI 1)) rfl rfl rfl rfl rfl (by decide +kernel) ?_
  refine l_ialz (p' := 2338) (m := 1) (z := p) rfl rfl (by decide +kernel) rfl hx1 rfl ?_
  refine l_alds (p' := 2339) rfl rfl rfl rfl ?_
  refine l_ild (p' := 2341) rfl rfl rfl rfl ?_
  refine l_con (p' := 2342) rfl rfl rfl ?_
  refine l_bz (p' := 2343) (z := (nI 2)) rfl rfl rfl rfl rfl (by decide +kernel) ?_
  refine l_ialz (p' := 2344) (m := 2) (z := q) rfl rfl (by decide +kernel) rfl hx2 rfl ?_
  refine l_call (p' := 2347) (kc := 99) (ls0 := [_, _, _, _]) rfl rfl rfl rfl rfl rfl (mj_rcv_is (rd_app H400)) rfl rfl rfl ?_
  refine s_aldn (p' := 1) rfl rfl rfl ?_
  refine s_ildn (p' := 2) rfl rfl rfl ?_
  refine s_con (p' := 3) rfl rfl ?_
  refine s_bip (p' := 5) rfl rfl ?_
  refine c_call (p' := 8) (kc := 98) (ls0 := [_, _, _]) rfl rfl rfl rfl rfl rfl rfl rfl rfl ?_
  refine s_ildn (p' := 1) rfl rfl rfl ?_
  refine s_ildn (p' := 2) rfl rfl rfl ?_
  refine s_icmp (p' := 5) false rfl ((ch_gt (w := 1) (by decide +kernel)).trans (decide_eq_false (by omega))) rfl ?_
  refine s_ildn (p' := 6) rfl rfl rfl ?_
  refine s_ildn (p' := 7) rfl rfl rfl ?_
  refine s_icmp (p' := 10) false rfl ((cg_gt (w := 10) (by decide +kernel)).trans (decide_eq_false (by omega))) rfl ?_
  refine s_con (p' := 11) rfl rfl ?_
  refine s_goto (p' := 15) rfl rfl ?_
  refine c_iret rfl (by decide +kernel) ?_
  refine s_if (p' := 11) false rfl (by decide +kernel) rfl ?_
  refine s_ildn (p' := 12) rfl rfl rfl ?_
  refine s_con (p' := 13) rfl rfl ?_
  refine s_bip (p' := 15) rfl rfl ?_
  refine c_call (p' := 18) (kc := 98) (ls0 := [_, _, _]) rfl rfl rfl rfl rfl rfl rfl rfl rfl ?_
  refine s_ildn (p' := 1) rfl rfl rfl ?_
  refine s_ildn (p' := 2) rfl rfl rfl ?_
  refine s_icmp (p' := 5) false rfl ((ch_gt (w := 1) (by decide +kernel)).trans (decide_eq_false (by omega))) rfl ?_
  refine s_ildn (p' := 6) rfl rfl rfl ?_
  refine s_ildn (p' := 7) rfl rfl rfl ?_
  refine s_icmp (p' := 14) true rfl ((cg_gt (w := 10) (by decide +kernel)).trans (decide_eq_true (by omega))) rfl ?_
  refine s_con (p' := 15) rfl rfl ?_
  refine c_iret rfl (by decide +kernel) ?_
  refine s_if (p' := 25) true rfl (by decide +kernel) rfl ?_
  refine s_con (p' := 26) rfl rfl ?_
  refine c_call (p' := 29) (kc := 98) (ls0 := [_, _]) rfl rfl rfl rfl rfl (mj_rcv_is (rd_app H400)) rfl rfl rfl ?_
  refine s_aldn (p' := 1) rfl rfl rfl ?_
  refine s_ildn (p' := 2) rfl rfl rfl ?_
  refine s_pfz (p' := 5) (fs' := [_, _, _, _, _, _, _, _, _, _, _]) rfl rfl (rd_app H400) rfl rfl rfl rfl ?_
  refine s_ildn (p' := 6) rfl rfl rfl ?_
  refine s_if (p' := 9) false rfl (by decide +kernel) rfl ?_
  refine s_con (p' := 10) rfl rfl ?_
  refine s_goto (p' := 14) rfl rfl ?_
  refine c_iret rfl (by decide +kernel) ?_
  refine s_if (p' := 32) false rfl (by decide +kernel) rfl ?_
  refine s_con (p' := 33) rfl rfl ?_
  refine k_iret rfl rfl ?_
  refine l_ist (p' := 2349) (ls' := [_, _, _, _, _, _, _, _, _, _]) rfl rfl rfl rfl rfl ?_
  refine l_aldn (p' := 2350) rfl rfl rfl rfl ?_
  refine l_call (p' := 2353) (kc := 99) (ls0 := [_]) rfl rfl rfl rfl rfl rfl (mj_rcv_is (rd_ss rfl (rd_app H400))) rfl rfl rfl ?_
  refine s_aldn (p' := 1) rfl rfl rfl ?_
  refine s_gf (p' := 4) rfl (rd_ss rfl (rd_app H400)) rfl rfl ?_
  refine k_iret rfl rfl ?_
  refine l_ild (p' := 2355) rfl rfl rfl rfl ?_
  refine l_icmp (p' := 2360) true rfl rfl (by decide +kernel) rfl ?_
  refine l_ild (p' := 2362) rfl rfl rfl rfl ?_
  refine l_if (p' := 2377) true rfl rfl (by decide +kernel) rfl ?_
  refine l_goto (p' := 2541) rfl rfl rfl ?_
  refine l_incz (p' := 2544) (w := (nI 4)) (ls' := [_, _, _, _, _, _, _, _, _, _]) rfl rfl rfl rfl (by decide +kernel) rfl rfl ?_
  refine l_goto (p' := 28) rfl rfl rfl ?_
  refine l_ild (p' := 30) rfl rfl rfl rfl ?_
  refine l_alds (p' := 31) rfl rfl rfl rfl ?_
  refine l_lens (p' := 32) rfl rfl rfl ?_
  refine l_con (p' := 33) rfl rfl rfl ?_
  refine l_bz (p' := 34) (z := (nI 0)) rfl rfl rfl rfl rfl (by decide +kernel) ?_
  refine l_icmp (p' := 2547) true rfl rfl (by decide +kernel) rfl ?_
  refine l_con (p' := 2548) rfl rfl rfl ?_
  refine l_end rfl rfl ?_
  exact ⟨Nat.le_trans (Nat.le_of_eq (len_s (len_a HL rfl))) (Nat.le_of_ble_eq_true rfl), Nat.le_trans (sz_s rfl (rd_app H400) rfl (sz_aa (k := 6) (m := 20006) rfl rfl HZ)) (Nat.le_of_ble_eq_true rfl)⟩
theorem p1_45_n {xs : Nat → Int32} {h : mj_H} (hk : xs 0 &&& nI 63 = nI 45) {p : Int32} (hx1 : xs 1 = p) (hp : p.toInt < 1) (HL : h.length = 414) (HZ : mj_sz h ≤ 20000) (H0 : mj_rd h 0 = some (.inr (0, [.ref 1, .ref 38, .ref 299, .ref 336, .ref 373, .ref 375, .ref 378, .ref 381, .ref 387, .ref 393, .null, .null, .ref 397, .ref 398, .ref 399, .long (lN 0), .long (lN 0)]))) (H400 : mj_rd h 400 = some (.inr (17, [.int (nI 0), .ref 401, .ref 402, .ref 1000300, .long (lN 0), .long (lN 0), .ref 410, .null, .null, .null, .ref 411]))) : mj_fin 4 xs h := by
  unfold mj_fin
  refine l_ild (p' := 30) rfl rfl rfl rfl ?_
  refine l_alds (p' := 31) rfl rfl rfl rfl ?_
  refine l_lens (p' := 32) rfl rfl rfl ?_
  refine l_con (p' := 33) rfl rfl rfl ?_
  refine l_bz (p' := 34) (z := (nI 0)) rfl rfl rfl rfl rfl (by decide +kernel) ?_
  refine l_icmp (p' := 37) false rfl rfl (by decide +kernel) rfl ?_
  refine l_alds (p' := 38) rfl rfl rfl rfl ?_
  refine l_ild (p' := 40) rfl rfl rfl rfl ?_
  refine l_ialz (p' := 41) (m := 0) (z := (xs 0)) rfl rfl (by decide +kernel) rfl rfl rfl ?_
  refine l_bip (p' := 43) rfl rfl rfl ?_
  refine l_bz (p' := 44) (z := (nI 45)) rfl rfl rfl rfl rfl hk ?_
  refine l_sp (p' := 2380) (ls' := _) rfl rfl rfl rfl rfl ?_
  refine l_aldn (p' := 2381) rfl rfl rfl rfl ?_
  refine l_alds (p' := 2382) rfl rfl rfl rfl ?_
  refine l_ild (p' := 2384) rfl rfl rfl rfl ?_
  refine l_con (p' := 2385) rfl rfl rfl ?_
  refine l_bz (p' := 2386) (z := (nI 1)) rfl rfl rfl rfl rfl (by decide +kernel) ?_
  refine l_ialz (p' := 2387) (m := 1) (z := p) rfl rfl (by decide +kernel) rfl hx1 rfl ?_
  refine l_aldn (p' := 2388) rfl rfl rfl rfl ?_
  refine l_call (p' := 2391) (kc := 99) (ls0 := [_, _, _, _]) rfl rfl rfl rfl rfl rfl rfl rfl rfl rfl ?_
  refine s_aldn (p' := 1) rfl rfl rfl ?_
  refine s_con (p' := 2) rfl rfl ?_
  refine s_aldn (p' := 3) rfl rfl rfl ?_
  refine s_ildn (p' := 4) rfl rfl rfl ?_
  refine c_call (p' := 7) (kc := 98) (ls0 := [_, _, _]) rfl rfl rfl rfl rfl (mj_rcv_is H0) rfl rfl rfl ?_
  refine s_ildn (p' := 1) rfl rfl rfl ?_
  refine s_con (p' := 2) rfl rfl ?_
  refine s_icmp (p' := 11) true rfl ((cg_lt (w := 1) (by decide +kernel)).trans (decide_eq_true (by omega))) rfl ?_
  refine s_thrz (q := 414) rfl HL rfl ?_
  refine K_c (hp := 12) rfl (mj_ocl_is (rd_nw rfl HL)) rfl ?_
  refine s_astn (p' := 13) (ls' := [_, _, _, _]) rfl rfl rfl rfl ?_
  refine s_con (p' := 14) rfl rfl ?_
  refine k_iret rfl rfl ?_
  refine l_ist (p' := 2393) (ls' := [_, _, _, _, _, _, _, _, _, _]) rfl rfl rfl rfl rfl ?_
  refine l_aldn (p' := 2394) rfl rfl rfl rfl ?_
  refine l_alds (p' := 2395) rfl rfl rfl rfl ?_
  refine l_ild (p' := 2397) rfl rfl rfl rfl ?_
  refine l_con (p' := 2398) rfl rfl rfl ?_
  refine l_bz (p' := 2399) (z := (nI 1)) rfl rfl rfl rfl rfl (by decide +kernel) ?_
  refine l_ialz (p' := 2400) (m := 1) (z := p) rfl rfl (by decide +kernel) rfl hx1 rfl ?_
  refine l_call (p' := 2403) (kc := 99) (ls0 := [_, _, _]) rfl rfl rfl rfl rfl rfl (mj_rcv_is (rd_app H400)) rfl rfl rfl ?_
  refine s_aldn (p' := 1) rfl rfl rfl ?_
  refine s_ildn (p' := 2) rfl rfl rfl ?_
  refine s_con (p' := 3) rfl rfl ?_
  refine s_bip (p' := 5) rfl rfl ?_
  refine c_call (p' := 8) (kc := 98) (ls0 := [_, _, _]) rfl rfl rfl rfl rfl rfl rfl rfl rfl ?_
  refine s_ildn (p' := 1) rfl rfl rfl ?_
  refine s_ildn (p' := 2) rfl rfl rfl ?_
  refine s_icmp (p' := 14) true rfl ((ch_gt (w := 1) (by decide +kernel)).trans (decide_eq_true (by omega))) rfl ?_
  refine s_con (p' := 15) rfl rfl ?_
  refine c_iret rfl (by decide +kernel) ?_
  refine s_if (p' := 15) true rfl (by decide +kernel) rfl ?_
  refine s_con (p' := 16) rfl rfl ?_
  refine c_call (p' := 19) (kc := 98) (ls0 := [_, _]) rfl rfl rfl rfl rfl (mj_rcv_is (rd_app H400)) rfl rfl rfl ?_
  refine s_aldn (p' := 1) rfl rfl rfl ?_
  refine s_ildn (p' := 2) rfl rfl rfl ?_
  refine s_pfz (p' := 5) (fs' := [_, _, _, _, _, _, _, _, _, _, _]) rfl rfl (rd_app H400) rfl rfl rfl rfl ?_
  refine s_ildn (p' := 6) rfl rfl rfl ?_
  refine s_if (p' := 9) false rfl (by decide +kernel) rfl ?_
  refine s_con (p' := 10) rfl rfl ?_
  refine s_goto (p' := 14) rfl rfl ?_
  refine c_iret rfl (by decide +kernel) ?_
  refine s_if (p' := 22) false rfl (by decide +kernel) rfl ?_
  refine s_con (p' := 23) rfl rfl ?_
  refine k_iret rfl rfl ?_
  refine l_ist (p' := 2405) (ls' := [_, _, _, _, _, _, _, _, _, _]) rfl rfl rfl rfl rfl ?_
  refine l_aldn (p' := 2406) rfl rfl rfl rfl ?_
  refine l_call (p' := 2409) (kc := 99) (ls0 := [_]) rfl rfl rfl rfl rfl rfl (mj_rcv_is (rd_ss rfl (rd_app H400))) rfl rfl rfl ?_
  refine s_aldn (p' := 1) rfl rfl rfl ?_
  refine s_gf (p' := 4) rfl (rd_ss rfl (rd_app H400)) rfl rfl ?_
  refine k_iret rfl rfl ?_
  refine l_ild (p' := 2411) rfl rfl rfl rfl ?_
  refine l_icmp (p' := 2416) true rfl rfl (by decide +kernel) rfl ?_
  refine l_ild (p' := 2418) rfl rfl rfl rfl ?_
  refine l_if (p' := 2433) true rfl rfl (by decide +kernel) rfl ?_
  refine l_goto (p' := 2541) rfl rfl rfl ?_
  refine l_incz (p' := 2544) (w := (nI 4)) (ls' := [_, _, _, _, _, _, _, _, _, _]) rfl rfl rfl rfl (by decide +kernel) rfl rfl ?_
  refine l_goto (p' := 28) rfl rfl rfl ?_
  refine l_ild (p' := 30) rfl rfl rfl rfl ?_
  refine l_alds (p' := 31) rfl rfl rfl rfl ?_
  refine l_lens (p' := 32) rfl rfl rfl ?_
  refine l_con (p' := 33) rfl rfl rfl ?_
  refine l_bz (p' := 34) (z := (nI 0)) rfl rfl rfl rfl rfl (by decide +kernel) ?_
  refine l_icmp (p' := 2547) true rfl rfl (by decide +kernel) rfl ?_
  refine l_con (p' := 2548) rfl rfl rfl ?_
  refine l_end rfl rfl ?_
  exact ⟨Nat.le_trans (Nat.le_of_eq (len_s (len_a HL rfl))) (Nat.le_of_ble_eq_true rfl), Nat.le_trans (sz_s rfl (rd_app H400) rfl (sz_aa (k := 6) (m := 20006) rfl rfl HZ)) (Nat.le_of_ble_eq_true rfl)⟩
theorem p1_45_m {xs : Nat → Int32} {h : mj_H} (hk : xs 0 &&& nI 63 = nI 45) {p : Int32} (hx1 : xs 1 = p) (hp : 10 < p.toInt) (HL : h.length = 414) (HZ : mj_sz h ≤ 20000) (H0 : mj_rd h 0 = some (.inr (0, [.ref 1, .ref 38, .ref 299, .ref 336, .ref 373, .ref 375, .ref 378, .ref 381, .ref 387, .ref 393, .null, .null, .ref 397, .ref 398, .ref 399, .long (lN 0), .long (lN 0)]))) (H400 : mj_rd h 400 = some (.inr (17, [.int (nI 0), .ref 401, .ref 402, .ref 1000300, .long (lN 0), .long (lN 0), .ref 410, .null, .null, .null, .ref 411]))) : mj_fin 4 xs h := by
  unfold mj_fin
  refine l_ild (p' := 30) rfl rfl rfl rfl ?_
  refine l_alds (p' := 31) rfl rfl rfl rfl ?_
  refine l_lens (p' := 32) rfl rfl rfl ?_
  refine l_con (p' := 33) rfl rfl rfl ?_
  refine l_bz (p' := 34) (z := (nI 0)) rfl rfl rfl rfl rfl (by decide +kernel) ?_
  refine l_icmp (p' := 37) false rfl rfl (by decide +kernel) rfl ?_
  refine l_alds (p' := 38) rfl rfl rfl rfl ?_
  refine l_ild (p' := 40) rfl rfl rfl rfl ?_
  refine l_ialz (p' := 41) (m := 0) (z := (xs 0)) rfl rfl (by decide +kernel) rfl rfl rfl ?_
  refine l_bip (p' := 43) rfl rfl rfl ?_
  refine l_bz (p' := 44) (z := (nI 45)) rfl rfl rfl rfl rfl hk ?_
  refine l_sp (p' := 2380) (ls' := _) rfl rfl rfl rfl rfl ?_
  refine l_aldn (p' := 2381) rfl rfl rfl rfl ?_
  refine l_alds (p' := 2382) rfl rfl rfl rfl ?_
  refine l_ild (p' := 2384) rfl rfl rfl rfl ?_
  refine l_con (p' := 2385) rfl rfl rfl ?_
  refine l_bz (p' := 2386) (z := (nI 1)) rfl rfl rfl rfl rfl (by decide +kernel) ?_
  refine l_ialz (p' := 2387) (m := 1) (z := p) rfl rfl (by decide +kernel) rfl hx1 rfl ?_
  refine l_aldn (p' := 2388) rfl rfl rfl rfl ?_
  refine l_call (p' := 2391) (kc := 99) (ls0 := [_, _, _, _]) rfl rfl rfl rfl rfl rfl rfl rfl rfl rfl ?_
  refine s_aldn (p' := 1) rfl rfl rfl ?_
  refine s_con (p' := 2) rfl rfl ?_
  refine s_aldn (p' := 3) rfl rfl rfl ?_
  refine s_ildn (p' := 4) rfl rfl rfl ?_
  refine c_call (p' := 7) (kc := 98) (ls0 := [_, _, _]) rfl rfl rfl rfl rfl (mj_rcv_is H0) rfl rfl rfl ?_
  refine s_ildn (p' := 1) rfl rfl rfl ?_
  refine s_con (p' := 2) rfl rfl ?_
  refine s_icmp (p' := 5) false rfl ((cg_lt (w := 1) (by decide +kernel)).trans (decide_eq_false (by omega))) rfl ?_
  refine s_ildn (p' := 6) rfl rfl rfl ?_
  refine s_bip (p' := 8) rfl rfl ?_
  refine s_icmp (p' := 11) false rfl ((cg_le (w := 10) (by decide +kernel)).trans (decide_eq_false (by omega))) rfl ?_
  refine s_thrz (q := 414) rfl HL rfl ?_
  refine K_c (hp := 12) rfl (mj_ocl_is (rd_nw rfl HL)) rfl ?_
  refine s_astn (p' := 13) (ls' := [_, _, _, _]) rfl rfl rfl rfl ?_
  refine s_con (p' := 14) rfl rfl ?_
  refine k_iret rfl rfl ?_
  refine l_ist (p' := 2393) (ls' := [_, _, _, _, _, _, _, _, _, _]) rfl rfl rfl rfl rfl ?_
  refine l_aldn (p' := 2394) rfl rfl rfl rfl ?_
  refine l_alds (p' := 2395) rfl rfl rfl rfl ?_
  refine l_ild (p' := 2397) rfl rfl rfl rfl ?_
  refine l_con (p' := 2398) rfl rfl rfl ?_
  refine l_bz (p' := 2399) (z := (nI 1)) rfl rfl rfl rfl rfl (by decide +kernel) ?_
  refine l_ialz (p' := 2400) (m := 1) (z := p) rfl rfl (by decide +kernel) rfl hx1 rfl ?_
  refine l_call (p' := 2403) (kc := 99) (ls0 := [_, _, _]) rfl rfl rfl rfl rfl rfl (mj_rcv_is (rd_app H400)) rfl rfl rfl ?_
  refine s_aldn (p' := 1) rfl rfl rfl ?_
  refine s_ildn (p' := 2) rfl rfl rfl ?_
  refine s_con (p' := 3) rfl rfl ?_
  refine s_bip (p' := 5) rfl rfl ?_
  refine c_call (p' := 8) (kc := 98) (ls0 := [_, _, _]) rfl rfl rfl rfl rfl rfl rfl rfl rfl ?_
  refine s_ildn (p' := 1) rfl rfl rfl ?_
  refine s_ildn (p' := 2) rfl rfl rfl ?_
  refine s_icmp (p' := 5) false rfl ((ch_gt (w := 1) (by decide +kernel)).trans (decide_eq_false (by omega))) rfl ?_
  refine s_ildn (p' := 6) rfl rfl rfl ?_
  refine s_ildn (p' := 7) rfl rfl rfl ?_
  refine s_icmp (p' := 14) true rfl ((cg_gt (w := 10) (by decide +kernel)).trans (decide_eq_true (by omega))) rfl ?_
  refine s_con (p' := 15) rfl rfl ?_
  refine c_iret rfl (by decide +kernel) ?_
  refine s_if (p' := 15) true rfl (by decide +kernel) rfl ?_
  refine s_con (p' := 16) rfl rfl ?_
  refine c_call (p' := 19) (kc := 98) (ls0 := [_, _]) rfl rfl rfl rfl rfl (mj_rcv_is (rd_app H400)) rfl rfl rfl ?_
  refine s_aldn (p' := 1) rfl rfl rfl ?_
  refine s_ildn (p' := 2) rfl rfl rfl ?_
  refine s_pfz (p' := 5) (fs' := [_, _, _, _, _, _, _, _, _, _, _]) rfl rfl (rd_app H400) rfl rfl rfl rfl ?_
  refine s_ildn (p' := 6) rfl rfl rfl ?_
  refine s_if (p' := 9) false rfl (by decide +kernel) rfl ?_
  refine s_con (p' := 10) rfl rfl ?_
  refine s_goto (p' := 14) rfl rfl ?_
  refine c_iret rfl (by decide +kernel) ?_
  refine s_if (p' := 22) false rfl (by decide +kernel) rfl ?_
  refine s_con (p' := 23) rfl rfl ?_
  refine k_iret rfl rfl ?_
  refine l_ist (p' := 2405) (ls' := [_, _, _, _, _, _, _, _, _, _]) rfl rfl rfl rfl rfl ?_
  refine l_aldn (p' := 2406) rfl rfl rfl rfl ?_
  refine l_call (p' := 2409) (kc := 99) (ls0 := [_]) rfl rfl rfl rfl rfl rfl (mj_rcv_is (rd_ss rfl (rd_app H400))) rfl rfl rfl ?_
  refine s_aldn (p' := 1) rfl rfl rfl ?_
  refine s_gf (p' := 4) rfl (rd_ss rfl (rd_app H400)) rfl rfl ?_
  refine k_iret rfl rfl ?_
  refine l_ild (p' := 2411) rfl rfl rfl rfl ?_
  refine l_icmp (p' := 2416) true rfl rfl (by decide +kernel) rfl ?_
  refine l_ild (p' := 2418) rfl rfl rfl rfl ?_
  refine l_if (p' := 2433) true rfl rfl (by decide +kernel) rfl ?_
  refine l_goto (p' := 2541) rfl rfl rfl ?_
  refine l_incz (p' := 2544) (w := (nI 4)) (ls' := [_, _, _, _, _, _, _, _, _, _]) rfl rfl rfl rfl (by decide +kernel) rfl rfl ?_
  refine l_goto (p' := 28) rfl rfl rfl ?_
  refine l_ild (p' := 30) rfl rfl rfl rfl ?_
  refine l_alds (p' := 31) rfl rfl rfl rfl ?_
  refine l_lens (p' := 32) rfl rfl rfl ?_
  refine l_con (p' := 33) rfl rfl rfl ?_
  refine l_bz (p' := 34) (z := (nI 0)) rfl rfl rfl rfl rfl (by decide +kernel) ?_
  refine l_icmp (p' := 2547) true rfl rfl (by decide +kernel) rfl ?_
  refine l_con (p' := 2548) rfl rfl rfl ?_
  refine l_end rfl rfl ?_
  exact ⟨Nat.le_trans (Nat.le_of_eq (len_s (len_a HL rfl))) (Nat.le_of_ble_eq_true rfl), Nat.le_trans (sz_s rfl (rd_app H400) rfl (sz_aa (k := 6) (m := 20006) rfl rfl HZ)) (Nat.le_of_ble_eq_true rfl)⟩
