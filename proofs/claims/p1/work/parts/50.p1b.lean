/-! One call on fresh objects. -/
theorem p1_40 {xs : Nat → Int32} {h : mj_H} (hk : xs 0 &&& nI 63 = nI 40)   (HL : h.length = 414) (HZ : mj_sz h ≤ 20000) (H0 : mj_rd h 0 = some (.inr (0, [.ref 1, .ref 38, .ref 299, .ref 336, .ref 373, .ref 375, .ref 378, .ref 381, .ref 387, .ref 393, .null, .null, .ref 397, .ref 398, .ref 399, .long (lN 0), .long (lN 0)]))) (H393 : mj_rd h 393 = some (.inr (9, [.ref 394, .ref 395, .ref 396, .int (nI 0), .int (nI 0)]))) (H400 : mj_rd h 400 = some (.inr (17, [.int (nI 0), .ref 401, .ref 402, .ref 1000300, .long (lN 0), .long (lN 0), .ref 410, .null, .null, .null, .ref 411]))) (H410 : mj_rd h 410 = some (.inr (18, [.ref 1000000, .int (nI 0), .int (nI 0)]))) : mj_fin 4 xs h := by
  unfold mj_fin
  refine l_ild (p' := 30) rfl rfl rfl rfl ?_
  refine l_alds (p' := 31) rfl rfl rfl rfl ?_
  refine l_lens (p' := 32) rfl rfl rfl ?_
  refine l_con (p' := 33) rfl rfl rfl ?_
  refine l_bz (p' := 34) (z := (nI 0)) rfl rfl rfl rfl rfl (by decide +kernel) ?_
  refine l_icmp (p' := 37) false rfl rfl (by decide +kernel) rfl ?_
  refine l_alds (p' := 38) rfl rfl rfl rfl ?_
  refine l_ild (p' := 40) rfl rfl rfl rfl ?_
  refine l_ialz (p' := 41) (m := 0) (z := (xs 0)) rfl rfl (by decide +kernel) rfl rfl rfl ?_
  refine l_bip (p' := 43) rfl rfl rfl ?_
  refine l_bz (p' := 44) (z := (nI 40)) rfl rfl rfl rfl rfl hk ?_
  refine l_sp (p' := 2175) (ls' := _) rfl rfl rfl rfl rfl ?_
  refine l_aldn (p' := 2176) rfl rfl rfl rfl ?_
  refine l_call (p' := 2179) (kc := 99) (ls0 := [_, _, _]) rfl rfl rfl rfl rfl rfl (mj_rcv_is H0) rfl rfl rfl ?_
  refine s_con (p' := 1) rfl rfl ?_
  refine s_istn (p' := 2) (ls' := [_, _, _]) rfl rfl rfl rfl ?_
  refine s_con (p' := 3) rfl rfl ?_
  refine s_istn (p' := 4) (ls' := [_, _, _]) rfl rfl rfl rfl ?_
  refine s_ildn (p' := 5) rfl rfl rfl ?_
  refine s_bip (p' := 7) rfl rfl ?_
  refine s_icmp (p' := 10) false rfl (by decide +kernel) rfl ?_
  refine s_ildn (p' := 11) rfl rfl rfl ?_
  refine s_aldn (p' := 12) rfl rfl rfl ?_
  refine s_gf (p' := 15) rfl H0 rfl rfl ?_
  refine s_ildn (p' := 16) rfl rfl rfl ?_
  refine c_call (p' := 19) (kc := 98) (ls0 := [_, _, _, _]) rfl rfl rfl rfl rfl (mj_rcv_is H393) rfl rfl rfl ?_
  refine s_con (p' := 1) rfl rfl ?_
  refine s_istn (p' := 2) (ls' := [_, _, _, _]) rfl rfl rfl rfl ?_
  refine s_aldn (p' := 3) rfl rfl rfl ?_
  refine s_ildn (p' := 4) rfl rfl rfl ?_
  refine c_call (p' := 7) (kc := 97) (ls0 := [_, _, _, _]) rfl rfl rfl rfl rfl (mj_rcv_is H393) rfl rfl rfl ?_
  refine s_ildn (p' := 1) rfl rfl rfl ?_
  refine s_istn (p' := 2) (ls' := [_, _, _, _]) rfl rfl rfl rfl ?_
  refine s_con (p' := 3) rfl rfl ?_
  refine s_istn (p' := 4) (ls' := [_, _, _, _]) rfl rfl rfl rfl ?_
  refine s_ildn (p' := 5) rfl rfl rfl ?_
  refine s_aldn (p' := 6) rfl rfl rfl ?_
  refine s_gf (p' := 9) rfl H393 rfl rfl ?_
  refine s_icmp (p' := 38) true rfl (by decide +kernel) rfl ?_
  refine s_ildn (p' := 39) rfl rfl rfl ?_
  refine c_iret rfl rfl ?_
  refine s_istn (p' := 8) (ls' := [_, _, _, _]) rfl rfl rfl rfl ?_
  refine s_ildn (p' := 9) rfl rfl rfl ?_
  refine s_bip (p' := 11) rfl rfl ?_
  refine s_icmp (p' := 14) false rfl (by decide +kernel) rfl ?_
  refine s_ildn (p' := 15) rfl rfl rfl ?_
  refine s_ildn (p' := 16) rfl rfl rfl ?_
  refine s_icmp (p' := 31) true rfl (by decide +kernel) rfl ?_
  refine s_ildn (p' := 32) rfl rfl rfl ?_
  refine c_iret rfl rfl ?_
  refine c_call (p' := 22) (kc := 98) (ls0 := [_, _, _]) rfl rfl rfl rfl rfl rfl rfl rfl rfl ?_
  refine s_ildn (p' := 1) rfl rfl rfl ?_
  refine s_ildn (p' := 2) rfl rfl rfl ?_
  refine c_call (p' := 5) (kc := 97) (ls0 := [_, _, _, _, _, _]) rfl rfl rfl rfl rfl rfl rfl rfl rfl ?_
  refine s_ildn (p' := 1) rfl rfl rfl ?_
  refine s_istn (p' := 2) (ls' := [_, _, _, _, _, _]) rfl rfl rfl rfl ?_
  refine s_ildn (p' := 3) rfl rfl rfl ?_
  refine s_istn (p' := 4) (ls' := [_, _, _, _, _, _]) rfl rfl rfl rfl ?_
  refine s_con (p' := 5) rfl rfl ?_
  refine s_ist (p' := 7) (ls' := [_, _, _, _, _, _]) rfl rfl rfl rfl ?_
  refine s_ild (p' := 9) rfl rfl rfl ?_
  refine s_bip (p' := 11) rfl rfl ?_
  refine s_icmp (p' := 14) false rfl (by decide +kernel) rfl ?_
  refine s_ildn (p' := 15) rfl rfl rfl ?_
  refine s_if (p' := 18) false rfl (by decide +kernel) rfl ?_
  refine s_ildn (p' := 19) rfl rfl rfl ?_
  refine s_ildn (p' := 20) rfl rfl rfl ?_
  refine s_bz (p' := 21) (z := (nI 0)) rfl rfl rfl (by decide +kernel) ?_
  refine s_ist (p' := 23) (ls' := [_, _, _, _, _, _]) rfl rfl rfl rfl ?_
  refine s_ildn (p' := 24) rfl rfl rfl ?_
  refine s_istn (p' := 25) (ls' := [_, _, _, _, _, _]) rfl rfl rfl rfl ?_
  refine s_ild (p' := 27) rfl rfl rfl ?_
  refine s_istn (p' := 28) (ls' := [_, _, _, _, _, _]) rfl rfl rfl rfl ?_
  refine s_incz (p' := 31) (w := (nI 1)) (ls' := [_, _, _, _, _, _]) rfl rfl rfl (by decide +kernel) rfl rfl ?_
  refine s_goto (p' := 7) rfl rfl ?_
  refine s_ild (p' := 9) rfl rfl rfl ?_
  refine s_bip (p' := 11) rfl rfl ?_
  refine s_icmp (p' := 14) false rfl (by decide +kernel) rfl ?_
  refine s_ildn (p' := 15) rfl rfl rfl ?_
  refine s_if (p' := 34) true rfl (by decide +kernel) rfl ?_
  refine s_ildn (p' := 35) rfl rfl rfl ?_
  refine c_iret rfl rfl ?_
  refine s_istn (p' := 6) (ls' := [_, _, _]) rfl rfl rfl rfl ?_
  refine s_ildn (p' := 7) rfl rfl rfl ?_
  refine s_con (p' := 8) rfl rfl ?_
  refine s_icmp (p' := 15) true rfl (by decide +kernel) rfl ?_
  refine s_ildn (p' := 16) rfl rfl rfl ?_
  refine s_ildn (p' := 17) rfl rfl rfl ?_
  refine s_bz (p' := 18) (z := (nI 1)) rfl rfl rfl (by decide +kernel) ?_
  refine s_ildn (p' := 19) rfl rfl rfl ?_
  refine s_bz (p' := 20) (z := (nI 1)) rfl rfl rfl (by decide +kernel) ?_
  refine c_iret rfl rfl ?_
  refine s_istn (p' := 23) (ls' := [_, _, _]) rfl rfl rfl rfl ?_
  refine s_incz (p' := 26) (w := (nI 1)) (ls' := [_, _, _]) rfl rfl rfl (by decide +kernel) rfl rfl ?_
  refine s_goto (p' := 4) rfl rfl ?_
  refine s_ildn (p' := 5) rfl rfl rfl ?_
  refine s_bip (p' := 7) rfl rfl ?_
  refine s_icmp (p' := 10) false rfl (by decide +kernel) rfl ?_
  refine s_ildn (p' := 11) rfl rfl rfl ?_
  refine s_aldn (p' := 12) rfl rfl rfl ?_
  refine s_gf (p' := 15) rfl H0 rfl rfl ?_
  refine s_ildn (p' := 16) rfl rfl rfl ?_
  refine c_call (p' := 19) (kc := 98) (ls0 := [_, _, _, _]) rfl rfl rfl rfl rfl (mj_rcv_is H393) rfl rfl rfl ?_
  refine s_con (p' := 1) rfl rfl ?_
  refine s_istn (p' := 2) (ls' := [_, _, _, _]) rfl rfl rfl rfl ?_
  refine s_aldn (p' := 3) rfl rfl rfl ?_
  refine s_ildn (p' := 4) rfl rfl rfl ?_
  refine c_call (p' := 7) (kc := 97) (ls0 := [_, _, _, _]) rfl rfl rfl rfl rfl (mj_rcv_is H393) rfl rfl rfl ?_
  refine s_ildn (p' := 1) rfl rfl rfl ?_
  refine s_istn (p' := 2) (ls' := [_, _, _, _]) rfl rfl rfl rfl ?_
  refine s_con (p' := 3) rfl rfl ?_
  refine s_istn (p' := 4) (ls' := [_, _, _, _]) rfl rfl rfl rfl ?_
  refine s_ildn (p' := 5) rfl rfl rfl ?_
  refine s_aldn (p' := 6) rfl rfl rfl ?_
  refine s_gf (p' := 9) rfl H393 rfl rfl ?_
  refine s_icmp (p' := 38) true rfl (by decide +kernel) rfl ?_
  refine s_ildn (p' := 39) rfl rfl rfl ?_
  refine c_iret rfl rfl ?_
  refine s_istn (p' := 8) (ls' := [_, _, _, _]) rfl rfl rfl rfl ?_
  refine s_ildn (p' := 9) rfl rfl rfl ?_
  refine s_bip (p' := 11) rfl rfl ?_
  refine s_icmp (p' := 14) false rfl (by decide +kernel) rfl ?_
  refine s_ildn (p' := 15) rfl rfl rfl ?_
  refine s_ildn (p' := 16) rfl rfl rfl ?_
  refine s_icmp (p' := 31) true rfl (by decide +kernel) rfl ?_
  refine s_ildn (p' := 32) rfl rfl rfl ?_
  refine c_iret rfl rfl ?_
  refine c_call (p' := 22) (kc := 98) (ls0 := [_, _, _]) rfl rfl rfl rfl rfl rfl rfl rfl rfl ?_
  refine s_ildn (p' := 1) rfl rfl rfl ?_
  refine s_ildn (p' := 2) rfl rfl rfl ?_
  refine c_call (p' := 5) (kc := 97) (ls0 := [_, _, _, _, _, _]) rfl rfl rfl rfl rfl rfl rfl rfl rfl ?_
  refine s_ildn (p' := 1) rfl rfl rfl ?_
  refine s_istn (p' := 2) (ls' := [_, _, _, _, _, _]) rfl rfl rfl rfl ?_
  refine s_ildn (p' := 3) rfl rfl rfl ?_
  refine s_istn (p' := 4) (ls' := [_, _, _, _, _, _]) rfl rfl rfl rfl ?_
  refine s_con (p' := 5) rfl rfl ?_
  refine s_ist (p' := 7) (ls' := [_, _, _, _, _, _]) rfl rfl rfl rfl ?_
  refine s_ild (p' := 9) rfl rfl rfl ?_
  refine s_bip (p' := 11) rfl rfl ?_
  refine s_icmp (p' := 14) false rfl (by decide +kernel) rfl ?_
  refine s_ildn (p' := 15) rfl rfl rfl ?_
  refine s_if (p' := 18) false rfl (by decide +kernel) rfl ?_
  refine s_ildn (p' := 19) rfl rfl rfl ?_
  refine s_ildn (p' := 20) rfl rfl rfl ?_
  refine s_bz (p' := 21) (z := (nI 0)) rfl rfl rfl (by decide +kernel) ?_
  refine s_ist (p' := 23) (ls' := [_, _, _, _, _, _]) rfl rfl rfl rfl ?_
  refine s_ildn (p' := 24) rfl rfl rfl ?_
  refine s_istn (p' := 25) (ls' := [_, _, _, _, _, _]) rfl rfl rfl rfl ?_
  refine s_ild (p' := 27) rfl rfl rfl ?_
  refine s_istn (p' := 28) (ls' := [_, _, _, _, _, _]) rfl rfl rfl rfl ?_
  refine s_incz (p' := 31) (w := (nI 1)) (ls' := [_, _, _, _, _, _]) rfl rfl rfl (by decide +kernel) rfl rfl ?_
  refine s_goto (p' := 7) rfl rfl ?_
  refine s_ild (p' := 9) rfl rfl rfl ?_
  refine s_bip (p' := 11) rfl rfl ?_
  refine s_icmp (p' := 14) false rfl (by decide +kernel) rfl ?_
  refine s_ildn (p' := 15) rfl rfl rfl ?_
  refine s_if (p' := 34) true rfl (by decide +kernel) rfl ?_
  refine s_ildn (p' := 35) rfl rfl rfl ?_
  refine c_iret rfl rfl ?_
  refine s_istn (p' := 6) (ls' := [_, _, _]) rfl rfl rfl rfl ?_
  refine s_ildn (p' := 7) rfl rfl rfl ?_
  refine s_con (p' := 8) rfl rfl ?_
  refine s_icmp (p' := 15) true rfl (by decide +kernel) rfl ?_
  refine s_ildn (p' := 16) rfl rfl rfl ?_
  refine s_ildn (p' := 17) rfl rfl rfl ?_
  refine s_bz (p' := 18) (z := (nI 1)) rfl rfl rfl (by decide +kernel) ?_
  refine s_ildn (p' := 19) rfl rfl rfl ?_
  refine s_bz (p' := 20) (z := (nI 1)) rfl rfl rfl (by decide +kernel) ?_
  refine c_iret rfl rfl ?_
  refine s_istn (p' := 23) (ls' := [_, _, _]) rfl rfl rfl rfl ?_
  refine s_incz (p' := 26) (w := (nI 2)) (ls' := [_, _, _]) rfl rfl rfl (by decide +kernel) rfl rfl ?_
  refine s_goto (p' := 4) rfl rfl ?_
  refine s_ildn (p' := 5) rfl rfl rfl ?_
  refine s_bip (p' := 7) rfl rfl ?_
  refine s_icmp (p' := 10) false rfl (by decide +kernel) rfl ?_
  refine s_ildn (p' := 11) rfl rfl rfl ?_
  refine s_aldn (p' := 12) rfl rfl rfl ?_
  refine s_gf (p' := 15) rfl H0 rfl rfl ?_
  refine s_ildn (p' := 16) rfl rfl rfl ?_
  refine c_call (p' := 19) (kc := 98) (ls0 := [_, _, _, _]) rfl rfl rfl rfl rfl (mj_rcv_is H393) rfl rfl rfl ?_
  refine s_con (p' := 1) rfl rfl ?_
  refine s_istn (p' := 2) (ls' := [_, _, _, _]) rfl rfl rfl rfl ?_
  refine s_aldn (p' := 3) rfl rfl rfl ?_
  refine s_ildn (p' := 4) rfl rfl rfl ?_
  refine c_call (p' := 7) (kc := 97) (ls0 := [_, _, _, _]) rfl rfl rfl rfl rfl (mj_rcv_is H393) rfl rfl rfl ?_
  refine s_ildn (p' := 1) rfl rfl rfl ?_
  refine s_istn (p' := 2) (ls' := [_, _, _, _]) rfl rfl rfl rfl ?_
  refine s_con (p' := 3) rfl rfl ?_
  refine s_istn (p' := 4) (ls' := [_, _, _, _]) rfl rfl rfl rfl ?_
  refine s_ildn (p' := 5) rfl rfl rfl ?_
  refine s_aldn (p' := 6) rfl rfl rfl ?_
  refine s_gf (p' := 9) rfl H393 rfl rfl ?_
  refine s_icmp (p' := 38) true rfl (by decide +kernel) rfl ?_
  refine s_ildn (p' := 39) rfl rfl rfl ?_
  refine c_iret rfl rfl ?_
  refine s_istn (p' := 8) (ls' := [_, _, _, _]) rfl rfl rfl rfl ?_
  refine s_ildn (p' := 9) rfl rfl rfl ?_
  refine s_bip (p' := 11) rfl rfl ?_
  refine s_icmp (p' := 14) false rfl (by decide +kernel) rfl ?_
  refine s_ildn (p' := 15) rfl rfl rfl ?_
  refine s_ildn (p' := 16) rfl rfl rfl ?_
  refine s_icmp (p' := 31) true rfl (by decide +kernel) rfl ?_
  refine s_ildn (p' := 32) rfl rfl rfl ?_
  refine c_iret rfl rfl ?_
  refine c_call (p' := 22) (kc := 98) (ls0 := [_, _, _]) rfl rfl rfl rfl rfl rfl rfl rfl rfl ?_
  refine s_ildn (p' := 1) rfl rfl rfl ?_
  refine s_ildn (p' := 2) rfl rfl rfl ?_
  refine c_call (p' := 5) (kc := 97) (ls0 := [_, _, _, _, _, _]) rfl rfl rfl rfl rfl rfl rfl rfl rfl ?_
  refine s_ildn (p' := 1) rfl rfl rfl ?_
  refine s_istn (p' := 2) (ls' := [_, _, _, _, _, _]) rfl rfl rfl rfl ?_
  refine s_ildn (p' := 3) rfl rfl rfl ?_
  refine s_istn (p' := 4) (ls' := [_, _, _, _, _, _]) rfl rfl rfl rfl ?_
  refine s_con (p' := 5) rfl rfl ?_
  refine s_ist (p' := 7) (ls' := [_, _, _, _, _, _]) rfl rfl rfl rfl ?_
  refine s_ild (p' := 9) rfl rfl rfl ?_
  refine s_bip (p' := 11) rfl rfl ?_
  refine s_icmp (p' := 14) false rfl (by decide +kernel) rfl ?_
  refine s_ildn (p' := 15) rfl rfl rfl ?_
  refine s_if (p' := 18) false rfl (by decide +kernel) rfl ?_
  refine s_ildn (p' := 19) rfl rfl rfl ?_
  refine s_ildn (p' := 20) rfl rfl rfl ?_
  refine s_bz (p' := 21) (z := (nI 0)) rfl rfl rfl (by decide +kernel) ?_
  refine s_ist (p' := 23) (ls' := [_, _, _, _, _, _]) rfl rfl rfl rfl ?_
  refine s_ildn (p' := 24) rfl rfl rfl ?_
  refine s_istn (p' := 25) (ls' := [_, _, _, _, _, _]) rfl rfl rfl rfl ?_
  refine s_ild (p' := 27) rfl rfl rfl ?_
  refine s_istn (p' := 28) (ls' := [_, _, _, _, _, _]) rfl rfl rfl rfl ?_
  refine s_incz (p' := 31) (w := (nI 1)) (ls' := [_, _, _, _, _, _]) rfl rfl rfl (by decide +kernel) rfl rfl ?_
  refine s_goto (p' := 7) rfl rfl ?_
  refine s_ild (p' := 9) rfl rfl rfl ?_
  refine s_bip (p' := 11) rfl rfl ?_
  refine s_icmp (p' := 14) false rfl (by decide +kernel) rfl ?_
  refine s_ildn (p' := 15) rfl rfl rfl ?_
  refine s_if (p' := 34) true rfl (by decide +kernel) rfl ?_
  refine s_ildn (p' := 35) rfl rfl rfl ?_
  refine c_iret rfl rfl ?_
  refine s_istn (p' := 6) (ls' := [_, _, _]) rfl rfl rfl rfl ?_
  refine s_ildn (p' := 7) rfl rfl rfl ?_
  refine s_con (p' := 8) rfl rfl ?_
  refine s_icmp (p' := 15) true rfl (by decide +kernel) rfl ?_
  refine s_ildn (p' := 16) rfl rfl rfl ?_
  refine s_ildn (p' := 17) rfl rfl rfl ?_
  refine s_bz (p' := 18) (z := (nI 1)) rfl rfl rfl (by decide +kernel) ?_
  refine s_ildn (p' := 19) rfl rfl rfl ?_
  refine s_bz (p' := 20) (z := (nI 1)) rfl rfl rfl (by decide +kernel) ?_
  refine c_iret rfl rfl ?_
  refine s_istn (p' := 23) (ls' := [_, _, _]) rfl rfl rfl rfl ?_
  refine s_incz (p' := 26) (w := (nI 3)) (ls' := [_, _, _]) rfl rfl rfl (by decide +kernel) rfl rfl ?_
  refine s_goto (p' := 4) rfl rfl ?_
  refine s_ildn (p' := 5) rfl rfl rfl ?_
  refine s_bip (p' := 7) rfl rfl ?_
  refine s_icmp (p' := 10) false rfl (by decide +kernel) rfl ?_
  refine s_ildn (p' := 11) rfl rfl rfl ?_
  refine s_aldn (p' := 12) rfl rfl rfl ?_
  refine s_gf (p' := 15) rfl H0 rfl rfl ?_
  refine s_ildn (p' := 16) rfl rfl rfl ?_
  refine c_call (p' := 19) (kc := 98) (ls0 := [_, _, _, _]) rfl rfl rfl rfl rfl (mj_rcv_is H393) rfl rfl rfl ?_
  refine s_con (p' := 1) rfl rfl ?_
  refine s_istn (p' := 2) (ls' := [_, _, _, _]) rfl rfl rfl rfl ?_
  refine s_aldn (p' := 3) rfl rfl rfl ?_
  refine s_ildn (p' := 4) rfl rfl rfl ?_
  refine c_call (p' := 7) (kc := 97) (ls0 := [_, _, _, _]) rfl rfl rfl rfl rfl (mj_rcv_is H393) rfl rfl rfl ?_
  refine s_ildn (p' := 1) rfl rfl rfl ?_
  refine s_istn (p' := 2) (ls' := [_, _, _, _]) rfl rfl rfl rfl ?_
  refine s_con (p' := 3) rfl rfl ?_
  refine s_istn (p' := 4) (ls' := [_, _, _, _]) rfl rfl rfl rfl ?_
  refine s_ildn (p' := 5) rfl rfl rfl ?_
  refine s_aldn (p' := 6) rfl rfl rfl ?_
  refine s_gf (p' := 9) rfl H393 rfl rfl ?_
  refine s_icmp (p' := 38) true rfl (by decide +kernel) rfl ?_
  refine s_ildn (p' := 39) rfl rfl rfl ?_
  refine c_iret rfl rfl ?_
  refine s_istn (p' := 8) (ls' := [_, _, _, _]) rfl rfl rfl rfl ?_
  refine s_ildn (p' := 9) rfl rfl rfl ?_
  refine s_bip (p' := 11) rfl rfl ?_
  refine s_icmp (p' := 14) false rfl (by decide +kernel) rfl ?_
  refine s_ildn (p' := 15) rfl rfl rfl ?_
  refine s_ildn (p' := 16) rfl rfl rfl ?_
  refine s_icmp (p' := 31) true rfl (by decide +kernel) rfl ?_
  refine s_ildn (p' := 32) rfl rfl rfl ?_
  refine c_iret rfl rfl ?_
  refine c_call (p' := 22) (kc := 98) (ls0 := [_, _, _]) rfl rfl rfl rfl rfl rfl rfl rfl rfl ?_
  refine s_ildn (p' := 1) rfl rfl rfl ?_
  refine s_ildn (p' := 2) rfl rfl rfl ?_
  refine c_call (p' := 5) (kc := 97) (ls0 := [_, _, _, _, _, _]) rfl rfl rfl rfl rfl rfl rfl rfl rfl ?_
  refine s_ildn (p' := 1) rfl rfl rfl ?_
  refine s_istn (p' := 2) (ls' := [_, _, _, _, _, _]) rfl rfl rfl rfl ?_
  refine s_ildn (p' := 3) rfl rfl rfl ?_
  refine s_istn (p' := 4) (ls' := [_, _, _, _, _, _]) rfl rfl rfl rfl ?_
  refine s_con (p' := 5) rfl rfl ?_
  refine s_ist (p' := 7) (ls' := [_, _, _, _, _, _]) rfl rfl rfl rfl ?_
  refine s_ild (p' := 9) rfl rfl rfl ?_
  refine s_bip (p' := 11) rfl rfl ?_
  refine s_icmp (p' := 14) false rfl (by decide +kernel) rfl ?_
  refine s_ildn (p' := 15) rfl rfl rfl ?_
  refine s_if (p' := 18) false rfl (by decide +kernel) rfl ?_
  refine s_ildn (p' := 19) rfl rfl rfl ?_
  refine s_ildn (p' := 20) rfl rfl rfl ?_
  refine s_bz (p' := 21) (z := (nI 0)) rfl rfl rfl (by decide +kernel) ?_
  refine s_ist (p' := 23) (ls' := [_, _, _, _, _, _]) rfl rfl rfl rfl ?_
  refine s_ildn (p' := 24) rfl rfl rfl ?_
  refine s_istn (p' := 25) (ls' := [_, _, _, _, _, _]) rfl rfl rfl rfl ?_
  refine s_ild (p' := 27) rfl rfl rfl ?_
  refine s_istn (p' := 28) (ls' := [_, _, _, _, _, _]) rfl rfl rfl rfl ?_
  refine s_incz (p' := 31) (w := (nI 1)) (ls' := [_, _, _, _, _, _]) rfl rfl rfl (by decide +kernel) rfl rfl ?_
  refine s_goto (p' := 7) rfl rfl ?_
  refine s_ild (p' := 9) rfl rfl rfl ?_
  refine s_bip (p' := 11) rfl rfl ?_
  refine s_icmp (p' := 14) false rfl (by decide +kernel) rfl ?_
  refine s_ildn (p' := 15) rfl rfl rfl ?_
  refine s_if (p' := 34) true rfl (by decide +kernel) rfl ?_
  refine s_ildn (p' := 35) rfl rfl rfl ?_
  refine c_iret rfl rfl ?_
  refine s_istn (p' := 6) (ls' := [_, _, _]) rfl rfl rfl rfl ?_
  refine s_ildn (p' := 7) rfl rfl rfl ?_
  refine s_con (p' := 8) rfl rfl ?_
  refine s_icmp (p' := 15) true rfl (by decide +kernel) rfl ?_
  refine s_ildn (p' := 16) rfl rfl rfl ?_
  refine s_ildn (p' := 17) rfl rfl rfl ?_
  refine s_bz (p' := 18) (z := (nI 1)) rfl rfl rfl (by decide +kernel) ?_
  refine s_ildn (p' := 19) rfl rfl rfl ?_
  refine s_bz (p' := 20) (z := (nI 1)) rfl rfl rfl (by decide +kernel) ?_
  refine c_iret rfl rfl ?_
  refine s_istn (p' := 23) (ls' := [_, _, _]) rfl rfl rfl rfl ?_
  refine s_incz (p' := 26) (w := (nI 4)) (ls' := [_, _, _]) rfl rfl rfl (by decide +kernel) rfl rfl ?_
  refine s_goto (p' := 4) rfl rfl ?_
  refine s_ildn (p' := 5) rfl rfl rfl ?_
  refine s_bip (p' := 7) rfl rfl ?_
  refine s_icmp (p' := 10) false rfl (by decide +kernel) rfl ?_
  refine s_ildn (p' := 11) rfl rfl rfl ?_
  refine s_aldn (p' := 12) rfl rfl rfl ?_
  refine s_gf (p' := 15) rfl H0 rfl rfl ?_
  refine s_ildn (p' := 16) rfl rfl rfl ?_
  refine c_call (p' := 19) (kc := 98) (ls0 := [_, _, _, _]) rfl rfl rfl rfl rfl (mj_rcv_is H393) rfl rfl rfl ?_
  refine s_con (p' := 1) rfl rfl ?_
  refine s_istn (p' := 2) (ls' := [_, _, _, _]) rfl rfl rfl rfl ?_
  refine s_aldn (p' := 3) rfl rfl rfl ?_
  refine s_ildn (p' := 4) rfl rfl rfl ?_
  refine c_call (p' := 7) (kc := 97) (ls0 := [_, _, _, _]) rfl rfl rfl rfl rfl (mj_rcv_is H393) rfl rfl rfl ?_
  refine s_ildn (p' := 1) rfl rfl rfl ?_
  refine s_istn (p' := 2) (ls' := [_, _, _, _]) rfl rfl rfl rfl ?_
  refine s_con (p' := 3) rfl rfl ?_
  refine s_istn (p' := 4) (ls' := [_, _, _, _]) rfl rfl rfl rfl ?_
  refine s_ildn (p' := 5) rfl rfl rfl ?_
  refine s_aldn (p' := 6) rfl rfl rfl ?_
  refine s_gf (p' := 9) rfl H393 rfl rfl ?_
  refine s_icmp (p' := 38) true rfl (by decide +kernel) rfl ?_
  refine s_ildn (p' := 39) rfl rfl rfl ?_
  refine c_iret rfl rfl ?_
  refine s_istn (p' := 8) (ls' := [_, _, _, _]) rfl rfl rfl rfl ?_
  refine s_ildn (p' := 9) rfl rfl rfl ?_
  refine s_bip (p' := 11) rfl rfl ?_
  refine s_icmp (p' := 14) false rfl (by decide +kernel) rfl ?_
  refine s_ildn (p' := 15) rfl rfl rfl ?_
  refine s_ildn (p' := 16) rfl rfl rfl ?_
  refine s_icmp (p' := 31) true rfl (by decide +kernel) rfl ?_
  refine s_ildn (p' := 32) rfl rfl rfl ?_
  refine c_iret rfl rfl ?_
  refine c_call (p' := 22) (kc := 98) (ls0 := [_, _, _]) rfl rfl rfl rfl rfl rfl rfl rfl rfl ?_
  refine s_ildn (p' := 1) rfl rfl rfl ?_
  refine s_ildn (p' := 2) rfl rfl rfl ?_
  refine c_call (p' := 5) (kc := 97) (ls0 := [_, _, _, _, _, _]) rfl rfl rfl rfl rfl rfl rfl rfl rfl ?_
  refine s_ildn (p' := 1) rfl rfl rfl ?_
  refine s_istn (p' := 2) (ls' := [_, _, _, _, _, _]) rfl rfl rfl rfl ?_
  refine s_ildn (p' := 3) rfl rfl rfl ?_
  refine s_istn (p' := 4) (ls' := [_, _, _, _, _, _]) rfl rfl rfl rfl ?_
  refine s_con (p' := 5) rfl rfl ?_
  refine s_ist (p' := 7) (ls' := [_, _, _, _, _, _]) rfl rfl rfl rfl ?_
  refine s_ild (p' := 9) rfl rfl rfl ?_
  refine s_bip (p' := 11) rfl rfl ?_
  refine s_icmp (p' := 14) false rfl (by decide +kernel) rfl ?_
  refine s_ildn (p' := 15) rfl rfl rfl ?_
  refine s_if (p' := 18) false rfl (by decide +kernel) rfl ?_
  refine s_ildn (p' := 19) rfl rfl rfl ?_
  refine s_ildn (p' := 20) rfl rfl rfl ?_
  refine s_bz (p' := 21) (z := (nI 0)) rfl rfl rfl (by decide +kernel) ?_
  refine s_ist (p' := 23) (ls' := [_, _, _, _, _, _]) rfl rfl rfl rfl ?_
  refine s_ildn (p' := 24) rfl rfl rfl ?_
  refine s_istn (p' := 25) (ls' := [_, _, _, _, _, _]) rfl rfl rfl rfl ?_
  refine s_ild (p' := 27) rfl rfl rfl ?_
  refine s_istn (p' := 28) (ls' := [_, _, _, _, _, _]) rfl rfl rfl rfl ?_
  refine s_incz (p' := 31) (w := (nI 1)) (ls' := [_, _, _, _, _, _]) rfl rfl rfl (by decide +kernel) rfl rfl ?_
  refine s_goto (p' := 7) rfl rfl ?_
  refine s_ild (p' := 9) rfl rfl rfl ?_
  refine s_bip (p' := 11) rfl rfl ?_
  refine s_icmp (p' := 14) false rfl (by decide +kernel) rfl ?_
  refine s_ildn (p' := 15) rfl rfl rfl ?_
  refine s_if (p' := 34) true rfl (by decide +kernel) rfl ?_
  refine s_ildn (p' := 35) rfl rfl rfl ?_
  refine c_iret rfl rfl ?_
  refine s_istn (p' := 6) (ls' := [_, _, _]) rfl rfl rfl rfl ?_
  refine s_ildn (p' := 7) rfl rfl rfl ?_
  refine s_con (p' := 8) rfl rfl ?_
  refine s_icmp (p' := 15) true rfl (by decide +kernel) rfl ?_
  refine s_ildn (p' := 16) rfl rfl rfl ?_
  refine s_ildn (p' := 17) rfl rfl rfl ?_
  refine s_bz (p' := 18) (z := (nI 1)) rfl rfl rfl (by decide +kernel) ?_
  refine s_ildn (p' := 19) rfl rfl rfl ?_
  refine s_bz (p' := 20) (z := (nI 1)) rfl rfl rfl (by decide +kernel) ?_
  refine c_iret rfl rfl ?_
  refine s_istn (p' := 23) (ls' := [_, _, _]) rfl rfl rfl rfl ?_
  refine s_incz (p' := 26) (w := (nI 5)) (ls' := [_, _, _]) rfl rfl rfl (by decide +kernel) rfl rfl ?_
  refine s_goto (p' := 4) rfl rfl ?_
  refine s_ildn (p' := 5) rfl rfl rfl ?_
  refine s_bip (p' := 7) rfl rfl ?_
  refine s_icmp (p' := 10) false rfl (by decide +kernel) rfl ?_
  refine s_ildn (p' := 11) rfl rfl rfl ?_
  refine s_aldn (p' := 12) rfl rfl rfl ?_
  refine s_gf (p' := 15) rfl H0 rfl rfl ?_
  refine s_ildn (p' := 16) rfl rfl rfl ?_
  refine c_call (p' := 19) (kc := 98) (ls0 := [_, _, _, _]) rfl rfl rfl rfl rfl (mj_rcv_is H393) rfl rfl rfl ?_
  refine s_con (p' := 1) rfl rfl ?_
  refine s_istn (p' := 2) (ls' := [_, _, _, _]) rfl rfl rfl rfl ?_
  refine s_aldn (p' := 3) rfl rfl rfl ?_
  refine s_ildn (p' := 4) rfl rfl rfl ?_
  refine c_call (p' := 7) (kc := 97) (ls0 := [_, _, _, _]) rfl rfl rfl rfl rfl (mj_rcv_is H393) rfl rfl rfl ?_
  refine s_ildn (p' := 1) rfl rfl rfl ?_
  refine s_istn (p' := 2) (ls' := [_, _, _, _]) rfl rfl rfl rfl ?_
  refine s_con (p' := 3) rfl rfl ?_
  refine s_istn (p' := 4) (ls' := [_, _, _, _]) rfl rfl rfl rfl ?_
  refine s_ildn (p' := 5) rfl rfl rfl ?_
  refine s_aldn (p' := 6) rfl rfl rfl ?_
  refine s_gf (p' := 9) rfl H393 rfl rfl ?_
  refine s_icmp (p' := 38) true rfl (by decide +kernel) rfl ?_
  refine s_ildn (p' := 39) rfl rfl rfl ?_
  refine c_iret rfl rfl ?_
  refine s_istn (p' := 8) (ls' := [_, _, _, _]) rfl rfl rfl rfl ?_
  refine s_ildn (p' := 9) rfl rfl rfl ?_
  refine s_bip (p' := 11) rfl rfl ?_
  refine s_icmp (p' := 14) false rfl (by decide +kernel) rfl ?_
  refine s_ildn (p' := 15) rfl rfl rfl ?_
  refine s_ildn (p' := 16) rfl rfl rfl ?_
  refine s_icmp (p' := 31) true rfl (by decide +kernel) rfl ?_
  refine s_ildn (p' := 32) rfl rfl rfl ?_
  refine c_iret rfl rfl ?_
  refine c_call (p' := 22) (kc := 98) (ls0 := [_, _, _]) rfl rfl rfl rfl rfl rfl rfl rfl rfl ?_
  refine s_ildn (p' := 1) rfl rfl rfl ?_
  refine s_ildn (p' := 2) rfl rfl rfl ?_
  refine c_call (p' := 5) (kc := 97) (ls0 := [_, _, _, _, _, _]) rfl rfl rfl rfl rfl rfl rfl rfl rfl ?_
  refine s_ildn (p' := 1) rfl rfl rfl ?_
  refine s_istn (p' := 2) (ls' := [_, _, _, _, _, _]) rfl rfl rfl rfl ?_
  refine s_ildn (p' := 3) rfl rfl rfl ?_
  refine s_istn (p' := 4) (ls' := [_, _, _, _, _, _]) rfl rfl rfl rfl ?_
  refine s_con (p' := 5) rfl rfl ?_
  refine s_ist (p' := 7) (ls' := [_, _, _, _, _, _]) rfl rfl rfl rfl ?_
  refine s_ild (p' := 9) rfl rfl rfl ?_
  refine s_bip (p' := 11) rfl rfl ?_
  refine s_icmp (p' := 14) false rfl (by decide +kernel) rfl ?_
  refine s_ildn (p' := 15) rfl rfl rfl ?_
  refine s_if (p' := 18) false rfl (by decide +kernel) rfl ?_
  refine s_ildn (p' := 19) rfl rfl rfl ?_
  refine s_ildn (p' := 20) rfl rfl rfl ?_
  refine s_bz (p' := 21) (z := (nI 0)) rfl rfl rfl (by decide +kernel) ?_
  refine s_ist (p' := 23) (ls' := [_, _, _, _, _, _]) rfl rfl rfl rfl ?_
  refine s_ildn (p' := 24) rfl rfl rfl ?_
  refine s_istn (p' := 25) (ls' := [_, _, _, _, _, _]) rfl rfl rfl rfl ?_
  refine s_ild (p' := 27) rfl rfl rfl ?_
  refine s_istn (p' := 28) (ls' := [_, _, _, _, _, _]) rfl rfl rfl rfl ?_
  refine s_incz (p' := 31) (w := (nI 1)) (ls' := [_, _, _, _, _, _]) rfl rfl rfl (by decide +kernel) rfl rfl ?_
  refine s_goto (p' := 7) rfl rfl ?_
  refine s_ild (p' := 9) rfl rfl rfl ?_
  refine s_bip (p' := 11) rfl rfl ?_
  refine s_icmp (p' := 14) false rfl (by decide +kernel) rfl ?_
  refine s_ildn (p' := 15) rfl rfl rfl ?_
  refine s_if (p' := 34) true rfl (by decide +kernel) rfl ?_
  refine s_ildn (p' := 35) rfl rfl rfl ?_
  refine c_iret rfl rfl ?_
  refine s_istn (p' := 6) (ls' := [_, _, _]) rfl rfl rfl rfl ?_
  refine s_ildn (p' := 7) rfl rfl rfl ?_
  refine s_con (p' := 8) rfl rfl ?_
  refine s_icmp (p' := 15) true rfl (by decide +kernel) rfl ?_
  refine s_ildn (p' := 16) rfl rfl rfl ?_
  refine s_ildn (p' := 17) rfl rfl rfl ?_
  refine s_bz (p' := 18) (z := (nI 1)) rfl rfl rfl (by decide +kernel) ?_
  refine s_ildn (p' := 19) rfl rfl rfl ?_
  refine s_bz (p' := 20) (z := (nI 1)) rfl rfl rfl (by decide +kernel) ?_
  refine c_iret rfl rfl ?_
  refine s_istn (p' := 23) (ls' := [_, _, _]) rfl rfl rfl rfl ?_
  refine s_incz (p' := 26) (w := (nI 6)) (ls' := [_, _, _]) rfl rfl rfl (by decide +kernel) rfl rfl ?_
  refine s_goto (p' := 4) rfl rfl ?_
  refine s_ildn (p' := 5) rfl rfl rfl ?_
  refine s_bip (p' := 7) rfl rfl ?_
  refine s_icmp (p' := 10) false rfl (by decide +kernel) rfl ?_
  refine s_ildn (p' := 11) rfl rfl rfl ?_
  refine s_aldn (p' := 12) rfl rfl rfl ?_
  refine s_gf (p' := 15) rfl H0 rfl rfl ?_
  refine s_ildn (p' := 16) rfl rfl rfl ?_
  refine c_call (p' := 19) (kc := 98) (ls0 := [_, _, _, _]) rfl rfl rfl rfl rfl (mj_rcv_is H393) rfl rfl rfl ?_
  refine s_con (p' := 1) rfl rfl ?_
  refine s_istn (p' := 2) (ls' := [_, _, _, _]) rfl rfl rfl rfl ?_
  refine s_aldn (p' := 3) rfl rfl rfl ?_
  refine s_ildn (p' := 4) rfl rfl rfl ?_
  refine c_call (p' := 7) (kc := 97) (ls0 := [_, _, _, _]) rfl rfl rfl rfl rfl (mj_rcv_is H393) rfl rfl rfl ?_
  refine s_ildn (p' := 1) rfl rfl rfl ?_
  refine s_istn (p' := 2) (ls' := [_, _, _, _]) rfl rfl rfl rfl ?_
  refine s_con (p' := 3) rfl rfl ?_
  refine s_istn (p' := 4) (ls' := [_, _, _, _]) rfl rfl rfl rfl ?_
  refine s_ildn (p' := 5) rfl rfl rfl ?_
  refine s_aldn (p' := 6) rfl rfl rfl ?_
  refine s_gf (p' := 9) rfl H393 rfl rfl ?_
  refine s_icmp (p' := 38) true rfl (by decide +kernel) rfl ?_
  refine s_ildn (p' := 39) rfl rfl rfl ?_
  refine c_iret rfl rfl ?_
  refine s_istn (p' := 8) (ls' := [_, _, _, _]) rfl rfl rfl rfl ?_
  refine s_ildn (p' := 9) rfl rfl rfl ?_
  refine s_bip (p' := 11) rfl rfl ?_
  refine s_icmp (p' := 14) false rfl (by decide +kernel) rfl ?_
  refine s_ildn (p' := 15) rfl rfl rfl ?_
  refine s_ildn (p' := 16) rfl rfl rfl ?_
  refine s_icmp (p' := 31) true rfl (by decide +kernel) rfl ?_
  refine s_ildn (p' := 32) rfl rfl rfl ?_
  refine c_iret rfl rfl ?_
  refine c_call (p' := 22) (kc := 98) (ls0 := [_, _, _]) rfl rfl rfl rfl rfl rfl rfl rfl rfl ?_
  refine s_ildn (p' := 1) rfl rfl rfl ?_
  refine s_ildn (p' := 2) rfl rfl rfl ?_
  refine c_call (p' := 5) (kc := 97) (ls0 := [_, _, _, _, _, _]) rfl rfl rfl rfl rfl rfl rfl rfl rfl ?_
  refine s_ildn (p' := 1) rfl rfl rfl ?_
  refine s_istn (p' := 2) (ls' := [_, _, _, _, _, _]) rfl rfl rfl rfl ?_
  refine s_ildn (p' := 3) rfl rfl rfl ?_
  refine s_istn (p' := 4) (ls' := [_, _, _, _, _, _]) rfl rfl rfl rfl ?_
  refine s_con (p' := 5) rfl rfl ?_
  refine s_ist (p' := 7) (ls' := [_, _, _, _, _, _]) rfl rfl rfl rfl ?_
  refine s_ild (p' := 9) rfl rfl rfl ?_
  refine s_bip (p' := 11) rfl rfl ?_
  refine s_icmp (p' := 14) false rfl (by decide +kernel) rfl ?_
  refine s_ildn (p' := 15) rfl rfl rfl ?_
  refine s_if (p' := 18) false rfl (by decide +kernel) rfl ?_
  refine s_ildn (p' := 19) rfl rfl rfl ?_
  refine s_ildn (p' := 20) rfl rfl rfl ?_
  refine s_bz (p' := 21) (z := (nI 0)) rfl rfl rfl (by decide +kernel) ?_
  refine s_ist (p' := 23) (ls' := [_, _, _, _, _, _]) rfl rfl rfl rfl ?_
  refine s_ildn (p' := 24) rfl rfl rfl ?_
  refine s_istn (p' := 25) (ls' := [_, _, _, _, _, _]) rfl rfl rfl rfl ?_
  refine s_ild (p' := 27) rfl rfl rfl ?_
  refine s_istn (p' := 28) (ls' := [_, _, _, _, _, _]) rfl rfl rfl rfl ?_
  refine s_incz (p' := 31) (w := (nI 1)) (ls' := [_, _, _, _, _, _]) rfl rfl rfl (by decide +kernel) rfl rfl ?_
  refine s_goto (p' := 7) rfl rfl ?_
  refine s_ild (p' := 9) rfl rfl rfl ?_
  refine s_bip (p' := 11) rfl rfl ?_
  refine s_icmp (p' := 14) false rfl (by decide +kernel) rfl ?_
  refine s_ildn (p' := 15) rfl rfl rfl ?_
  refine s_if (p' := 34) true rfl (by decide +kernel) rfl ?_
  refine s_ildn (p' := 35) rfl rfl rfl ?_
  refine c_iret rfl rfl ?_
  refine s_istn (p' := 6) (ls' := [_, _, _]) rfl rfl rfl rfl ?_
  refine s_ildn (p' := 7) rfl rfl rfl ?_
  refine s_con (p' := 8) rfl rfl ?_
  refine s_icmp (p' := 15) true rfl (by decide +kernel) rfl ?_
  refine s_ildn (p' := 16) rfl rfl rfl ?_
  refine s_ildn (p' := 17) rfl rfl rfl ?_
  refine s_bz (p' := 18) (z := (nI 1)) rfl rfl rfl (by decide +kernel) ?_
  refine s_ildn (p' := 19) rfl rfl rfl ?_
  refine s_bz (p' := 20) (z := (nI 1)) rfl rfl rfl (by decide +kernel) ?_
  refine c_iret rfl rfl ?_
  refine s_istn (p' := 23) (ls' := [_, _, _]) rfl rfl rfl rfl ?_
  refine s_incz (p' := 26) (w := (nI 7)) (ls' := [_, _, _]) rfl rfl rfl (by decide +kernel) rfl rfl ?_
  refine s_goto (p' := 4) rfl rfl ?_
  refine s_ildn (p' := 5) rfl rfl rfl ?_
  refine s_bip (p' := 7) rfl rfl ?_
  refine s_icmp (p' := 10) false rfl (by decide +kernel) rfl ?_
  refine s_ildn (p' := 11) rfl rfl rfl ?_
  refine s_aldn (p' := 12) rfl rfl rfl ?_
  refine s_gf (p' := 15) rfl H0 rfl rfl ?_
  refine s_ildn (p' := 16) rfl rfl rfl ?_
  refine c_call (p' := 19) (kc := 98) (ls0 := [_, _, _, _]) rfl rfl rfl rfl rfl (mj_rcv_is H393) rfl rfl rfl ?_
  refine s_con (p' := 1) rfl rfl ?_
  refine s_istn (p' := 2) (ls' := [_, _, _, _]) rfl rfl rfl rfl ?_
  refine s_aldn (p' := 3) rfl rfl rfl ?_
  refine s_ildn (p' := 4) rfl rfl rfl ?_
  refine c_call (p' := 7) (kc := 97) (ls0 := [_, _, _, _]) rfl rfl rfl rfl rfl (mj_rcv_is H393) rfl rfl rfl ?_
  refine s_ildn (p' := 1) rfl rfl rfl ?_
  refine s_istn (p' := 2) (ls' := [_, _, _, _]) rfl rfl rfl rfl ?_
  refine s_con (p' := 3) rfl rfl ?_
  refine s_istn (p' := 4) (ls' := [_, _, _, _]) rfl rfl rfl rfl ?_
  refine s_ildn (p' := 5) rfl rfl rfl ?_
  refine s_aldn (p' := 6) rfl rfl rfl ?_
  refine s_gf (p' := 9) rfl H393 rfl rfl ?_
  refine s_icmp (p' := 38) true rfl (by decide +kernel) rfl ?_
  refine s_ildn (p' := 39) rfl rfl rfl ?_
  refine c_iret rfl rfl ?_
  refine s_istn (p' := 8) (ls' := [_, _, _, _]) rfl rfl rfl rfl ?_
  refine s_ildn (p' := 9) rfl rfl rfl ?_
  refine s_bip (p' := 11) rfl rfl ?_
  refine s_icmp (p' := 14) false rfl (by decide +kernel) rfl ?_
  refine s_ildn (p' := 15) rfl rfl rfl ?_
  refine s_ildn (p' := 16) rfl rfl rfl ?_
  refine s_icmp (p' := 31) true rfl (by decide +kernel) rfl ?_
  refine s_ildn (p' := 32) rfl rfl rfl ?_
  refine c_iret rfl rfl ?_
  refine c_call (p' := 22) (kc := 98) (ls0 := [_, _, _]) rfl rfl rfl rfl rfl rfl rfl rfl rfl ?_
  refine s_ildn (p' := 1) rfl rfl rfl ?_
  refine s_ildn (p' := 2) rfl rfl rfl ?_
  refine c_call (p' := 5) (kc := 97) (ls0 := [_, _, _, _, _, _]) rfl rfl rfl rfl rfl rfl rfl rfl rfl ?_
  refine s_ildn (p' := 1) rfl rfl rfl ?_
  refine s_istn (p' := 2) (ls' := [_, _, _, _, _, _]) rfl rfl rfl rfl ?_
  refine s_ildn (p' := 3) rfl rfl rfl ?_
  refine s_istn (p' := 4) (ls' := [_, _, _, _, _, _]) rfl rfl rfl rfl ?_
  refine s_con (p' := 5) rfl rfl ?_
  refine s_ist (p' := 7) (ls' := [_, _, _, _, _, _]) rfl rfl rfl rfl ?_
  refine s_ild (p' := 9) rfl rfl rfl ?_
  refine s_bip (p' := 11) rfl rfl ?_
  refine s_icmp (p' := 14) false rfl (by decide +kernel) rfl ?_
  refine s_ildn (p' := 15) rfl rfl rfl ?_
  refine s_if (p' := 18) false rfl (by decide +kernel) rfl ?_
  refine s_ildn (p' := 19) rfl rfl rfl ?_
  refine s_ildn (p' := 20) rfl rfl rfl ?_
  refine s_bz (p' := 21) (z := (nI 0)) rfl rfl rfl (by decide +kernel) ?_
  refine s_ist (p' := 23) (ls' := [_, _, _, _, _, _]) rfl rfl rfl rfl ?_
  refine s_ildn (p' := 24) rfl rfl rfl ?_
  refine s_istn (p' := 25) (ls' := [_, _, _, _, _, _]) rfl rfl rfl rfl ?_
  refine s_ild (p' := 27) rfl rfl rfl ?_
  refine s_istn (p' := 28) (ls' := [_, _, _, _, _, _]) rfl rfl rfl rfl ?_
  refine s_incz (p' := 31) (w := (nI 1)) (ls' := [_, _, _, _, _, _]) rfl rfl rfl (by decide +kernel) rfl rfl ?_
  refine s_goto (p' := 7) rfl rfl ?_
  refine s_ild (p' := 9) rfl rfl rfl ?_
  refine s_bip (p' := 11) rfl rfl ?_
  refine s_icmp (p' := 14) false rfl (by decide +kernel) rfl ?_
  refine s_ildn (p' := 15) rfl rfl rfl ?_
  refine s_if (p' := 34) true rfl (by decide +kernel) rfl ?_
  refine s_ildn (p' := 35) rfl rfl rfl ?_
  refine c_iret rfl rfl ?_
  refine s_istn (p' := 6) (ls' := [_, _, _]) rfl rfl rfl rfl ?_
  refine s_ildn (p' := 7) rfl rfl rfl ?_
  refine s_con (p' := 8) rfl rfl ?_
  refine s_icmp (p' := 15) true rfl (by decide +kernel) rfl ?_
  refine s_ildn (p' := 16) rfl rfl rfl ?_
  refine s_ildn (p' := 17) rfl rfl rfl ?_
  refine s_bz (p' := 18) (z := (nI 1)) rfl rfl rfl (by decide +kernel) ?_
  refine s_ildn (p' := 19) rfl rfl rfl ?_
  refine s_bz (p' := 20) (z := (nI 1)) rfl rfl rfl (by decide +kernel) ?_
  refine c_iret rfl rfl ?_
  refine s_istn (p' := 23) (ls' := [_, _, _]) rfl rfl rfl rfl ?_
  refine s_incz (p' := 26) (w := (nI 8)) (ls' := [_, _, _]) rfl rfl rfl (by decide +kernel) rfl rfl ?_
  refine s_goto (p' := 4) rfl rfl ?_
  refine s_ildn (p' := 5) rfl rfl rfl ?_
  refine s_bip (p' := 7) rfl rfl ?_
  refine s_icmp (p' := 29) true rfl (by decide +kernel) rfl ?_
  refine s_ildn (p' := 30) rfl rfl rfl ?_
  refine k_iret rfl rfl ?_
  refine l_aldn (p' := 2180) rfl rfl rfl rfl ?_
  refine l_call (p' := 2183) (kc := 99) (ls0 := [_, _, _, _]) rfl rfl rfl rfl rfl rfl (mj_rcv_is H400) rfl rfl rfl ?_
  refine s_aldn (p' := 1) rfl rfl rfl ?_
  refine s_con (p' := 2) rfl rfl ?_
  refine s_pfz (p' := 5) (fs' := [_, _, _, _, _, _, _, _, _, _, _]) rfl rfl H400 rfl rfl rfl rfl ?_
  refine s_con (p' := 6) rfl rfl ?_
  refine s_istn (p' := 7) (ls' := [_, _, _, _]) rfl rfl rfl rfl ?_
  refine s_con (p' := 8) rfl rfl ?_
  refine s_istn (p' := 9) (ls' := [_, _, _, _]) rfl rfl rfl rfl ?_
  refine s_ildn (p' := 10) rfl rfl rfl ?_
  refine s_if (p' := 13) false rfl (by decide +kernel) rfl ?_
  refine s_con (p' := 14) rfl rfl ?_
  refine s_istn (p' := 15) (ls' := [_, _, _, _]) rfl rfl rfl rfl ?_
  refine s_con (p' := 16) rfl rfl ?_
  refine s_istn (p' := 17) (ls' := [_, _, _, _]) rfl rfl rfl rfl ?_
  refine s_ildn (p' := 18) rfl rfl rfl ?_
  refine s_bip (p' := 20) rfl rfl ?_
  refine s_icmp (p' := 23) false rfl (by decide +kernel) rfl ?_
  refine s_ildn (p' := 24) rfl rfl rfl ?_
  refine s_ildn (p' := 25) rfl rfl rfl ?_
  refine s_aldn (p' := 26) rfl rfl rfl ?_
  refine s_ildn (p' := 27) rfl rfl rfl ?_
  refine c_call (p' := 30) (kc := 98) (ls0 := [_, _, _, _]) rfl rfl rfl rfl rfl (mj_rcv_is (rd_ss rfl H400)) rfl rfl rfl ?_
  refine s_con (p' := 1) rfl rfl ?_
  refine s_istn (p' := 2) (ls' := [_, _, _, _]) rfl rfl rfl rfl ?_
  refine s_aldn (p' := 3) rfl rfl rfl ?_
  refine s_ildn (p' := 4) rfl rfl rfl ?_
  refine c_call (p' := 7) (kc := 97) (ls0 := [_, _, _, _, _]) rfl rfl rfl rfl rfl (mj_rcv_is (rd_ss rfl H400)) rfl rfl rfl ?_
  refine s_ildn (p' := 1) rfl rfl rfl ?_
  refine s_istn (p' := 2) (ls' := [_, _, _, _, _]) rfl rfl rfl rfl ?_
  refine s_aldn (p' := 3) rfl rfl rfl ?_
  refine s_gf (p' := 6) rfl (rd_ss rfl H400) rfl rfl ?_
  refine c_call (p' := 11) (kc := 96) (ls0 := [_]) rfl rfl rfl rfl rfl (mj_rcv_is (rd_sn rfl H410)) rfl rfl rfl ?_
  refine s_newz (p' := 3) (a := 414) rfl (len_s HL) rfl rfl ?_
  refine s_dupr (p' := 4) rfl rfl ?_
  refine s_aldn (p' := 5) rfl rfl rfl ?_
  refine c_call (p' := 8) (kc := 95) (ls0 := [_, _]) rfl rfl rfl rfl rfl (mj_rcv_is (rd_nw rfl (len_s HL))) rfl rfl rfl ?_
  refine s_aldn (p' := 1) rfl rfl rfl ?_
  refine s_aldn (p' := 2) rfl rfl rfl ?_
  refine s_pfz (p' := 5) (fs' := [_, _, _, _]) rfl rfl (rd_nw rfl (len_s HL)) rfl rfl rfl rfl ?_
  refine s_aldn (p' := 6) rfl rfl rfl ?_
  refine s_primN (p' := 9) (q := 3) rfl rfl rfl rfl rfl rfl rfl rfl ?_
  refine s_aldn (p' := 10) rfl rfl rfl ?_
  refine s_con (p' := 11) rfl rfl ?_
  refine s_pfz (p' := 14) (fs' := [_, _, _, _]) rfl rfl (rd_ss rfl (rd_nw rfl (len_s HL))) rfl rfl rfl rfl ?_
  refine s_aldn (p' := 15) rfl rfl rfl ?_
  refine s_aldn (p' := 16) rfl rfl rfl ?_
  refine s_gf (p' := 19) rfl (rd_ss rfl (rd_ss rfl (rd_nw rfl (len_s HL)))) rfl rfl ?_
  refine s_gf (p' := 22) rfl (rd_sn rfl (rd_sn rfl (rd_app (rd_sn rfl H410)))) rfl rfl ?_
  refine s_pfz (p' := 25) (fs' := [_, _, _, _]) rfl rfl (rd_ss rfl (rd_ss rfl (rd_nw rfl (len_s HL)))) rfl rfl rfl rfl ?_
  refine c_ret rfl ?_
  refine c_aret rfl ?_
  refine s_astn (p' := 12) (ls' := [_, _, _, _, _]) rfl rfl rfl rfl ?_
  refine s_aldn (p' := 13) rfl rfl rfl ?_
  refine c_call (p' := 18) (kc := 96) (ls0 := [_]) rfl rfl rfl rfl rfl (mj_rcv_is (rd_ss rfl (rd_ss rfl (rd_ss rfl (rd_nw rfl (len_s HL)))))) rfl rfl rfl ?_
  refine s_aldn (p' := 1) rfl rfl rfl ?_
  refine s_gf (p' := 4) rfl (rd_ss rfl (rd_ss rfl (rd_ss rfl (rd_nw rfl (len_s HL))))) rfl rfl ?_
  refine s_aldn (p' := 5) rfl rfl rfl ?_
  refine s_gf (p' := 8) rfl (rd_ss rfl (rd_ss rfl (rd_ss rfl (rd_nw rfl (len_s HL))))) rfl rfl ?_
  refine s_gf (p' := 11) rfl (rd_sn rfl (rd_sn rfl (rd_sn rfl (rd_app (rd_sn rfl H410))))) rfl rfl ?_
  refine s_icmp (p' := 18) true rfl (by decide +kernel) rfl ?_
  refine s_con (p' := 19) rfl rfl ?_
  refine c_iret rfl (by decide +kernel) ?_
  refine s_if (p' := 45) true rfl (by decide +kernel) rfl ?_
  refine s_ildn (p' := 46) rfl rfl rfl ?_
  refine c_iret rfl rfl ?_
  refine s_istn (p' := 8) (ls' := [_, _, _, _]) rfl rfl rfl rfl ?_
  refine s_ildn (p' := 9) rfl rfl rfl ?_
  refine s_ildn (p' := 10) rfl rfl rfl ?_
  refine s_icmp (p' := 25) true rfl (by decide +kernel) rfl ?_
  refine s_ildn (p' := 26) rfl rfl rfl ?_
  refine c_iret rfl rfl ?_
  refine s_bz (p' := 31) (z := (nI 0)) rfl rfl rfl (by decide +kernel) ?_
  refine s_if (p' := 34) false rfl (by decide +kernel) rfl ?_
  refine s_con (p' := 35) rfl rfl ?_
  refine s_goto (p' := 39) rfl rfl ?_
  refine s_bz (p' := 40) (z := (nI 1)) rfl rfl rfl (by decide +kernel) ?_
  refine s_istn (p' := 41) (ls' := [_, _, _, _]) rfl rfl rfl rfl ?_
  refine s_incz (p' := 44) (w := (nI 1)) (ls' := [_, _, _, _]) rfl rfl rfl (by decide +kernel) rfl rfl ?_
  refine s_goto (p' := 17) rfl rfl ?_
  refine s_ildn (p' := 18) rfl rfl rfl ?_
  refine s_bip (p' := 20) rfl rfl ?_
  refine s_icmp (p' := 23) false rfl (by decide +kernel) rfl ?_
  refine s_ildn (p' := 24) rfl rfl rfl ?_
  refine s_ildn (p' := 25) rfl rfl rfl ?_
  refine s_aldn (p' := 26) rfl rfl rfl ?_
  refine s_ildn (p' := 27) rfl rfl rfl ?_
  refine c_call (p' := 30) (kc := 98) (ls0 := [_, _, _, _]) rfl rfl rfl rfl rfl (mj_rcv_is (rd_sn rfl (rd_sn rfl (rd_sn rfl (rd_app (rd_ss rfl H400)))))) rfl rfl rfl ?_
  refine s_con (p' := 1) rfl rfl ?_
  refine s_istn (p' := 2) (ls' := [_, _, _, _]) rfl rfl rfl rfl ?_
  refine s_aldn (p' := 3) rfl rfl rfl ?_
  refine s_ildn (p' := 4) rfl rfl rfl ?_
  refine c_call (p' := 7) (kc := 97) (ls0 := [_, _, _, _, _]) rfl rfl rfl rfl rfl (mj_rcv_is (rd_sn rfl (rd_sn rfl (rd_sn rfl (rd_app (rd_ss rfl H400)))))) rfl rfl rfl ?_
  refine s_ildn (p' := 1) rfl rfl rfl ?_
  refine s_istn (p' := 2) (ls' := [_, _, _, _, _]) rfl rfl rfl rfl ?_
  refine s_aldn (p' := 3) rfl rfl rfl ?_
  refine s_gf (p' := 6) rfl (rd_sn rfl (rd_sn rfl (rd_sn rfl (rd_app (rd_ss rfl H400))))) rfl rfl ?_
  refine c_call (p' := 11) (kc := 96) (ls0 := [_]) rfl rfl rfl rfl rfl (mj_rcv_is (rd_sn rfl (rd_sn rfl (rd_sn rfl (rd_app (rd_sn rfl H410)))))) rfl rfl rfl ?_
  refine s_newz (p' := 3) (a := 415) rfl (len_s (len_s (len_s (len_a (len_s HL) rfl)))) rfl rfl ?_
  refine s_dupr (p' := 4) rfl rfl ?_
  refine s_aldn (p' := 5) rfl rfl rfl ?_
  refine c_call (p' := 8) (kc := 95) (ls0 := [_, _]) rfl rfl rfl rfl rfl (mj_rcv_is (rd_nw rfl (len_s (len_s (len_s (len_a (len_s HL) rfl)))))) rfl rfl rfl ?_
  refine s_aldn (p' := 1) rfl rfl rfl ?_
  refine s_aldn (p' := 2) rfl rfl rfl ?_
  refine s_pfz (p' := 5) (fs' := [_, _, _, _]) rfl rfl (rd_nw rfl (len_s (len_s (len_s (len_a (len_s HL) rfl))))) rfl rfl rfl rfl ?_
  refine s_aldn (p' := 6) rfl rfl rfl ?_
  refine s_primN (p' := 9) (q := 3) rfl rfl rfl rfl rfl rfl rfl rfl ?_
  refine s_aldn (p' := 10) rfl rfl rfl ?_
  refine s_con (p' := 11) rfl rfl ?_
  refine s_pfz (p' := 14) (fs' := [_, _, _, _]) rfl rfl (rd_ss rfl (rd_nw rfl (len_s (len_s (len_s (len_a (len_s HL) rfl)))))) rfl rfl rfl rfl ?_
  refine s_aldn (p' := 15) rfl rfl rfl ?_
  refine s_aldn (p' := 16) rfl rfl rfl ?_
  refine s_gf (p' := 19) rfl (rd_ss rfl (rd_ss rfl (rd_nw rfl (len_s (len_s (len_s (len_a (len_s HL) rfl))))))) rfl rfl ?_
  refine s_gf (p' := 22) rfl (rd_sn rfl (rd_sn rfl (rd_app (rd_sn rfl (rd_sn rfl (rd_sn rfl (rd_app (rd_sn rfl H410)))))))) rfl rfl ?_
  refine s_pfz (p' := 25) (fs' := [_, _, _, _]) rfl rfl (rd_ss rfl (rd_ss rfl (rd_nw rfl (len_s (len_s (len_s (len_a (len_s HL) rfl))))))) rfl rfl rfl rfl ?_
  refine c_ret rfl ?_
  refine c_aret rfl ?_
  refine s_astn (p' := 12) (ls' := [_, _, _, _, _]) rfl rfl rfl rfl ?_
  refine s_aldn (p' := 13) rfl rfl rfl ?_
  refine c_call (p' := 18) (kc := 96) (ls0 := [_]) rfl rfl rfl rfl rfl (mj_rcv_is (rd_ss rfl (rd_ss rfl (rd_ss rfl (rd_nw rfl (len_s (len_s (len_s (len_a (len_s HL) rfl))))))))) rfl rfl rfl ?_
  refine s_aldn (p' := 1) rfl rfl rfl ?_
  refine s_gf (p' := 4) rfl (rd_ss rfl (rd_ss rfl (rd_ss rfl (rd_nw rfl (len_s (len_s (len_s (len_a (len_s HL) rfl)))))))) rfl rfl ?_
  refine s_aldn (p' := 5) rfl rfl rfl ?_
  refine s_gf (p' := 8) rfl (rd_ss rfl (rd_ss rfl (rd_ss rfl (rd_nw rfl (len_s (len_s (len_s (len_a (len_s HL) rfl)))))))) rfl rfl ?_
  refine s_gf (p' := 11) rfl (rd_sn rfl (rd_sn rfl (rd_sn rfl (rd_app (rd_sn rfl (rd_sn rfl (rd_sn rfl (rd_app (rd_sn rfl H410))))))))) rfl rfl ?_
  refine s_icmp (p' := 18) true rfl (by decide +kernel) rfl ?_
  refine s_con (p' := 19) rfl rfl ?_
  refine c_iret rfl (by decide +kernel) ?_
  refine s_if (p' := 45) true rfl (by decide +kernel) rfl ?_
  refine s_ildn (p' := 46) rfl rfl rfl ?_
  refine c_iret rfl rfl ?_
  refine s_istn (p' := 8) (ls' := [_, _, _, _]) rfl rfl rfl rfl ?_
  refine s_ildn (p' := 9) rfl rfl rfl ?_
  refine s_ildn (p' := 10) rfl rfl rfl ?_
  refine s_icmp (p' := 25) true rfl (by decide +kernel) rfl ?_
  refine s_ildn (p' := 26) rfl rfl rfl ?_
  refine c_iret rfl rfl ?_
  refine s_bz (p' := 31) (z := (nI 0)) rfl rfl rfl (by decide +kernel) ?_
  refine s_if (p' := 34) false rfl (by decide +kernel) rfl ?_
  refine s_con (p' := 35) rfl rfl ?_
  refine s_goto (p' := 39) rfl rfl ?_
  refine s_bz (p' := 40) (z := (nI 1)) rfl rfl rfl (by decide +kernel) ?_
  refine s_istn (p' := 41) (ls' := [_, _, _, _]) rfl rfl rfl rfl ?_
  refine s_incz (p' := 44) (w := (nI 2)) (ls' := [_, _, _, _]) rfl rfl rfl (by decide +kernel) rfl rfl ?_
  refine s_goto (p' := 17) rfl rfl ?_
  refine s_ildn (p' := 18) rfl rfl rfl ?_
  refine s_bip (p' := 20) rfl rfl ?_
  refine s_icmp (p' := 23) false rfl (by decide +kernel) rfl ?_
  refine s_ildn (p' := 24) rfl rfl rfl ?_
  refine s_ildn (p' := 25) rfl rfl rfl ?_
  refine s_aldn (p' := 26) rfl rfl rfl ?_
  refine s_ildn (p' := 27) rfl rfl rfl ?_
  refine c_call (p' := 30) (kc := 98) (ls0 := [_, _, _, _]) rfl rfl rfl rfl rfl (mj_rcv_is (rd_sn rfl (rd_sn rfl (rd_sn rfl (rd_app (rd_sn rfl (rd_sn rfl (rd_sn rfl (rd_app (rd_ss rfl H400)))))))))) rfl rfl rfl ?_
  refine s_con (p' := 1) rfl rfl ?_
  refine s_istn (p' := 2) (ls' := [_, _, _, _]) rfl rfl rfl rfl ?_
  refine s_aldn (p' := 3) rfl rfl rfl ?_
  refine s_ildn (p' := 4) rfl rfl rfl ?_
  refine c_call (p' := 7) (kc := 97) (ls0 := [_, _, _, _, _]) rfl rfl rfl rfl rfl (mj_rcv_is (rd_sn rfl (rd_sn rfl (rd_sn rfl (rd_app (rd_sn rfl (rd_sn rfl (rd_sn rfl (rd_app (rd_ss rfl H400)))))))))) rfl rfl rfl ?_
  refine s_ildn (p' := 1) rfl rfl rfl ?_
  refine s_istn (p' := 2) (ls' := [_, _, _, _, _]) rfl rfl rfl rfl ?_
  refine s_aldn (p' := 3) rfl rfl rfl ?_
  refine s_gf (p' := 6) rfl (rd_sn rfl (rd_sn rfl (rd_sn rfl (rd_app (rd_sn rfl (rd_sn rfl (rd_sn rfl (rd_app (rd_ss rfl H400))))))))) rfl rfl ?_
  refine c_call (p' := 11) (kc := 96) (ls0 := [_]) rfl rfl rfl rfl rfl (mj_rcv_is (rd_sn rfl (rd_sn rfl (rd_sn rfl (rd_app (rd_sn rfl (rd_sn rfl (rd_sn rfl (rd_app (rd_sn rfl H410)))))))))) rfl rfl rfl ?_
  refine s_newz (p' := 3) (a := 416) rfl (len_s (len_s (len_s (len_a (len_s (len_s (len_s (len_a (len_s HL) rfl)))) rfl)))) rfl rfl ?_
  refine s_dupr (p' := 4) rfl rfl ?_
  refine s_aldn (p' := 5) rfl rfl rfl ?_
  refine c_call (p' := 8) (kc := 95) (ls0 := [_, _]) rfl rfl rfl rfl rfl (mj_rcv_is (rd_nw rfl (len_s (len_s (len_s (len_a (len_s (len_s (len_s (len_a (len_s HL) rfl)))) rfl)))))) rfl rfl rfl ?_
  refine s_aldn (p' := 1) rfl rfl rfl ?_
  refine s_aldn (p' := 2) rfl rfl rfl ?_
  refine s_pfz (p' := 5) (fs' := [_, _, _, _]) rfl rfl (rd_nw rfl (len_s (len_s (len_s (len_a (len_s (len_s (len_s (len_a (len_s HL) rfl)))) rfl))))) rfl rfl rfl rfl ?_
  refine s_aldn (p' := 6) rfl rfl rfl ?_
  refine s_primN (p' := 9) (q := 3) rfl rfl rfl rfl rfl rfl rfl rfl ?_
  refine s_aldn (p' := 10) rfl rfl rfl ?_
  refine s_con (p' := 11) rfl rfl ?_
  refine s_pfz (p' := 14) (fs' := [_, _, _, _]) rfl rfl (rd_ss rfl (rd_nw rfl (len_s (len_s (len_s (len_a (len_s (len_s (len_s (len_a (len_s HL) rfl)))) rfl)))))) rfl rfl rfl rfl ?_
  refine s_aldn (p' := 15) rfl rfl rfl ?_
  refine s_aldn (p' := 16) rfl rfl rfl ?_
  refine s_gf (p' := 19) rfl (rd_ss rfl (rd_ss rfl (rd_nw rfl (len_s (len_s (len_s (len_a (len_s (len_s (len_s (len_a (len_s HL) rfl)))) rfl))))))) rfl rfl ?_
  refine s_gf (p' := 22) rfl (rd_sn rfl (rd_sn rfl (rd_app (rd_sn rfl (rd_sn rfl (rd_sn rfl (rd_app (rd_sn rfl (rd_sn rfl (rd_sn rfl (rd_app (rd_sn rfl H410)))))))))))) rfl rfl ?_
  refine s_pfz (p' := 25) (fs' := [_, _, _, _]) rfl rfl (rd_ss rfl (rd_ss rfl (rd_nw rfl (len_s (len_s (len_s (len_a (len_s (len_s (len_s (len_a (len_s HL) rfl)))) rfl))))))) rfl rfl rfl rfl ?_
  refine c_ret rfl ?_
  refine c_aret rfl ?_
  refine s_astn (p' := 12) (ls' := [_, _, _, _, _]) rfl rfl rfl rfl ?_
  refine s_aldn (p' := 13) rfl rfl rfl ?_
  refine c_call (p' := 18) (kc := 96) (ls0 := [_]) rfl rfl rfl rfl rfl (mj_rcv_is (rd_ss rfl (rd_ss rfl (rd_ss rfl (rd_nw rfl (len_s (len_s (len_s (len_a (len_s (len_s (len_s (len_a (len_s HL) rfl)))) rfl))))))))) rfl rfl rfl ?_
  refine s_aldn (p' := 1) rfl rfl rfl ?_
  refine s_gf (p' := 4) rfl (rd_ss rfl (rd_ss rfl (rd_ss rfl (rd_nw rfl (len_s (len_s (len_s (len_a (len_s (len_s (len_s (len_a (len_s HL) rfl)))) rfl)))))))) rfl rfl ?_
  refine s_aldn (p' := 5) rfl rfl rfl ?_
  refine s_gf (p' := 8) rfl (rd_ss rfl (rd_ss rfl (rd_ss rfl (rd_nw rfl (len_s (len_s (len_s (len_a (len_s (len_s (len_s (len_a (len_s HL) rfl)))) rfl)))))))) rfl rfl ?_
  refine s_gf (p' := 11) rfl (rd_sn rfl (rd_sn rfl (rd_sn rfl (rd_app (rd_sn rfl (rd_sn rfl (rd_sn rfl (rd_app (rd_sn rfl (rd_sn rfl (rd_sn rfl (rd_app (rd_sn rfl H410))))))))))))) rfl rfl ?_
  refine s_icmp (p' := 18) true rfl (by decide +kernel) rfl ?_
  refine s_con (p' := 19) rfl rfl ?_
  refine c_iret rfl (by decide +kernel) ?_
  refine s_if (p' := 45) true rfl (by decide +kernel) rfl ?_
  refine s_ildn (p' := 46) rfl rfl rfl ?_
  refine c_iret rfl rfl ?_
  refine s_istn (p' := 8) (ls' := [_, _, _, _]) rfl rfl rfl rfl ?_
  refine s_ildn (p' := 9) rfl rfl rfl ?_
  refine s_ildn (p' := 10) rfl rfl rfl ?_
  refine s_icmp (p' := 25) true rfl (by decide +kernel) rfl ?_
  refine s_ildn (p' := 26) rfl rfl rfl ?_
  refine c_iret rfl rfl ?_
  refine s_bz (p' := 31) (z := (nI 0)) rfl rfl rfl (by decide +kernel) ?_
  refine s_if (p' := 34) false rfl (by decide +kernel) rfl ?_
  refine s_con (p' := 35) rfl rfl ?_
  refine s_goto (p' := 39) rfl rfl ?_
  refine s_bz (p' := 40) (z := (nI 1)) rfl rfl rfl (by decide +kernel) ?_
  refine s_istn (p' := 41) (ls' := [_, _, _, _]) rfl rfl rfl rfl ?_
  refine s_incz (p' := 44) (w := (nI 3)) (ls' := [_, _, _, _]) rfl rfl rfl (by decide +kernel) rfl rfl ?_
  refine s_goto (p' := 17) rfl rfl ?_
  refine s_ildn (p' := 18) rfl rfl rfl ?_
  refine s_bip (p' := 20) rfl rfl ?_
  refine s_icmp (p' := 23) false rfl (by decide +kernel) rfl ?_
  refine s_ildn (p' := 24) rfl rfl rfl ?_
  refine s_ildn (p' := 25) rfl rfl rfl ?_
  refine s_aldn (p' := 26) rfl rfl rfl ?_
  refine s_ildn (p' := 27) rfl rfl rfl ?_
  refine c_call (p' := 30) (kc := 98) (ls0 := [_, _, _, _]) rfl rfl rfl rfl rfl (mj_rcv_is (rd_sn rfl (rd_sn rfl (rd_sn rfl (rd_app (rd_sn rfl (rd_sn rfl (rd_sn rfl (rd_app (rd_sn rfl (rd_sn rfl (rd_sn rfl (rd_app (rd_ss rfl H400)))))))))))))) rfl rfl rfl ?_
  refine s_con (p' := 1) rfl rfl ?_
  refine s_istn (p' := 2) (ls' := [_, _, _, _]) rfl rfl rfl rfl ?_
  refine s_aldn (p' := 3) rfl rfl rfl ?_
  refine s_ildn (p' := 4) rfl rfl rfl ?_
  refine c_call (p' := 7) (kc := 97) (ls0 := [_, _, _, _, _]) rfl rfl rfl rfl rfl (mj_rcv_is (rd_sn rfl (rd_sn rfl (rd_sn rfl (rd_app (rd_sn rfl (rd_sn rfl (rd_sn rfl (rd_app (rd_sn rfl (rd_sn rfl (rd_sn rfl (rd_app (rd_ss rfl H400)))))))))))))) rfl rfl rfl ?_
  refine s_ildn (p' := 1) rfl rfl rfl ?_
  refine s_istn (p' := 2) (ls' := [_, _, _, _, _]) rfl rfl rfl rfl ?_
  refine s_aldn (p' := 3) rfl rfl rfl ?_
  refine s_gf (p' := 6) rfl (rd_sn rfl (rd_sn rfl (rd_sn rfl (rd_app (rd_sn rfl (rd_sn rfl (rd_sn rfl (rd_app (rd_sn rfl (rd_sn rfl (rd_sn rfl (rd_app (rd_ss rfl H400))))))))))))) rfl rfl ?_
  refine c_call (p' := 11) (kc := 96) (ls0 := [_]) rfl rfl rfl rfl rfl (mj_rcv_is (rd_sn rfl (rd_sn rfl (rd_sn rfl (rd_app (rd_sn rfl (rd_sn rfl (rd_sn rfl (rd_app (rd_sn rfl (rd_sn rfl (rd_sn rfl (rd_app (rd_sn rfl H410)))))))))))))) rfl rfl rfl ?_
  refine s_newz (p' := 3) (a := 417) rfl (len_s (len_s (len_s (len_a (len_s (len_s (len_s (len_a (len_s (len_s (len_s (len_a (len_s HL) rfl)))) rfl)))) rfl)))) rfl rfl ?_
  refine s_dupr (p' := 4) rfl rfl ?_
  refine s_aldn (p' := 5) rfl rfl rfl ?_
  refine c_call (p' := 8) (kc := 95) (ls0 := [_, _]) rfl rfl rfl rfl rfl (mj_rcv_is (rd_nw rfl (len_s (len_s (len_s (len_a (len_s (len_s (len_s (len_a (len_s (len_s (len_s (len_a (len_s HL) rfl)))) rfl)))) rfl)))))) rfl rfl rfl ?_
  refine s_aldn (p' := 1) rfl rfl rfl ?_
  refine s_aldn (p' := 2) rfl rfl rfl ?_
  refine s_pfz (p' := 5) (fs' := [_, _, _, _]) rfl rfl (rd_nw rfl (len_s (len_s (len_s (len_a (len_s (len_s (len_s (len_a (len_s (len_s (len_s (len_a (len_s HL) rfl)))) rfl)))) rfl))))) rfl rfl rfl rfl ?_
  refine s_aldn (p' := 6) rfl rfl rfl ?_
  refine s_primN (p' := 9) (q := 3) rfl rfl rfl rfl rfl rfl rfl rfl ?_
  refine s_aldn (p' := 10) rfl rfl rfl ?_
  refine s_con (p' := 11) rfl rfl ?_
  refine s_pfz (p' := 14) (fs' := [_, _, _, _]) rfl rfl (rd_ss rfl (rd_nw rfl (len_s (len_s (len_s (len_a (len_s (len_s (len_s (len_a (len_s (len_s (len_s (len_a (len_s HL) rfl)))) rfl)))) rfl)))))) rfl rfl rfl rfl ?_
  refine s_aldn (p' := 15) rfl rfl rfl ?_
  refine s_aldn (p' := 16) rfl rfl rfl ?_
  refine s_gf (p' := 19) rfl (rd_ss rfl (rd_ss rfl (rd_nw rfl (len_s (len_s (len_s (len_a (len_s (len_s (len_s (len_a (len_s (len_s (len_s (len_a (len_s HL) rfl)))) rfl)))) rfl))))))) rfl rfl ?_
  refine s_gf (p' := 22) rfl (rd_sn rfl (rd_sn rfl (rd_app (rd_sn rfl (rd_sn rfl (rd_sn rfl (rd_app (rd_sn rfl (rd_sn rfl (rd_sn rfl (rd_app (rd_sn rfl (rd_sn rfl (rd_sn rfl (rd_app (rd_sn rfl H410)))))))))))))))) rfl rfl ?_
  refine s_pfz (p' := 25) (fs' := [_, _, _, _]) rfl rfl (rd_ss rfl (rd_ss rfl (rd_nw rfl (len_s (len_s (len_s (len_a (len_s (len_s (len_s (len_a (len_s (len_s (len_s (len_a (len_s HL) rfl)))) rfl)))) rfl))))))) rfl rfl rfl rfl ?_
  refine c_ret rfl ?_
  refine c_aret rfl ?_
  refine s_astn (p' := 12) (ls' := [_, _, _, _, _]) rfl rfl rfl rfl ?_
  refine s_aldn (p' := 13) rfl rfl rfl ?_
  refine c_call (p' := 18) (kc := 96) (ls0 := [_]) rfl rfl rfl rfl rfl (mj_rcv_is (rd_ss rfl (rd_ss rfl (rd_ss rfl (rd_nw rfl (len_s (len_s (len_s (len_a (len_s (len_s (len_s (len_a (len_s (len_s (len_s (len_a (len_s HL) rfl)))) rfl)))) rfl))))))))) rfl rfl rfl ?_
  refine s_aldn (p' := 1) rfl rfl rfl ?_
  refine s_gf (p' := 4) rfl (rd_ss rfl (rd_ss rfl (rd_ss rfl (rd_nw rfl (len_s (len_s (len_s (len_a (len_s (len_s (len_s (len_a (len_s (len_s (len_s (len_a (len_s HL) rfl)))) rfl)))) rfl)))))))) rfl rfl ?_
  refine s_aldn (p' := 5) rfl rfl rfl ?_
  refine s_gf (p' := 8) rfl (rd_ss rfl (rd_ss rfl (rd_ss rfl (rd_nw rfl (len_s (len_s (len_s (len_a (len_s (len_s (len_s (len_a (len_s (len_s (len_s (len_a (len_s HL) rfl)))) rfl)))) rfl)))))))) rfl rfl ?_
  refine s_gf (p' := 11) rfl (rd_sn rfl (rd_sn rfl (rd_sn rfl (rd_app (rd_sn rfl (rd_sn rfl (rd_sn rfl (rd_app (rd_sn rfl (rd_sn rfl (rd_sn rfl (rd_app (rd_sn rfl (rd_sn rfl (rd_sn rfl (rd_app (rd_sn rfl H410))))))))))))))))) rfl rfl ?_
  refine s_icmp (p' := 18) true rfl (by decide +kernel) rfl ?_
  refine s_con (p' := 19) rfl rfl ?_
  refine c_iret rfl (by decide +kernel) ?_
  refine s_if (p' := 45) true rfl (by decide +kernel) rfl ?_
  refine s_ildn (p' := 46) rfl rfl rfl ?_
  refine c_iret rfl rfl ?_
  refine s_istn (p' := 8) (ls' := [_, _, _, _]) rfl rfl rfl rfl ?_
  refine s_ildn (p' := 9) rfl rfl rfl ?_
  refine s_ildn (p' := 10) rfl rfl rfl ?_
  refine s_icmp (p' := 25) true rfl (by decide +kernel) rfl ?_
  refine s_ildn (p' := 26) rfl rfl rfl ?_
  refine c_iret rfl rfl ?_
  refine s_bz (p' := 31) (z := (nI 0)) rfl rfl rfl (by decide +kernel) ?_
  refine s_if (p' := 34) false rfl (by decide +kernel) rfl ?_
  refine s_con (p' := 35) rfl rfl ?_
  refine s_goto (p' := 39) rfl rfl ?_
  refine s_bz (p' := 40) (z := (nI 1)) rfl rfl rfl (by decide +kernel) ?_
  refine s_istn (p' := 41) (ls' := [_, _, _, _]) rfl rfl rfl rfl ?_
  refine s_incz (p' := 44) (w := (nI 4)) (ls' := [_, _, _, _]) rfl rfl rfl (by decide +kernel) rfl rfl ?_
  refine s_goto (p' := 17) rfl rfl ?_
  refine s_ildn (p' := 18) rfl rfl rfl ?_
  refine s_bip (p' := 20) rfl rfl ?_
  refine s_icmp (p' := 23) false rfl (by decide +kernel) rfl ?_
  refine s_ildn (p' := 24) rfl rfl rfl ?_
  refine s_ildn (p' := 25) rfl rfl rfl ?_
  refine s_aldn (p' := 26) rfl rfl rfl ?_
  refine s_ildn (p' := 27) rfl rfl rfl ?_
  refine c_call (p' := 30) (kc := 98) (ls0 := [_, _, _, _]) rfl rfl rfl rfl rfl (mj_rcv_is (rd_sn rfl (rd_sn rfl (rd_sn rfl (rd_app (rd_sn rfl (rd_sn rfl (rd_sn rfl (rd_app (rd_sn rfl (rd_sn rfl (rd_sn rfl (rd_app (rd_sn rfl (rd_sn rfl (rd_sn rfl (rd_app (rd_ss rfl H400)))))))))))))))))) rfl rfl rfl ?_
  refine s_con (p' := 1) rfl rfl ?_
  refine s_istn (p' := 2) (ls' := [_, _, _, _]) rfl rfl rfl rfl ?_
  refine s_aldn (p' := 3) rfl rfl rfl ?_
  refine s_ildn (p' := 4) rfl rfl rfl ?_
  refine c_call (p' := 7) (kc := 97) (ls0 := [_, _, _, _, _]) rfl rfl rfl rfl rfl (mj_rcv_is (rd_sn rfl (rd_sn rfl (rd_sn rfl (rd_app (rd_sn rfl (rd_sn rfl (rd_sn rfl (rd_app (rd_sn rfl (rd_sn rfl (rd_sn rfl (rd_app (rd_sn rfl (rd_sn rfl (rd_sn rfl (rd_app (rd_ss rfl H400)))))))))))))))))) rfl rfl rfl ?_
  refine s_ildn (p' := 1) rfl rfl rfl ?_
  refine s_istn (p' := 2) (ls' := [_, _, _, _, _]) rfl rfl rfl rfl ?_
  refine s_aldn (p' := 3) rfl rfl rfl ?_
  refine s_gf (p' := 6) rfl (rd_sn rfl (rd_sn rfl (rd_sn rfl (rd_app (rd_sn rfl (rd_sn rfl (rd_sn rfl (rd_app (rd_sn rfl (rd_sn rfl (rd_sn rfl (rd_app (rd_sn rfl (rd_sn rfl (rd_sn rfl (rd_app (rd_ss rfl H400))))))))))))))))) rfl rfl ?_
  refine c_call (p' := 11) (kc := 96) (ls0 := [_]) rfl rfl rfl rfl rfl (mj_rcv_is (rd_sn rfl (rd_sn rfl (rd_sn rfl (rd_app (rd_sn rfl (rd_sn rfl (rd_sn rfl (rd_app (rd_sn rfl (rd_sn rfl (rd_sn rfl (rd_app (rd_sn rfl (rd_sn rfl (rd_sn rfl (rd_app (rd_sn rfl H410)))))))))))))))))) rfl rfl rfl ?_
  refine s_newz (p' := 3) (a := 418) rfl (len_s (len_s (len_s (len_a (len_s (len_s (len_s (len_a (len_s (len_s (len_s (len_a (len_s (len_s (len_s (len_a (len_s HL) rfl)))) rfl)))) rfl)))) rfl)))) rfl rfl ?_
  refine s_dupr (p' := 4) rfl rfl ?_
  refine s_aldn (p' := 5) rfl rfl rfl ?_
  refine c_call (p' := 8) (kc := 95) (ls0 := [_, _]) rfl rfl rfl rfl rfl (mj_rcv_is (rd_nw rfl (len_s (len_s (len_s (len_a (len_s (len_s (len_s (len_a (len_s (len_s (len_s (len_a (len_s (len_s (len_s (len_a (len_s HL) rfl)))) rfl)))) rfl)))) rfl)))))) rfl rfl rfl ?_
  refine s_aldn (p' := 1) rfl rfl rfl ?_
  refine s_aldn (p' := 2) rfl rfl rfl ?_
  refine s_pfz (p' := 5) (fs' := [_, _, _, _]) rfl rfl (rd_nw rfl (len_s (len_s (len_s (len_a (len_s (len_s (len_s (len_a (len_s (len_s (len_s (len_a (len_s (len_s (len_s (len_a (len_s HL) rfl)))) rfl)))) rfl)))) rfl))))) rfl rfl rfl rfl ?_
  refine s_aldn (p' := 6) rfl rfl rfl ?_
  refine s_primN (p' := 9) (q := 3) rfl rfl rfl rfl rfl rfl rfl rfl ?_
  refine s_aldn (p' := 10) rfl rfl rfl ?_
  refine s_con (p' := 11) rfl rfl ?_
  refine s_pfz (p' := 14) (fs' := [_, _, _, _]) rfl rfl (rd_ss rfl (rd_nw rfl (len_s (len_s (len_s (len_a (len_s (len_s (len_s (len_a (len_s (len_s (len_s (len_a (len_s (len_s (len_s (len_a (len_s HL) rfl)))) rfl)))) rfl)))) rfl)))))) rfl rfl rfl rfl ?_
  refine s_aldn (p' := 15) rfl rfl rfl ?_
  refine s_aldn (p' := 16) rfl rfl rfl ?_
  refine s_gf (p' := 19) rfl (rd_ss rfl (rd_ss rfl (rd_nw rfl (len_s (len_s (len_s (len_a (len_s (len_s (len_s (len_a (len_s (len_s (len_s (len_a (len_s (len_s (len_s (len_a (len_s HL) rfl)))) rfl)))) rfl)))) rfl))))))) rfl rfl ?_
  refine s_gf (p' := 22) rfl (rd_sn rfl (rd_sn rfl (rd_app (rd_sn rfl (rd_sn rfl (rd_sn rfl (rd_app (rd_sn rfl (rd_sn rfl (rd_sn rfl (rd_app (rd_sn rfl (rd_sn rfl (rd_sn rfl (rd_app (rd_sn rfl (rd_sn rfl (rd_sn rfl (rd_app (rd_sn rfl H410)))))))))))))))))))) rfl rfl ?_
  refine s_pfz (p' := 25) (fs' := [_, _, _, _]) rfl rfl (rd_ss rfl (rd_ss rfl (rd_nw rfl (len_s (len_s (len_s (len_a (len_s (len_s (len_s (len_a (len_s (len_s (len_s (len_a (len_s (len_s (len_s (len_a (len_s HL) rfl)))) rfl)))) rfl)))) rfl))))))) rfl rfl rfl rfl ?_
  refine c_ret rfl ?_
  refine c_aret rfl ?_
  refine s_astn (p' := 12) (ls' := [_, _, _, _, _]) rfl rfl rfl rfl ?_
  refine s_aldn (p' := 13) rfl rfl rfl ?_
  refine c_call (p' := 18) (kc := 96) (ls0 := [_]) rfl rfl rfl rfl rfl (mj_rcv_is (rd_ss rfl (rd_ss rfl (rd_ss rfl (rd_nw rfl (len_s (len_s (len_s (len_a (len_s (len_s (len_s (len_a (len_s (len_s (len_s (len_a (len_s (len_s (len_s (len_a (len_s HL) rfl)))) rfl)))) rfl)))) rfl))))))))) rfl rfl rfl ?_
  refine s_aldn (p' := 1) rfl rfl rfl ?_
  refine s_gf (p' := 4) rfl (rd_ss rfl (rd_ss rfl (rd_ss rfl (rd_nw rfl (len_s (len_s (len_s (len_a (len_s (len_s (len_s (len_a (len_s (len_s (len_s (len_a (len_s (len_s (len_s (len_a (len_s HL) rfl)))) rfl)))) rfl)))) rfl)))))))) rfl rfl ?_
  refine s_aldn (p' := 5) rfl rfl rfl ?_
  refine s_gf (p' := 8) rfl (rd_ss rfl (rd_ss rfl (rd_ss rfl (rd_nw rfl (len_s (len_s (len_s (len_a (len_s (len_s (len_s (len_a (len_s (len_s (len_s (len_a (len_s (len_s (len_s (len_a (len_s HL) rfl)))) rfl)))) rfl)))) rfl)))))))) rfl rfl ?_
  refine s_gf (p' := 11) rfl (rd_sn rfl (rd_sn rfl (rd_sn rfl (rd_app (rd_sn rfl (rd_sn rfl (rd_sn rfl (rd_app (rd_sn rfl (rd_sn rfl (rd_sn rfl (rd_app (rd_sn rfl (rd_sn rfl (rd_sn rfl (rd_app (rd_sn rfl (rd_sn rfl (rd_sn rfl (rd_app (rd_sn rfl H410))))))))))))))))))))) rfl rfl ?_
  refine s_icmp (p' := 18) true rfl (by decide +kernel) rfl ?_
  refine s_con (p' := 19) rfl rfl ?_
  refine c_iret rfl (by decide +kernel) ?_
  refine s_if (p' := 45) true rfl (by decide +kernel) rfl ?_
  refine s_ildn (p' := 46) rfl rfl rfl ?_
  refine c_iret rfl rfl ?_
  refine s_istn (p' := 8) (ls' := [_, _, _, _]) rfl rfl rfl rfl ?_
  refine s_ildn (p' := 9) rfl rfl rfl ?_
  refine s_ildn (p' := 10) rfl rfl rfl ?_
  refine s_icmp (p' := 25) true rfl (by decide +kernel) rfl ?_
  refine s_ildn (p' := 26) rfl rfl rfl ?_
  refine c_iret rfl rfl ?_
  refine s_bz (p' := 31) (z := (nI 0)) rfl rfl rfl (by decide +kernel) ?_
  refine s_if (p' := 34) false rfl (by decide +kernel) rfl ?_
  refine s_con (p' := 35) rfl rfl ?_
  refine s_goto (p' := 39) rfl rfl ?_
  refine s_bz (p' := 40) (z := (nI 1)) rfl rfl rfl (by decide +kernel) ?_
  refine s_istn (p' := 41) (ls' := [_, _, _, _]) rfl rfl rfl rfl ?_
  refine s_incz (p' := 44) (w := (nI 5)) (ls' := [_, _, _, _]) rfl rfl rfl (by decide +kernel) rfl rfl ?_
  refine s_goto (p' := 17) rfl rfl ?_
  refine s_ildn (p' := 18) rfl rfl rfl ?_
  refine s_bip (p' := 20) rfl rfl ?_
  refine s_icmp (p' := 23) false rfl (by decide +kernel) rfl ?_
  refine s_ildn (p' := 24) rfl rfl rfl ?_
  refine s_ildn (p' := 25) rfl rfl rfl ?_
  refine s_aldn (p' := 26) rfl rfl rfl ?_
  refine s_ildn (p' := 27) rfl rfl rfl ?_
  refine c_call (p' := 30) (kc := 98) (ls0 := [_, _, _, _]) rfl rfl rfl rfl rfl (mj_rcv_is (rd_sn rfl (rd_sn rfl (rd_sn rfl (rd_app (rd_sn rfl (rd_sn rfl (rd_sn rfl (rd_app (rd_sn rfl (rd_sn rfl (rd_sn rfl (rd_app (rd_sn rfl (rd_sn rfl (rd_sn rfl (rd_app (rd_sn rfl (rd_sn rfl (rd_sn rfl (rd_app (rd_ss rfl H400)))))))))))))))))))))) rfl rfl rfl ?_
  refine s_con (p' := 1) rfl rfl ?_
  refine s_istn (p' := 2) (ls' := [_, _, _, _]) rfl rfl rfl rfl ?_
  refine s_aldn (p' := 3) rfl rfl rfl ?_
  refine s_ildn (p' := 4) rfl rfl rfl ?_
  refine c_call (p' := 7) (kc := 97) (ls0 := [_, _, _, _, _]) rfl rfl rfl rfl rfl (mj_rcv_is (rd_sn rfl (rd_sn rfl (rd_sn rfl (rd_app (rd_sn rfl (rd_sn rfl (rd_sn rfl (rd_app (rd_sn rfl (rd_sn rfl (rd_sn rfl (rd_app (rd_sn rfl (rd_sn rfl (rd_sn rfl (rd_app (rd_sn rfl (rd_sn rfl (rd_sn rfl (rd_app (rd_ss rfl H400)))))))))))))))))))))) rfl rfl rfl ?_
  refine s_ildn (p' := 1) rfl rfl rfl ?_
  refine s_istn (p' := 2) (ls' := [_, _, _, _, _]) rfl rfl rfl rfl ?_
  refine s_aldn (p' := 3) rfl rfl rfl ?_
  refine s_gf (p' := 6) rfl (rd_sn rfl (rd_sn rfl (rd_sn rfl (rd_app (rd_sn rfl (rd_sn rfl (rd_sn rfl (rd_app (rd_sn rfl (rd_sn rfl (rd_sn rfl (rd_app (rd_sn rfl (rd_sn rfl (rd_sn rfl (rd_app (rd_sn rfl (rd_sn rfl (rd_sn rfl (rd_app (rd_ss rfl H400))))))))))))))))))))) rfl rfl ?_
  refine c_call (p' := 11) (kc := 96) (ls0 := [_]) rfl rfl rfl rfl rfl (mj_rcv_is (rd_sn rfl (rd_sn rfl (rd_sn rfl (rd_app (rd_sn rfl (rd_sn rfl (rd_sn rfl (rd_app (rd_sn rfl (rd_sn rfl (rd_sn rfl (rd_app (rd_sn rfl (rd_sn rfl (rd_sn rfl (rd_app (rd_sn rfl (rd_sn rfl (rd_sn rfl (rd_app (rd_sn rfl H410)))))))))))))))))))))) rfl rfl rfl ?_
  refine s_newz (p' := 3) (a := 419) rfl (len_s (len_s (len_s (len_a (len_s (len_s (len_s (len_a (len_s (len_s (len_s (len_a (len_s (len_s (len_s (len_a (len_s (len_s (len_s (len_a (len_s HL) rfl)))) rfl)))) rfl)))) rfl)))) rfl)))) rfl rfl ?_
  refine s_dupr (p' := 4) rfl rfl ?_
  refine s_aldn (p' := 5) rfl rfl rfl ?_
  refine c_call (p' := 8) (kc := 95) (ls0 := [_, _]) rfl rfl rfl rfl rfl (mj_rcv_is (rd_nw rfl (len_s (len_s (len_s (len_a (len_s (len_s (len_s (len_a (len_s (len_s (len_s (len_a (len_s (len_s (len_s (len_a (len_s (len_s (len_s (len_a (len_s HL) rfl)))) rfl)))) rfl)))) rfl)))) rfl)))))) rfl rfl rfl ?_
  refine s_aldn (p' := 1) rfl rfl rfl ?_
  refine s_aldn (p' := 2) rfl rfl rfl ?_
  refine s_pfz (p' := 5) (fs' := [_, _, _, _]) rfl rfl (rd_nw rfl (len_s (len_s (len_s (len_a (len_s (len_s (len_s (len_a (len_s (len_s (len_s (len_a (len_s (len_s (len_s (len_a (len_s (len_s (len_s (len_a (len_s HL) rfl)))) rfl)))) rfl)))) rfl)))) rfl))))) rfl rfl rfl rfl ?_
  refine s_aldn (p' := 6) rfl rfl rfl ?_
  refine s_primN (p' := 9) (q := 3) rfl rfl rfl rfl rfl rfl rfl rfl ?_
  refine s_aldn (p' := 10) rfl rfl rfl ?_
  refine s_con (p' := 11) rfl rfl ?_
  refine s_pfz (p' := 14) (fs' := [_, _, _, _]) rfl rfl (rd_ss rfl (rd_nw rfl (len_s (len_s (len_s (len_a (len_s (len_s (len_s (len_a (len_s (len_s (len_s (len_a (len_s (len_s (len_s (len_a (len_s (len_s (len_s (len_a (len_s HL) rfl)))) rfl)))) rfl)))) rfl)))) rfl)))))) rfl rfl rfl rfl ?_
  refine s_aldn (p' := 15) rfl rfl rfl ?_
  refine s_aldn (p' := 16) rfl rfl rfl ?_
  refine s_gf (p' := 19) rfl (rd_ss rfl (rd_ss rfl (rd_nw rfl (len_s (len_s (len_s (len_a (len_s (len_s (len_s (len_a (len_s (len_s (len_s (len_a (len_s (len_s (len_s (len_a (len_s (len_s (len_s (len_a (len_s HL) rfl)))) rfl)))) rfl)))) rfl)))) rfl))))))) rfl rfl ?_
  refine s_gf (p' := 22) rfl (rd_sn rfl (rd_sn rfl (rd_app (rd_sn rfl (rd_sn rfl (rd_sn rfl (rd_app (rd_sn rfl (rd_sn rfl (rd_sn rfl (rd_app (rd_sn rfl (rd_sn rfl (rd_sn rfl (rd_app (rd_sn rfl (rd_sn rfl (rd_sn rfl (rd_app (rd_sn rfl (rd_sn rfl (rd_sn rfl (rd_app (rd_sn rfl H410)))))))))))))))))))))))) rfl rfl ?_
  refine s_pfz (p' := 25) (fs' := [_, _, _, _]) rfl rfl (rd_ss rfl (rd_ss rfl (rd_nw rfl (len_s (len_s (len_s (len_a (len_s (len_s (len_s (len_a (len_s (len_s (len_s (len_a (len_s (len_s (len_s (len_a (len_s (len_s (len_s (len_a (len_s HL) rfl)))) rfl)))) rfl)))) rfl)))) rfl))))))) rfl rfl rfl rfl ?_
  refine c_ret rfl ?_
  refine c_aret rfl ?_
  refine s_astn (p' := 12) (ls' := [_, _, _, _, _]) rfl rfl rfl rfl ?_
  refine s_aldn (p' := 13) rfl rfl rfl ?_
  refine c_call (p' := 18) (kc := 96) (ls0 := [_]) rfl rfl rfl rfl rfl (mj_rcv_is (rd_ss rfl (rd_ss rfl (rd_ss rfl (rd_nw rfl (len_s (len_s (len_s (len_a (len_s (len_s (len_s (len_a (len_s (len_s (len_s (len_a (len_s (len_s (len_s (len_a (len_s (len_s (len_s (len_a (len_s HL) rfl)))) rfl)))) rfl)))) rfl)))) rfl))))))))) rfl rfl rfl ?_
  refine s_aldn (p' := 1) rfl rfl rfl ?_
  refine s_gf (p' := 4) rfl (rd_ss rfl (rd_ss rfl (rd_ss rfl (rd_nw rfl (len_s (len_s (len_s (len_a (len_s (len_s (len_s (len_a (len_s (len_s (len_s (len_a (len_s (len_s (len_s (len_a (len_s (len_s (len_s (len_a (len_s HL) rfl)))) rfl)))) rfl)))) rfl)))) rfl)))))))) rfl rfl ?_
  refine s_aldn (p' := 5) rfl rfl rfl ?_
  refine s_gf (p' := 8) rfl (rd_ss rfl (rd_ss rfl (rd_ss rfl (rd_nw rfl (len_s (len_s (len_s (len_a (len_s (len_s (len_s (len_a (len_s (len_s (len_s (len_a (len_s (len_s (len_s (len_a (len_s (len_s (len_s (len_a (len_s HL) rfl)))) rfl)))) rfl)))) rfl)))) rfl)))))))) rfl rfl ?_
  refine s_gf (p' := 11) rfl (rd_sn rfl (rd_sn rfl (rd_sn rfl (rd_app (rd_sn rfl (rd_sn rfl (rd_sn rfl (rd_app (rd_sn rfl (rd_sn rfl (rd_sn rfl (rd_app (rd_sn rfl (rd_sn rfl (rd_sn rfl (rd_app (rd_sn rfl (rd_sn rfl (rd_sn rfl (rd_app (rd_sn rfl (rd_sn rfl (rd_sn rfl (rd_app (rd_sn rfl H410))))))))))))))))))))))))) rfl rfl ?_
  refine s_icmp (p' := 18) true rfl (by decide +kernel) rfl ?_
  refine s_con (p' := 19) rfl rfl ?_
  refine c_iret rfl (by decide +kernel) ?_
  refine s_if (p' := 45) true rfl (by decide +kernel) rfl ?_
  refine s_ildn (p' := 46) rfl rfl rfl ?_
  refine c_iret rfl rfl ?_
  refine s_istn (p' := 8) (ls' := [_, _, _, _]) rfl rfl rfl rfl ?_
  refine s_ildn (p' := 9) rfl rfl rfl ?_
  refine s_ildn (p' := 10) rfl rfl rfl ?_
  refine s_icmp (p' := 25) true rfl (by decide +kernel) rfl ?_
  refine s_ildn (p' := 26) rfl rfl rfl ?_
  refine c_iret rfl rfl ?_
  refine s_bz (p' := 31) (z := (nI 0)) rfl rfl rfl (by decide +kernel) ?_
  refine s_if (p' := 34) false rfl (by decide +kernel) rfl ?_
  refine s_con (p' := 35) rfl rfl ?_
  refine s_goto (p' := 39) rfl rfl ?_
  refine s_bz (p' := 40) (z := (nI 1)) rfl rfl rfl (by decide +kernel) ?_
  refine s_istn (p' := 41) (ls' := [_, _, _, _]) rfl rfl rfl rfl ?_
  refine s_incz (p' := 44) (w := (nI 6)) (ls' := [_, _, _, _]) rfl rfl rfl (by decide +kernel) rfl rfl ?_
  refine s_goto (p' := 17) rfl rfl ?_
  refine s_ildn (p' := 18) rfl rfl rfl ?_
  refine s_bip (p' := 20) rfl rfl ?_
  refine s_icmp (p' := 23) false rfl (by decide +kernel) rfl ?_
  refine s_ildn (p' := 24) rfl rfl rfl ?_
  refine s_ildn (p' := 25) rfl rfl rfl ?_
  refine s_aldn (p' := 26) rfl rfl rfl ?_
  refine s_ildn (p' := 27) rfl rfl rfl ?_
  refine c_call (p' := 30) (kc := 98) (ls0 := [_, _, _, _]) rfl rfl rfl rfl rfl (mj_rcv_is (rd_sn rfl (rd_sn rfl (rd_sn rfl (rd_app (rd_sn rfl (rd_sn rfl (rd_sn rfl (rd_app (rd_sn rfl (rd_sn rfl (rd_sn rfl (rd_app (rd_sn rfl (rd_sn rfl (rd_sn rfl (rd_app (rd_sn rfl (rd_sn rfl (rd_sn rfl (rd_app (rd_sn rfl (rd_sn rfl (rd_sn rfl (rd_app (rd_ss rfl H400)))))))))))))))))))))))))) rfl rfl rfl ?_
  refine s_con (p' := 1) rfl rfl ?_
  refine s_istn (p' := 2) (ls' := [_, _, _, _]) rfl rfl rfl rfl ?_
  refine s_aldn (p' := 3) rfl rfl rfl ?_
  refine s_ildn (p' := 4) rfl rfl rfl ?_
  refine c_call (p' := 7) (kc := 97) (ls0 := [_, _, _, _, _]) rfl rfl rfl rfl rfl (mj_rcv_is (rd_sn rfl (rd_sn rfl (rd_sn rfl (rd_app (rd_sn rfl (rd_sn rfl (rd_sn rfl (rd_app (rd_sn rfl (rd_sn rfl (rd_sn rfl (rd_app (rd_sn rfl (rd_sn rfl (rd_sn rfl (rd_app (rd_sn rfl (rd_sn rfl (rd_sn rfl (rd_app (rd_sn rfl (rd_sn rfl (rd_sn rfl (rd_app (rd_ss rfl H400)))))))))))))))))))))))))) rfl rfl rfl ?_
  refine s_ildn (p' := 1) rfl rfl rfl ?_
  refine s_istn (p' := 2) (ls' := [_, _, _, _, _]) rfl rfl rfl rfl ?_
  refine s_aldn (p' := 3) rfl rfl rfl ?_
  refine s_gf (p' := 6) rfl (rd_sn rfl (rd_sn rfl (rd_sn rfl (rd_app (rd_sn rfl (rd_sn rfl (rd_sn rfl (rd_app (rd_sn rfl (rd_sn rfl (rd_sn rfl (rd_app (rd_sn rfl (rd_sn rfl (rd_sn rfl (rd_app (rd_sn rfl (rd_sn rfl (rd_sn rfl (rd_app (rd_sn rfl (rd_sn rfl (rd_sn rfl (rd_app (rd_ss rfl H400))))))))))))))))))))))))) rfl rfl ?_
  refine c_call (p' := 11) (kc := 96) (ls0 := [_]) rfl rfl rfl rfl rfl (mj_rcv_is (rd_sn rfl (rd_sn rfl (rd_sn rfl (rd_app (rd_sn rfl (rd_sn rfl (rd_sn rfl (rd_app (rd_sn rfl (rd_sn rfl (rd_sn rfl (rd_app (rd_sn rfl (rd_sn rfl (rd_sn rfl (rd_app (rd_sn rfl (rd_sn rfl (rd_sn rfl (rd_app (rd_sn rfl (rd_sn rfl (rd_sn rfl (rd_app (rd_sn rfl H410)))))))))))))))))))))))))) rfl rfl rfl ?_
  refine s_newz (p' := 3) (a := 420) rfl (len_s (len_s (len_s (len_a (len_s (len_s (len_s (len_a (len_s (len_s (len_s (len_a (len_s (len_s (len_s (len_a (len_s (len_s (len_s (len_a (len_s (len_s (len_s (len_a (len_s HL) rfl)))) rfl)))) rfl)))) rfl)))) rfl)))) rfl)))) rfl rfl ?_
  refine s_dupr (p' := 4) rfl rfl ?_
  refine s_aldn (p' := 5) rfl rfl rfl ?_
  refine c_call (p' := 8) (kc := 95) (ls0 := [_, _]) rfl rfl rfl rfl rfl (mj_rcv_is (rd_nw rfl (len_s (len_s (len_s (len_a (len_s (len_s (len_s (len_a (len_s (len_s (len_s (len_a (len_s (len_s (len_s (len_a (len_s (len_s (len_s (len_a (len_s (len_s (len_s (len_a (len_s HL) rfl)))) rfl)))) rfl)))) rfl)))) rfl)))) rfl)))))) rfl rfl rfl ?_
  refine s_aldn (p' := 1) rfl rfl rfl ?_
  refine s_aldn (p' := 2) rfl rfl rfl ?_
  refine s_pfz (p' := 5) (fs' := [_, _, _, _]) rfl rfl (rd_nw rfl (len_s (len_s (len_s (len_a (len_s (len_s (len_s (len_a (len_s (len_s (len_s (len_a (len_s (len_s (len_s (len_a (len_s (len_s (len_s (len_a (len_s (len_s (len_s (len_a (len_s HL) rfl)))) rfl)))) rfl)))) rfl)))) rfl)))) rfl))))) rfl rfl rfl rfl ?_
  refine s_aldn (p' := 6) rfl rfl rfl ?_
  refine s_primN (p' := 9) (q := 3) rfl rfl rfl rfl rfl rfl rfl rfl ?_
  refine s_aldn (p' := 10) rfl rfl rfl ?_
  refine s_con (p' := 11) rfl rfl ?_
  refine s_pfz (p' := 14) (fs' := [_, _, _, _]) rfl rfl (rd_ss rfl (rd_nw rfl (len_s (len_s (len_s (len_a (len_s (len_s (len_s (len_a (len_s (len_s (len_s (len_a (len_s (len_s (len_s (len_a (len_s (len_s (len_s (len_a (len_s (len_s (len_s (len_a (len_s HL) rfl)))) rfl)))) rfl)))) rfl)))) rfl)))) rfl)))))) rfl rfl rfl rfl ?_
  refine s_aldn (p' := 15) rfl rfl rfl ?_
  refine s_aldn (p' := 16) rfl rfl rfl ?_
  refine s_gf (p' := 19) rfl (rd_ss rfl (rd_ss rfl (rd_nw rfl (len_s (len_s (len_s (len_a (len_s (len_s (len_s (len_a (len_s (len_s (len_s (len_a (len_s (len_s (len_s (len_a (len_s (len_s (len_s (len_a (len_s (len_s (len_s (len_a (len_s HL) rfl)))) rfl)))) rfl)))) rfl)))) rfl)))) rfl))))))) rfl rfl ?_
  refine s_gf (p' := 22) rfl (rd_sn rfl (rd_sn rfl (rd_app (rd_sn rfl (rd_sn rfl (rd_sn rfl (rd_app (rd_sn rfl (rd_sn rfl (rd_sn rfl (rd_app (rd_sn rfl (rd_sn rfl (rd_sn rfl (rd_app (rd_sn rfl (rd_sn rfl (rd_sn rfl (rd_app (rd_sn rfl (rd_sn rfl (rd_sn rfl (rd_app (rd_sn rfl (rd_sn rfl (rd_sn rfl (rd_app (rd_sn rfl H410)))))))))))))))))))))))))))) rfl rfl ?_
  refine s_pfz (p' := 25) (fs' := [_, _, _, _]) rfl rfl (rd_ss rfl (rd_ss rfl (rd_nw rfl (len_s (len_s (len_s (len_a (len_s (len_s (len_s (len_a (len_s (len_s (len_s (len_a (len_s (len_s (len_s (len_a (len_s (len_s (len_s (len_a (len_s (len_s (len_s (len_a (len_s HL) rfl)))) rfl)))) rfl)))) rfl)))) rfl)))) rfl))))))) rfl rfl rfl rfl ?_
  refine c_ret rfl ?_
  refine c_aret rfl ?_
  refine s_astn (p' := 12) (ls' := [_, _, _, _, _]) rfl rfl rfl rfl ?_
  refine s_aldn (p' := 13) rfl rfl rfl ?_
  refine c_call (p' := 18) (kc := 96) (ls0 := [_]) rfl rfl rfl rfl rfl (mj_rcv_is (rd_ss rfl (rd_ss rfl (rd_ss rfl (rd_nw rfl (len_s (len_s (len_s (len_a (len_s (len_s (len_s (len_a (len_s (len_s (len_s (len_a (len_s (len_s (len_s (len_a (len_s (len_s (len_s (len_a (len_s (len_s (len_s (len_a (len_s HL) rfl)))) rfl)))) rfl)))) rfl)))) rfl)))) rfl))))))))) rfl rfl rfl ?_
  refine s_aldn (p' := 1) rfl rfl rfl ?_
  refine s_gf (p' := 4) rfl (rd_ss rfl (rd_ss rfl (rd_ss rfl (rd_nw rfl (len_s (len_s (len_s (len_a (len_s (len_s (len_s (len_a (len_s (len_s (len_s (len_a (len_s (len_s (len_s (len_a (len_s (len_s (len_s (len_a (len_s (len_s (len_s (len_a (len_s HL) rfl)))) rfl)))) rfl)))) rfl)))) rfl)))) rfl)))))))) rfl rfl ?_
  refine s_aldn (p' := 5) rfl rfl rfl ?_
  refine s_gf (p' := 8) rfl (rd_ss rfl (rd_ss rfl (rd_ss rfl (rd_nw rfl (len_s (len_s (len_s (len_a (len_s (len_s (len_s (len_a (len_s (len_s (len_s (len_a (len_s (len_s (len_s (len_a (len_s (len_s (len_s (len_a (len_s (len_s (len_s (len_a (len_s HL) rfl)))) rfl)))) rfl)))) rfl)))) rfl)))) rfl)))))))) rfl rfl ?_
  refine s_gf (p' := 11) rfl (rd_sn rfl (rd_sn rfl (rd_sn rfl (rd_app (rd_sn rfl (rd_sn rfl (rd_sn rfl (rd_app (rd_sn rfl (rd_sn rfl (rd_sn rfl (rd_app (rd_sn rfl (rd_sn rfl (rd_sn rfl (rd_app (rd_sn rfl (rd_sn rfl (rd_sn rfl (rd_app (rd_sn rfl (rd_sn rfl (rd_sn rfl (rd_app (rd_sn rfl (rd_sn rfl (rd_sn rfl (rd_app (rd_sn rfl H410))))))))))))))))))))))))))))) rfl rfl ?_
  refine s_icmp (p' := 18) true rfl (by decide +kernel) rfl ?_
  refine s_con (p' := 19) rfl rfl ?_
  refine c_iret rfl (by decide +kernel) ?_
  refine s_if (p' := 45) true rfl (by decide +kernel) rfl ?_
  refine s_ildn (p' := 46) rfl rfl rfl ?_
  refine c_iret rfl rfl ?_
  refine s_istn (p' := 8) (ls' := [_, _, _, _]) rfl rfl rfl rfl ?_
  refine s_ildn (p' := 9) rfl rfl rfl ?_
  refine s_ildn (p' := 10) rfl rfl rfl ?_
  refine s_icmp (p' := 25) true rfl (by decide +kernel) rfl ?_
  refine s_ildn (p' := 26) rfl rfl rfl ?_
  refine c_iret rfl rfl ?_
  refine s_bz (p' := 31) (z := (nI 0)) rfl rfl rfl (by decide +kernel) ?_
  refine s_if (p' := 34) false rfl (by decide +kernel) rfl ?_
  refine s_con (p' := 35) rfl rfl ?_
  refine s_goto (p' := 39) rfl rfl ?_
  refine s_bz (p' := 40) (z := (nI 1)) rfl rfl rfl (by decide +kernel) ?_
  refine s_istn (p' := 41) (ls' := [_, _, _, _]) rfl rfl rfl rfl ?_
  refine s_incz (p' := 44) (w := (nI 7)) (ls' := [_, _, _, _]) rfl rfl rfl (by decide +kernel) rfl rfl ?_
  refine s_goto (p' := 17) rfl rfl ?_
  refine s_ildn (p' := 18) rfl rfl rfl ?_
  refine s_bip (p' := 20) rfl rfl ?_
  refine s_icmp (p' := 23) false rfl (by decide +kernel) rfl ?_
  refine s_ildn (p' := 24) rfl rfl rfl ?_
  refine s_ildn (p' := 25) rfl rfl rfl ?_
  refine s_aldn (p' := 26) rfl rfl rfl ?_
  refine s_ildn (p' := 27) rfl rfl rfl ?_
  refine c_call (p' := 30) (kc := 98) (ls0 := [_, _, _, _]) rfl rfl rfl rfl rfl (mj_rcv_is (rd_sn rfl (rd_sn rfl (rd_sn rfl (rd_app (rd_sn rfl (rd_sn rfl (rd_sn rfl (rd_app (rd_sn rfl (rd_sn rfl (rd_sn rfl (rd_app (rd_sn rfl (rd_sn rfl (rd_sn rfl (rd_app (rd_sn rfl (rd_sn rfl (rd_sn rfl (rd_app (rd_sn rfl (rd_sn rfl (rd_sn rfl (rd_app (rd_sn rfl (rd_sn rfl (rd_sn rfl (rd_app (rd_ss rfl H400)))))))))))))))))))))))))))))) rfl rfl rfl ?_
  refine s_con (p' := 1) rfl rfl ?_
  refine s_istn (p' := 2) (ls' := [_, _, _, _]) rfl rfl rfl rfl ?_
  refine s_aldn (p' := 3) rfl rfl rfl ?_
  refine s_ildn (p' := 4) rfl rfl rfl ?_
  refine c_call (p' := 7) (kc := 97) (ls0 := [_, _, _, _, _]) rfl rfl rfl rfl rfl (mj_rcv_is (rd_sn rfl (rd_sn rfl (rd_sn rfl (rd_app (rd_sn rfl (rd_sn rfl (rd_sn rfl (rd_app (rd_sn rfl (rd_sn rfl (rd_sn rfl (rd_app (rd_sn rfl (rd_sn rfl (rd_sn rfl (rd_app (rd_sn rfl (rd_sn rfl (rd_sn rfl (rd_app (rd_sn rfl (rd_sn rfl (rd_sn rfl (rd_app (rd_sn rfl (rd_sn rfl (rd_sn rfl (rd_app (rd_ss rfl H400)))))))))))))))))))))))))))))) rfl rfl rfl ?_
  refine s_ildn (p' := 1) rfl rfl rfl ?_
  refine s_istn (p' := 2) (ls' := [_, _, _, _, _]) rfl rfl rfl rfl ?_
  refine s_aldn (p' := 3) rfl rfl rfl ?_
  refine s_gf (p' := 6) rfl (rd_sn rfl (rd_sn rfl (rd_sn rfl (rd_app (rd_sn rfl (rd_sn rfl (rd_sn rfl (rd_app (rd_sn rfl (rd_sn rfl (rd_sn rfl (rd_app (rd_sn rfl (rd_sn rfl (rd_sn rfl (rd_app (rd_sn rfl (rd_sn rfl (rd_sn rfl (rd_app (rd_sn rfl (rd_sn rfl (rd_sn rfl (rd_app (rd_sn rfl (rd_sn rfl (rd_sn rfl (rd_app (rd_ss rfl H400))))))))))))))))))))))))))))) rfl rfl ?_
  refine c_call (p' := 11) (kc := 96) (ls0 := [_]) rfl rfl rfl rfl rfl (mj_rcv_is (rd_sn rfl (rd_sn rfl (rd_sn rfl (rd_app (rd_sn rfl (rd_sn rfl (rd_sn rfl (rd_app (rd_sn rfl (rd_sn rfl (rd_sn rfl (rd_app (rd_sn rfl (rd_sn rfl (rd_sn rfl (rd_app (rd_sn rfl (rd_sn rfl (rd_sn rfl (rd_app (rd_sn rfl (rd_sn rfl (rd_sn rfl (rd_app (rd_sn rfl (rd_sn rfl (rd_sn rfl (rd_app (rd_sn rfl H410)))))))))))))))))))))))))))))) rfl rfl rfl ?_
  refine s_newz (p' := 3) (a := 421) rfl (len_s (len_s (len_s (len_a (len_s (len_s (len_s (len_a (len_s (len_s (len_s (len_a (len_s (len_s (len_s (len_a (len_s (len_s (len_s (len_a (len_s (len_s (len_s (len_a (len_s (len_s (len_s (len_a (len_s HL) rfl)))) rfl)))) rfl)))) rfl)))) rfl)))) rfl)))) rfl)))) rfl rfl ?_
  refine s_dupr (p' := 4) rfl rfl ?_
  refine s_aldn (p' := 5) rfl rfl rfl ?_
  refine c_call (p' := 8) (kc := 95) (ls0 := [_, _]) rfl rfl rfl rfl rfl (mj_rcv_is (rd_nw rfl (len_s (len_s (len_s (len_a (len_s (len_s (len_s (len_a (len_s (len_s (len_s (len_a (len_s (len_s (len_s (len_a (len_s (len_s (len_s (len_a (len_s (len_s (len_s (len_a (len_s (len_s (len_s (len_a (len_s HL) rfl)))) rfl)))) rfl)))) rfl)))) rfl)))) rfl)))) rfl)))))) rfl rfl rfl ?_
  refine s_aldn (p' := 1) rfl rfl rfl ?_
  refine s_aldn (p' := 2) rfl rfl rfl ?_
  refine s_pfz (p' := 5) (fs' := [_, _, _, _]) rfl rfl (rd_nw rfl (len_s (len_s (len_s (len_a (len_s (len_s (len_s (len_a (len_s (len_s (len_s (len_a (len_s (len_s (len_s (len_a (len_s (len_s (len_s (len_a (len_s (len_s (len_s (len_a (len_s (len_s (len_s (len_a (len_s HL) rfl)))) rfl)))) rfl)))) rfl)))) rfl)))) rfl)))) rfl))))) rfl rfl rfl rfl ?_
  refine s_aldn (p' := 6) rfl rfl rfl ?_
  refine s_primN (p' := 9) (q := 3) rfl rfl rfl rfl rfl rfl rfl rfl ?_
  refine s_aldn (p' := 10) rfl rfl rfl ?_
  refine s_con (p' := 11) rfl rfl ?_
  refine s_pfz (p' := 14) (fs' := [_, _, _, _]) rfl rfl (rd_ss rfl (rd_nw rfl (len_s (len_s (len_s (len_a (len_s (len_s (len_s (len_a (len_s (len_s (len_s (len_a (len_s (len_s (len_s (len_a (len_s (len_s (len_s (len_a (len_s (len_s (len_s (len_a (len_s (len_s (len_s (len_a (len_s HL) rfl)))) rfl)))) rfl)))) rfl)))) rfl)))) rfl)))) rfl)))))) rfl rfl rfl rfl ?_
  refine s_aldn (p' := 15) rfl rfl rfl ?_
  refine s_aldn (p' := 16) rfl rfl rfl ?_
  refine s_gf (p' := 19) rfl (rd_ss rfl (rd_ss rfl (rd_nw rfl (len_s (len_s (len_s (len_a (len_s (len_s (len_s (len_a (len_s (len_s (len_s (len_a (len_s (len_s (len_s (len_a (len_s (len_s (len_s (len_a (len_s (len_s (len_s (len_a (len_s (len_s (len_s (len_a (len_s HL) rfl)))) rfl)))) rfl)))) rfl)))) rfl)))) rfl)))) rfl))))))) rfl rfl ?_
  refine s_gf (p' := 22) rfl (rd_sn rfl (rd_sn rfl (rd_app (rd_sn rfl (rd_sn rfl (rd_sn rfl (rd_app (rd_sn rfl (rd_sn rfl (rd_sn rfl (rd_app (rd_sn rfl (rd_sn rfl (rd_sn rfl (rd_app (rd_sn rfl (rd_sn rfl (rd_sn rfl (rd_app (rd_sn rfl (rd_sn rfl (rd_sn rfl (rd_app (rd_sn rfl (rd_sn rfl (rd_sn rfl (rd_app (rd_sn rfl (rd_sn rfl (rd_sn rfl (rd_app (rd_sn rfl H410)))))))))))))))))))))))))))))))) rfl rfl ?_
  refine s_pfz (p' := 25) (fs' := [_, _, _, _]) rfl rfl (rd_ss rfl (rd_ss rfl (rd_nw rfl (len_s (len_s (len_s (len_a (len_s (len_s (len_s (len_a (len_s (len_s (len_s (len_a (len_s (len_s (len_s (len_a (len_s (len_s (len_s (len_a (len_s (len_s (len_s (len_a (len_s (len_s (len_s (len_a (len_s HL) rfl)))) rfl)))) rfl)))) rfl)))) rfl)))) rfl)))) rfl))))))) rfl rfl rfl rfl ?_
  refine c_ret rfl ?_
  refine c_aret rfl ?_
  refine s_astn (p' := 12) (ls' := [_, _, _, _, _]) rfl rfl rfl rfl ?_
  refine s_aldn (p' := 13) rfl rfl rfl ?_
  refine c_call (p' := 18) (kc := 96) (ls0 := [_]) rfl rfl rfl rfl rfl (mj_rcv_is (rd_ss rfl (rd_ss rfl (rd_ss rfl (rd_nw rfl (len_s (len_s (len_s (len_a (len_s (len_s (len_s (len_a (len_s (len_s (len_s (len_a (len_s (len_s (len_s (len_a (len_s (len_s (len_s (len_a (len_s (len_s (len_s (len_a (len_s (len_s (len_s (len_a (len_s HL) rfl)))) rfl)))) rfl)))) rfl)))) rfl)))) rfl)))) rfl))))))))) rfl rfl rfl ?_
  refine s_aldn (p' := 1) rfl rfl rfl ?_
  refine s_gf (p' := 4) rfl (rd_ss rfl (rd_ss rfl (rd_ss rfl (rd_nw rfl (len_s (len_s (len_s (len_a (len_s (len_s (len_s (len_a (len_s (len_s (len_s (len_a (len_s (len_s (len_s (len_a (len_s (len_s (len_s (len_a (len_s (len_s (len_s (len_a (len_s (len_s (len_s (len_a (len_s HL) rfl)))) rfl)))) rfl)))) rfl)))) rfl)))) rfl)))) rfl)))))))) rfl rfl ?_
  refine s_aldn (p' := 5) rfl rfl rfl ?_
  refine s_gf (p' := 8) rfl (rd_ss rfl (rd_ss rfl (rd_ss rfl (rd_nw rfl (len_s (len_s (len_s (len_a (len_s (len_s (len_s (len_a (len_s (len_s (len_s (len_a (len_s (len_s (len_s (len_a (len_s (len_s (len_s (len_a (len_s (len_s (len_s (len_a (len_s (len_s (len_s (len_a (len_s HL) rfl)))) rfl)))) rfl)))) rfl)))) rfl)))) rfl)))) rfl)))))))) rfl rfl ?_
  refine s_gf (p' := 11) rfl (rd_sn rfl (rd_sn rfl (rd_sn rfl (rd_app (rd_sn rfl (rd_sn rfl (rd_sn rfl (rd_app (rd_sn rfl (rd_sn rfl (rd_sn rfl (rd_app (rd_sn rfl (rd_sn rfl (rd_sn rfl (rd_app (rd_sn rfl (rd_sn rfl (rd_sn rfl (rd_app (rd_sn rfl (rd_sn rfl (rd_sn rfl (rd_app (rd_sn rfl (rd_sn rfl (rd_sn rfl (rd_app (rd_sn rfl (rd_sn rfl (rd_sn rfl (rd_app (rd_sn rfl H410))))))))))))))))))))))))))))))))) rfl rfl ?_
  refine s_icmp (p' := 18) true rfl (by decide +kernel) rfl ?_
  refine s_con (p' := 19) rfl rfl ?_
  refine c_iret rfl (by decide +kernel) ?_
  refine s_if (p' := 45) true rfl (by decide +kernel) rfl ?_
  refine s_ildn (p' := 46) rfl rfl rfl ?_
  refine c_iret rfl rfl ?_
  refine s_istn (p' := 8) (ls' := [_, _, _, _]) rfl rfl rfl rfl ?_
  refine s_ildn (p' := 9) rfl rfl rfl ?_
  refine s_ildn (p' := 10) rfl rfl rfl ?_
  refine s_icmp (p' := 25) true rfl (by decide +kernel) rfl ?_
  refine s_ildn (p' := 26) rfl rfl rfl ?_
  refine c_iret rfl rfl ?_
  refine s_bz (p' := 31) (z := (nI 0)) rfl rfl rfl (by decide +kernel) ?_
  refine s_if (p' := 34) false rfl (by decide +kernel) rfl ?_
  refine s_con (p' := 35) rfl rfl ?_
  refine s_goto (p' := 39) rfl rfl ?_
  refine s_bz (p' := 40) (z := (nI 1)) rfl rfl rfl (by decide +kernel) ?_
  refine s_istn (p' := 41) (ls' := [_, _, _, _]) rfl rfl rfl rfl ?_
  refine s_incz (p' := 44) (w := (nI 8)) (ls' := [_, _, _, _]) rfl rfl rfl (by decide +kernel) rfl rfl ?_
  refine s_goto (p' := 17) rfl rfl ?_
  refine s_ildn (p' := 18) rfl rfl rfl ?_
  refine s_bip (p' := 20) rfl rfl ?_
  refine s_icmp (p' := 47) true rfl (by decide +kernel) rfl ?_
  refine s_ildn (p' := 48) rfl rfl rfl ?_
  refine s_ildn (p' := 49) rfl rfl rfl ?_
  refine s_if (p' := 52) false rfl (by decide +kernel) rfl ?_
  refine s_con (p' := 53) rfl rfl ?_
  refine s_goto (p' := 57) rfl rfl ?_
  refine s_bz (p' := 58) (z := (nI 1)) rfl rfl rfl (by decide +kernel) ?_
  refine s_istn (p' := 59) (ls' := [_, _, _, _]) rfl rfl rfl rfl ?_
  refine s_goto (p' := 9) rfl rfl ?_
  refine s_ildn (p' := 10) rfl rfl rfl ?_
  refine s_if (p' := 62) true rfl (by decide +kernel) rfl ?_
  refine s_ildn (p' := 63) rfl rfl rfl ?_
  refine k_iret rfl rfl ?_
  refine l_icmp (p' := 2541) true rfl rfl (by decide +kernel) rfl ?_
  refine l_incz (p' := 2544) (w := (nI 4)) (ls' := [_, _, _, _, _, _, _, _, _, _]) rfl rfl rfl rfl (by decide +kernel) rfl rfl ?_
  refine l_goto (p' := 28) rfl rfl rfl ?_
  refine l_ild (p' := 30) rfl rfl rfl rfl ?_
  refine l_alds (p' := 31) rfl rfl rfl rfl ?_
  refine l_lens (p' := 32) rfl rfl rfl ?_
  refine l_con (p' := 33) rfl rfl rfl ?_
  refine l_bz (p' := 34) (z := (nI 0)) rfl rfl rfl rfl rfl (by decide +kernel) ?_
  refine l_icmp (p' := 2547) true rfl rfl (by decide +kernel) rfl ?_
  refine l_con (p' := 2548) rfl rfl rfl ?_
  refine l_end rfl rfl ?_
  exact ⟨Nat.le_trans (Nat.le_of_eq (len_s (len_s (len_s (len_a (len_s (len_s (len_s (len_a (len_s (len_s (len_s (len_a (len_s (len_s (len_s (len_a (len_s (len_s (len_s (len_a (len_s (len_s (len_s (len_a (len_s (len_s (len_s (len_a (len_s (len_s (len_s (len_a (len_s HL) rfl)))) rfl)))) rfl)))) rfl)))) rfl)))) rfl)))) rfl)))) rfl))))) (Nat.le_of_ble_eq_true rfl), Nat.le_trans (sz_s rfl (rd_ss rfl (rd_ss rfl (rd_nw rfl (len_s (len_s (len_s (len_a (len_s (len_s (len_s (len_a (len_s (len_s (len_s (len_a (len_s (len_s (len_s (len_a (len_s (len_s (len_s (len_a (len_s (len_s (len_s (len_a (len_s (len_s (len_s (len_a (len_s HL) rfl)))) rfl)))) rfl)))) rfl)))) rfl)))) rfl)))) rfl))))))) rfl (sz_s rfl (rd_ss rfl (rd_nw rfl (len_s (len_s (len_s (len_a (len_s (len_s (len_s (len_a (len_s (len_s (len_s (len_a (len_s (len_s (len_s (len_a (len_s (len_s (len_s (len_a (len_s (len_s (len_s (len_a (len_s (len_s (len_s (len_a (len_s HL) rfl)))) rfl)))) rfl)))) rfl)))) rfl)))) rfl)))) rfl)))))) rfl (sz_s rfl (rd_nw rfl (len_s (len_s (len_s (len_a (len_s (len_s (len_s (len_a (len_s (len_s (len_s (len_a (len_s (len_s (len_s (len_a (len_s (len_s (len_s (len_a (len_s (len_s (len_s (len_a (len_s (len_s (len_s (len_a (len_s HL) rfl)))) rfl)))) rfl)))) rfl)))) rfl)))) rfl)))) rfl))))) rfl (sz_aa (k := 4) (m := 20032) rfl rfl (sz_s rfl (rd_ss rfl (rd_ss rfl (rd_nw rfl (len_s (len_s (len_s (len_a (len_s (len_s (len_s (len_a (len_s (len_s (len_s (len_a (len_s (len_s (len_s (len_a (len_s (len_s (len_s (len_a (len_s (len_s (len_s (len_a (len_s HL) rfl)))) rfl)))) rfl)))) rfl)))) rfl)))) rfl))))))) rfl (sz_s rfl (rd_ss rfl (rd_nw rfl (len_s (len_s (len_s (len_a (len_s (len_s (len_s (len_a (len_s (len_s (len_s (len_a (len_s (len_s (len_s (len_a (len_s (len_s (len_s (len_a (len_s (len_s (len_s (len_a (len_s HL) rfl)))) rfl)))) rfl)))) rfl)))) rfl)))) rfl)))))) rfl (sz_s rfl (rd_nw rfl (len_s (len_s (len_s (len_a (len_s (len_s (len_s (len_a (len_s (len_s (len_s (len_a (len_s (len_s (len_s (len_a (len_s (len_s (len_s (len_a (len_s (len_s (len_s (len_a (len_s HL) rfl)))) rfl)))) rfl)))) rfl)))) rfl)))) rfl))))) rfl (sz_aa (k := 4) (m := 20028) rfl rfl (sz_s rfl (rd_ss rfl (rd_ss rfl (rd_nw rfl (len_s (len_s (len_s (len_a (len_s (len_s (len_s (len_a (len_s (len_s (len_s (len_a (len_s (len_s (len_s (len_a (len_s (len_s (len_s (len_a (len_s HL) rfl)))) rfl)))) rfl)))) rfl)))) rfl))))))) rfl (sz_s rfl (rd_ss rfl (rd_nw rfl (len_s (len_s (len_s (len_a (len_s (len_s (len_s (len_a (len_s (len_s (len_s (len_a (len_s (len_s (len_s (len_a (len_s (len_s (len_s (len_a (len_s HL) rfl)))) rfl)))) rfl)))) rfl)))) rfl)))))) rfl (sz_s rfl (rd_nw rfl (len_s (len_s (len_s (len_a (len_s (len_s (len_s (len_a (len_s (len_s (len_s (len_a (len_s (len_s (len_s (len_a (len_s (len_s (len_s (len_a (len_s HL) rfl)))) rfl)))) rfl)))) rfl)))) rfl))))) rfl (sz_aa (k := 4) (m := 20024) rfl rfl (sz_s rfl (rd_ss rfl (rd_ss rfl (rd_nw rfl (len_s (len_s (len_s (len_a (len_s (len_s (len_s (len_a (len_s (len_s (len_s (len_a (len_s (len_s (len_s (len_a (len_s HL) rfl)))) rfl)))) rfl)))) rfl))))))) rfl (sz_s rfl (rd_ss rfl (rd_nw rfl (len_s (len_s (len_s (len_a (len_s (len_s (len_s (len_a (len_s (len_s (len_s (len_a (len_s (len_s (len_s (len_a (len_s HL) rfl)))) rfl)))) rfl)))) rfl)))))) rfl (sz_s rfl (rd_nw rfl (len_s (len_s (len_s (len_a (len_s (len_s (len_s (len_a (len_s (len_s (len_s (len_a (len_s (len_s (len_s (len_a (len_s HL) rfl)))) rfl)))) rfl)))) rfl))))) rfl (sz_aa (k := 4) (m := 20020) rfl rfl (sz_s rfl (rd_ss rfl (rd_ss rfl (rd_nw rfl (len_s (len_s (len_s (len_a (len_s (len_s (len_s (len_a (len_s (len_s (len_s (len_a (len_s HL) rfl)))) rfl)))) rfl))))))) rfl (sz_s rfl (rd_ss rfl (rd_nw rfl (len_s (len_s (len_s (len_a (len_s (len_s (len_s (len_a (len_s (len_s (len_s (len_a (len_s HL) rfl)))) rfl)))) rfl)))))) rfl (sz_s rfl (rd_nw rfl (len_s (len_s (len_s (len_a (len_s (len_s (len_s (len_a (len_s (len_s (len_s (len_a (len_s HL) rfl)))) rfl)))) rfl))))) rfl (sz_aa (k := 4) (m := 20016) rfl rfl (sz_s rfl (rd_ss rfl (rd_ss rfl (rd_nw rfl (len_s (len_s (len_s (len_a (len_s (len_s (len_s (len_a (len_s HL) rfl)))) rfl))))))) rfl (sz_s rfl (rd_ss rfl (rd_nw rfl (len_s (len_s (len_s (len_a (len_s (len_s (len_s (len_a (len_s HL) rfl)))) rfl)))))) rfl (sz_s rfl (rd_nw rfl (len_s (len_s (len_s (len_a (len_s (len_s (len_s (len_a (len_s HL) rfl)))) rfl))))) rfl (sz_aa (k := 4) (m := 20012) rfl rfl (sz_s rfl (rd_ss rfl (rd_ss rfl (rd_nw rfl (len_s (len_s (len_s (len_a (len_s HL) rfl))))))) rfl (sz_s rfl (rd_ss rfl (rd_nw rfl (len_s (len_s (len_s (len_a (len_s HL) rfl)))))) rfl (sz_s rfl (rd_nw rfl (len_s (len_s (len_s (len_a (len_s HL) rfl))))) rfl (sz_aa (k := 4) (m := 20008) rfl rfl (sz_s rfl (rd_ss rfl (rd_ss rfl (rd_nw rfl (len_s HL)))) rfl (sz_s rfl (rd_ss rfl (rd_nw rfl (len_s HL))) rfl (sz_s rfl (rd_nw rfl (len_s HL)) rfl (sz_aa (k := 4) (m := 20004) rfl rfl (sz_s rfl H400 rfl HZ))))))))))))))))))))))))))))))))) (Nat.le_of_ble_eq_true rfl)⟩
theorem p1_42 {xs : Nat → Int32} {h : mj_H} (hk : xs 0 &&& nI 63 = nI 42)   (HL : h.length = 414) (HZ : mj_sz h ≤ 20000) (H0 : mj_rd h 0 = some (.inr (0, [.ref 1, .ref 38, .ref 299, .ref 336, .ref 373, .ref 375, .ref 378, .ref 381, .ref 387, .ref 393, .null, .null, .ref 397, .ref 398, .ref 399, .long (lN 0), .long (lN 0)]))) (H397 : mj_rd h 397 = some (.inl (0, (8, .inl (fun _ => 0))))) (H399 : mj_rd h 399 = some (.inl (0, (8, .inl (fun _ => 0))))) (H400 : mj_rd h 400 = some (.inr (17, [.int (nI 0), .ref 401, .ref 402, .ref 1000300, .long (lN 0), .long (lN 0), .ref 410, .null, .null, .null, .ref 411]))) (H411 : mj_rd h 411 = some (.inl (0, (8, .inl (fun _ => 0))))) : mj_fin 4 xs h := by
  unfold mj_fin
  refine l_ild (p' := 30) rfl rfl rfl rfl ?_
  refine l_alds (p' := 31) rfl rfl rfl rfl ?_
  refine l_lens (p' := 32) rfl rfl rfl ?_
  refine l_con (p' := 33) rfl rfl rfl ?_
  refine l_bz (p' := 34) (z := (nI 0)) rfl rfl rfl rfl rfl (by decide +kernel) ?_
  refine l_icmp (p' := 37) false rfl rfl (by decide +kernel) rfl ?_
  refine l_alds (p' := 38) rfl rfl rfl rfl ?_
  refine l_ild (p' := 40) rfl rfl rfl rfl ?_
  refine l_ialz (p' := 41) (m := 0) (z := (xs 0)) rfl rfl (by decide +kernel) rfl rfl rfl ?_
  refine l_bip (p' := 43) rfl rfl rfl ?_
  refine l_bz (p' := 44) (z := (nI 42)) rfl rfl rfl rfl rfl hk ?_
  refine l_sp (p' := 2256) (ls' := _) rfl rfl rfl rfl rfl ?_
  refine l_aldn (p' := 2257) rfl rfl rfl rfl ?_
  refine l_call (p' := 2260) (kc := 99) (ls0 := [_, _, _]) rfl rfl rfl rfl rfl rfl (mj_rcv_is H0) rfl rfl rfl ?_
  refine s_aldn (p' := 1) rfl rfl rfl ?_
  refine c_call (p' := 4) (kc := 98) (ls0 := [_, _, _]) rfl rfl rfl rfl rfl (mj_rcv_is H0) rfl rfl rfl ?_
  refine s_aldn (p' := 1) rfl rfl rfl ?_
  refine s_gf (p' := 4) rfl H0 rfl rfl ?_
  refine s_con (p' := 5) rfl rfl ?_
  refine c_call (p' := 8) (kc := 97) (ls0 := [_, _, _, _]) rfl rfl rfl rfl rfl rfl rfl rfl rfl ?_
  refine s_con (p' := 1) rfl rfl ?_
  refine s_istn (p' := 2) (ls' := [_, _, _, _]) rfl rfl rfl rfl ?_
  refine s_aldn (p' := 3) rfl rfl rfl ?_
  refine s_lenz (p' := 4) rfl (mj_rdA_is H399 (by decide)) rfl rfl ?_
  refine s_istn (p' := 5) (ls' := [_, _, _, _]) rfl rfl rfl rfl ?_
  refine s_ildn (p' := 6) rfl rfl rfl ?_
  refine s_ildn (p' := 7) rfl rfl rfl ?_
  refine s_icmp (p' := 10) false rfl (by decide +kernel) rfl ?_
  refine s_aldn (p' := 11) rfl rfl rfl ?_
  refine s_ildn (p' := 12) rfl rfl rfl ?_
  refine s_ildn (p' := 13) rfl rfl rfl ?_
  refine s_iasz (p' := 14) (m := 0) rfl rfl H399 (by decide +kernel) rfl rfl rfl ?_
  refine s_incz (p' := 17) (w := (nI 1)) (ls' := [_, _, _, _]) rfl rfl rfl (by decide +kernel) rfl rfl ?_
  refine s_goto (p' := 5) rfl rfl ?_
  refine s_ildn (p' := 6) rfl rfl rfl ?_
  refine s_ildn (p' := 7) rfl rfl rfl ?_
  refine s_icmp (p' := 10) false rfl (by decide +kernel) rfl ?_
  refine s_aldn (p' := 11) rfl rfl rfl ?_
  refine s_ildn (p' := 12) rfl rfl rfl ?_
  refine s_ildn (p' := 13) rfl rfl rfl ?_
  refine s_iasz (p' := 14) (m := 1) rfl rfl (rd_ss rfl H399) (by decide +kernel) rfl rfl rfl ?_
  refine s_incz (p' := 17) (w := (nI 2)) (ls' := [_, _, _, _]) rfl rfl rfl (by decide +kernel) rfl rfl ?_
  refine s_goto (p' := 5) rfl rfl ?_
  refine s_ildn (p' := 6) rfl rfl rfl ?_
  refine s_ildn (p' := 7) rfl rfl rfl ?_
  refine s_icmp (p' := 10) false rfl (by decide +kernel) rfl ?_
  refine s_aldn (p' := 11) rfl rfl rfl ?_
  refine s_ildn (p' := 12) rfl rfl rfl ?_
  refine s_ildn (p' := 13) rfl rfl rfl ?_
  refine s_iasz (p' := 14) (m := 2) rfl rfl (rd_ss rfl (rd_ss rfl H399)) (by decide +kernel) rfl rfl rfl ?_
  refine s_incz (p' := 17) (w := (nI 3)) (ls' := [_, _, _, _]) rfl rfl rfl (by decide +kernel) rfl rfl ?_
  refine s_goto (p' := 5) rfl rfl ?_
  refine s_ildn (p' := 6) rfl rfl rfl ?_
  refine s_ildn (p' := 7) rfl rfl rfl ?_
  refine s_icmp (p' := 10) false rfl (by decide +kernel) rfl ?_
  refine s_aldn (p' := 11) rfl rfl rfl ?_
  refine s_ildn (p' := 12) rfl rfl rfl ?_
  refine s_ildn (p' := 13) rfl rfl rfl ?_
  refine s_iasz (p' := 14) (m := 3) rfl rfl (rd_ss rfl (rd_ss rfl (rd_ss rfl H399))) (by decide +kernel) rfl rfl rfl ?_
  refine s_incz (p' := 17) (w := (nI 4)) (ls' := [_, _, _, _]) rfl rfl rfl (by decide +kernel) rfl rfl ?_
  refine s_goto (p' := 5) rfl rfl ?_
  refine s_ildn (p' := 6) rfl rfl rfl ?_
  refine s_ildn (p' := 7) rfl rfl rfl ?_
  refine s_icmp (p' := 10) false rfl (by decide +kernel) rfl ?_
  refine s_aldn (p' := 11) rfl rfl rfl ?_
  refine s_ildn (p' := 12) rfl rfl rfl ?_
  refine s_ildn (p' := 13) rfl rfl rfl ?_
  refine s_iasz (p' := 14) (m := 4) rfl rfl (rd_ss rfl (rd_ss rfl (rd_ss rfl (rd_ss rfl H399)))) (by decide +kernel) rfl rfl rfl ?_
  refine s_incz (p' := 17) (w := (nI 5)) (ls' := [_, _, _, _]) rfl rfl rfl (by decide +kernel) rfl rfl ?_
  refine s_goto (p' := 5) rfl rfl ?_
  refine s_ildn (p' := 6) rfl rfl rfl ?_
  refine s_ildn (p' := 7) rfl rfl rfl ?_
  refine s_icmp (p' := 10) false rfl (by decide +kernel) rfl ?_
  refine s_aldn (p' := 11) rfl rfl rfl ?_
  refine s_ildn (p' := 12) rfl rfl rfl ?_
  refine s_ildn (p' := 13) rfl rfl rfl ?_
  refine s_iasz (p' := 14) (m := 5) rfl rfl (rd_ss rfl (rd_ss rfl (rd_ss rfl (rd_ss rfl (rd_ss rfl H399))))) (by decide +kernel) rfl rfl rfl ?_
  refine s_incz (p' := 17) (w := (nI 6)) (ls' := [_, _, _, _]) rfl rfl rfl (by decide +kernel) rfl rfl ?_
  refine s_goto (p' := 5) rfl rfl ?_
  refine s_ildn (p' := 6) rfl rfl rfl ?_
  refine s_ildn (p' := 7) rfl rfl rfl ?_
  refine s_icmp (p' := 10) false rfl (by decide +kernel) rfl ?_
  refine s_aldn (p' := 11) rfl rfl rfl ?_
  refine s_ildn (p' := 12) rfl rfl rfl ?_
  refine s_ildn (p' := 13) rfl rfl rfl ?_
  refine s_iasz (p' := 14) (m := 6) rfl rfl (rd_ss rfl (rd_ss rfl (rd_ss rfl (rd_ss rfl (rd_ss rfl (rd_ss rfl H399)))))) (by decide +kernel) rfl rfl rfl ?_
  refine s_incz (p' := 17) (w := (nI 7)) (ls' := [_, _, _, _]) rfl rfl rfl (by decide +kernel) rfl rfl ?_
  refine s_goto (p' := 5) rfl rfl ?_
  refine s_ildn (p' := 6) rfl rfl rfl ?_
  refine s_ildn (p' := 7) rfl rfl rfl ?_
  refine s_icmp (p' := 10) false rfl (by decide +kernel) rfl ?_
  refine s_aldn (p' := 11) rfl rfl rfl ?_
  refine s_ildn (p' := 12) rfl rfl rfl ?_
  refine s_ildn (p' := 13) rfl rfl rfl ?_
  refine s_iasz (p' := 14) (m := 7) rfl rfl (rd_ss rfl (rd_ss rfl (rd_ss rfl (rd_ss rfl (rd_ss rfl (rd_ss rfl (rd_ss rfl H399))))))) (by decide +kernel) rfl rfl rfl ?_
  refine s_incz (p' := 17) (w := (nI 8)) (ls' := [_, _, _, _]) rfl rfl rfl (by decide +kernel) rfl rfl ?_
  refine s_goto (p' := 5) rfl rfl ?_
  refine s_ildn (p' := 6) rfl rfl rfl ?_
  refine s_ildn (p' := 7) rfl rfl rfl ?_
  refine s_icmp (p' := 20) true rfl (by decide +kernel) rfl ?_
  refine c_ret rfl ?_
  refine s_con (p' := 9) rfl rfl ?_
  refine s_istn (p' := 10) (ls' := [_, _, _]) rfl rfl rfl rfl ?_
  refine s_ildn (p' := 11) rfl rfl rfl ?_
  refine s_aldn (p' := 12) rfl rfl rfl ?_
  refine s_gf (p' := 15) rfl (rd_sn rfl (rd_sn rfl (rd_sn rfl (rd_sn rfl (rd_sn rfl (rd_sn rfl (rd_sn rfl (rd_sn rfl H0)))))))) rfl rfl ?_
  refine s_lenz (p' := 16) rfl (mj_rdA_is (rd_sn rfl (rd_sn rfl (rd_sn rfl (rd_sn rfl (rd_sn rfl (rd_sn rfl (rd_sn rfl (rd_sn rfl H397)))))))) (by decide)) rfl rfl ?_
  refine s_icmp (p' := 19) false rfl (by decide +kernel) rfl ?_
  refine s_aldn (p' := 20) rfl rfl rfl ?_
  refine s_gf (p' := 23) rfl (rd_sn rfl (rd_sn rfl (rd_sn rfl (rd_sn rfl (rd_sn rfl (rd_sn rfl (rd_sn rfl (rd_sn rfl H0)))))))) rfl rfl ?_
  refine s_ildn (p' := 24) rfl rfl rfl ?_
  refine s_ialz (p' := 25) (m := 0) (v := (nI 0)) rfl (rd_sn rfl (rd_sn rfl (rd_sn rfl (rd_sn rfl (rd_sn rfl (rd_sn rfl (rd_sn rfl (rd_sn rfl H397)))))))) (by decide +kernel) rfl (by decide +kernel) rfl ?_
  refine s_istn (p' := 26) (ls' := [_, _, _]) rfl rfl rfl rfl ?_
  refine s_ildn (p' := 27) rfl rfl rfl ?_
  refine c_call (p' := 30) (kc := 97) (ls0 := [_]) rfl rfl rfl rfl rfl rfl rfl rfl rfl ?_
  refine s_ildn (p' := 1) rfl rfl rfl ?_
  refine s_if (p' := 4) false rfl (by decide +kernel) rfl ?_
  refine s_ildn (p' := 5) rfl rfl rfl ?_
  refine s_bip (p' := 7) rfl rfl ?_
  refine s_icmp (p' := 10) false rfl (by decide +kernel) rfl ?_
  refine s_con (p' := 11) rfl rfl ?_
  refine s_goto (p' := 15) rfl rfl ?_
  refine c_iret rfl (by decide +kernel) ?_
  refine s_if (p' := 33) false rfl (by decide +kernel) rfl ?_
  refine s_aldn (p' := 34) rfl rfl rfl ?_
  refine s_gf (p' := 37) rfl (rd_sn rfl (rd_sn rfl (rd_sn rfl (rd_sn rfl (rd_sn rfl (rd_sn rfl (rd_sn rfl (rd_sn rfl H0)))))))) rfl rfl ?_
  refine s_ildn (p' := 38) rfl rfl rfl ?_
  refine s_sp (p' := 39) (ls' := _) rfl rfl rfl ?_
  refine s_ialz (p' := 40) (m := 0) (v := (nI 0)) rfl (rd_ss rfl (rd_ss rfl (rd_ss rfl (rd_ss rfl (rd_ss rfl (rd_ss rfl (rd_ss rfl (rd_ss rfl H399)))))))) (by decide +kernel) rfl (by decide +kernel) rfl ?_
  refine s_con (p' := 41) rfl rfl ?_
  refine s_bz (p' := 42) (z := (nI 1)) rfl rfl rfl (by decide +kernel) ?_
  refine s_iasz (p' := 43) (m := 0) rfl rfl (rd_ss rfl (rd_ss rfl (rd_ss rfl (rd_ss rfl (rd_ss rfl (rd_ss rfl (rd_ss rfl (rd_ss rfl H399)))))))) (by decide +kernel) rfl rfl rfl ?_
  refine s_incz (p' := 46) (w := (nI 1)) (ls' := [_, _, _]) rfl rfl rfl (by decide +kernel) rfl rfl ?_
  refine s_goto (p' := 10) rfl rfl ?_
  refine s_ildn (p' := 11) rfl rfl rfl ?_
  refine s_aldn (p' := 12) rfl rfl rfl ?_
  refine s_gf (p' := 15) rfl (rd_sn rfl (rd_sn rfl (rd_sn rfl (rd_sn rfl (rd_sn rfl (rd_sn rfl (rd_sn rfl (rd_sn rfl (rd_sn rfl H0))))))))) rfl rfl ?_
  refine s_lenz (p' := 16) rfl (mj_rdA_is (rd_sn rfl (rd_sn rfl (rd_sn rfl (rd_sn rfl (rd_sn rfl (rd_sn rfl (rd_sn rfl (rd_sn rfl (rd_sn rfl H397))))))))) (by decide)) rfl rfl ?_
  refine s_icmp (p' := 19) false rfl (by decide +kernel) rfl ?_
  refine s_aldn (p' := 20) rfl rfl rfl ?_
  refine s_gf (p' := 23) rfl (rd_sn rfl (rd_sn rfl (rd_sn rfl (rd_sn rfl (rd_sn rfl (rd_sn rfl (rd_sn rfl (rd_sn rfl (rd_sn rfl H0))))))))) rfl rfl ?_
  refine s_ildn (p' := 24) rfl rfl rfl ?_
  refine s_ialz (p' := 25) (m := 1) (v := (nI 0)) rfl (rd_sn rfl (rd_sn rfl (rd_sn rfl (rd_sn rfl (rd_sn rfl (rd_sn rfl (rd_sn rfl (rd_sn rfl (rd_sn rfl H397))))))))) (by decide +kernel) rfl (by decide +kernel) rfl ?_
  refine s_istn (p' := 26) (ls' := [_, _, _]) rfl rfl rfl rfl ?_
  refine s_ildn (p' := 27) rfl rfl rfl ?_
  refine c_call (p' := 30) (kc := 97) (ls0 := [_]) rfl rfl rfl rfl rfl rfl rfl rfl rfl ?_
  refine s_ildn (p' := 1) rfl rfl rfl ?_
  refine s_if (p' := 4) false rfl (by decide +kernel) rfl ?_
  refine s_ildn (p' := 5) rfl rfl rfl ?_
  refine s_bip (p' := 7) rfl rfl ?_
  refine s_icmp (p' := 10) false rfl (by decide +kernel) rfl ?_
  refine s_con (p' := 11) rfl rfl ?_
  refine s_goto (p' := 15) rfl rfl ?_
  refine c_iret rfl (by decide +kernel) ?_
  refine s_if (p' := 33) false rfl (by decide +kernel) rfl ?_
  refine s_aldn (p' := 34) rfl rfl rfl ?_
  refine s_gf (p' := 37) rfl (rd_sn rfl (rd_sn rfl (rd_sn rfl (rd_sn rfl (rd_sn rfl (rd_sn rfl (rd_sn rfl (rd_sn rfl (rd_sn rfl H0))))))))) rfl rfl ?_
  refine s_ildn (p' := 38) rfl rfl rfl ?_
  refine s_sp (p' := 39) (ls' := _) rfl rfl rfl ?_
  refine s_ialz (p' := 40) (m := 0) (v := (nI 1)) rfl (rd_ss rfl (rd_ss rfl (rd_ss rfl (rd_ss rfl (rd_ss rfl (rd_ss rfl (rd_ss rfl (rd_ss rfl (rd_ss rfl H399))))))))) (by decide +kernel) rfl (by decide +kernel) rfl ?_
  refine s_con (p' := 41) rfl rfl ?_
  refine s_bz (p' := 42) (z := (nI 2)) rfl rfl rfl (by decide +kernel) ?_
  refine s_iasz (p' := 43) (m := 0) rfl rfl (rd_ss rfl (rd_ss rfl (rd_ss rfl (rd_ss rfl (rd_ss rfl (rd_ss rfl (rd_ss rfl (rd_ss rfl (rd_ss rfl H399))))))))) (by decide +kernel) rfl rfl rfl ?_
  refine s_incz (p' := 46) (w := (nI 2)) (ls' := [_, _, _]) rfl rfl rfl (by decide +kernel) rfl rfl ?_
  refine s_goto (p' := 10) rfl rfl ?_
  refine s_ildn (p' := 11) rfl rfl rfl ?_
  refine s_aldn (p' := 12) rfl rfl rfl ?_
  refine s_gf (p' := 15) rfl (rd_sn rfl (rd_sn rfl (rd_sn rfl (rd_sn rfl (rd_sn rfl (rd_sn rfl (rd_sn rfl (rd_sn rfl (rd_sn rfl (rd_sn rfl H0)))))))))) rfl rfl ?_
  refine s_lenz (p' := 16) rfl (mj_rdA_is (rd_sn rfl (rd_sn rfl (rd_sn rfl (rd_sn rfl (rd_sn rfl (rd_sn rfl (rd_sn rfl (rd_sn rfl (rd_sn rfl (rd_sn rfl H397)))))))))) (by decide)) rfl rfl ?_
  refine s_icmp (p' := 19) false rfl (by decide +kernel) rfl ?_
  refine s_aldn (p' := 20) rfl rfl rfl ?_
  refine s_gf (p' := 23) rfl (rd_sn rfl (rd_sn rfl (rd_sn rfl (rd_sn rfl (rd_sn rfl (rd_sn rfl (rd_sn rfl (rd_sn rfl (rd_sn rfl (rd_sn rfl H0)))))))))) rfl rfl ?_
  refine s_ildn (p' := 24) rfl rfl rfl ?_
  refine s_ialz (p' := 25) (m := 2) (v := (nI 0)) rfl (rd_sn rfl (rd_sn rfl (rd_sn rfl (rd_sn rfl (rd_sn rfl (rd_sn rfl (rd_sn rfl (rd_sn rfl (rd_sn rfl (rd_sn rfl H397)))))))))) (by decide +kernel) rfl (by decide +kernel) rfl ?_
  refine s_istn (p' := 26) (ls' := [_, _, _]) rfl rfl rfl rfl ?_
  refine s_ildn (p' := 27) rfl rfl rfl ?_
  refine c_call (p' := 30) (kc := 97) (ls0 := [_]) rfl rfl rfl rfl rfl rfl rfl rfl rfl ?_
  refine s_ildn (p' := 1) rfl rfl rfl ?_
  refine s_if (p' := 4) false rfl (by decide +kernel) rfl ?_
  refine s_ildn (p' := 5) rfl rfl rfl ?_
  refine s_bip (p' := 7) rfl rfl ?_
  refine s_icmp (p' := 10) false rfl (by decide +kernel) rfl ?_
  refine s_con (p' := 11) rfl rfl ?_
  refine s_goto (p' := 15) rfl rfl ?_
  refine c_iret rfl (by decide +kernel) ?_
  refine s_if (p' := 33) false rfl (by decide +kernel) rfl ?_
  refine s_aldn (p' := 34) rfl rfl rfl ?_
  refine s_gf (p' := 37) rfl (rd_sn rfl (rd_sn rfl (rd_sn rfl (rd_sn rfl (rd_sn rfl (rd_sn rfl (rd_sn rfl (rd_sn rfl (rd_sn rfl (rd_sn rfl H0)))))))))) rfl rfl ?_
  refine s_ildn (p' := 38) rfl rfl rfl ?_
  refine s_sp (p' := 39) (ls' := _) rfl rfl rfl ?_
  refine s_ialz (p' := 40) (m := 0) (v := (nI 2)) rfl (rd_ss rfl (rd_ss rfl (rd_ss rfl (rd_ss rfl (rd_ss rfl (rd_ss rfl (rd_ss rfl (rd_ss rfl (rd_ss rfl (rd_ss rfl H399)))))))))) (by decide +kernel) rfl (by decide +kernel) rfl ?_
  refine s_con (p' := 41) rfl rfl ?_
  refine s_bz (p' := 42) (z := (nI 3)) rfl rfl rfl (by decide +kernel) ?_
  refine s_iasz (p' := 43) (m := 0) rfl rfl (rd_ss rfl (rd_ss rfl (rd_ss rfl (rd_ss rfl (rd_ss rfl (rd_ss rfl (rd_ss rfl (rd_ss rfl (rd_ss rfl (rd_ss rfl H399)))))))))) (by decide +kernel) rfl rfl rfl ?_
  refine s_incz (p' := 46) (w := (nI 3)) (ls' := [_, _, _]) rfl rfl rfl (by decide +kernel) rfl rfl ?_
  refine s_goto (p' := 10) rfl rfl ?_
  refine s_ildn (p' := 11) rfl rfl rfl ?_
  refine s_aldn (p' := 12) rfl rfl rfl ?_
  refine s_gf (p' := 15) rfl (rd_sn rfl (rd_sn rfl (rd_sn rfl (rd_sn rfl (rd_sn rfl (rd_sn rfl (rd_sn rfl (rd_sn rfl (rd_sn rfl (rd_sn rfl (rd_sn rfl H0))))))))))) rfl rfl ?_
  refine s_lenz (p' := 16) rfl (mj_rdA_is (rd_sn rfl (rd_sn rfl (rd_sn rfl (rd_sn rfl (rd_sn rfl (rd_sn rfl (rd_sn rfl (rd_sn rfl (rd_sn rfl (rd_sn rfl (rd_sn rfl H397))))))))))) (by decide)) rfl rfl ?_
  refine s_icmp (p' := 19) false rfl (by decide +kernel) rfl ?_
  refine s_aldn (p' := 20) rfl rfl rfl ?_
  refine s_gf (p' := 23) rfl (rd_sn rfl (rd_sn rfl (rd_sn rfl (rd_sn rfl (rd_sn rfl (rd_sn rfl (rd_sn rfl (rd_sn rfl (rd_sn rfl (rd_sn rfl (rd_sn rfl H0))))))))))) rfl rfl ?_
  refine s_ildn (p' := 24) rfl rfl rfl ?_
  refine s_ialz (p' := 25) (m := 3) (v := (nI 0)) rfl (rd_sn rfl (rd_sn rfl (rd_sn rfl (rd_sn rfl (rd_sn rfl (rd_sn rfl (rd_sn rfl (rd_sn rfl (rd_sn rfl (rd_sn rfl (rd_sn rfl H397))))))))))) (by decide +kernel) rfl (by decide +kernel) rfl ?_
  refine s_istn (p' := 26) (ls' := [_, _, _]) rfl rfl rfl rfl ?_
  refine s_ildn (p' := 27) rfl rfl rfl ?_
  refine c_call (p' := 30) (kc := 97) (ls0 := [_]) rfl rfl rfl rfl rfl rfl rfl rfl rfl ?_
  refine s_ildn (p' := 1) rfl rfl rfl ?_
  refine s_if (p' := 4) false rfl (by decide +kernel) rfl ?_
  refine s_ildn (p' := 5) rfl rfl rfl ?_
  refine s_bip (p' := 7) rfl rfl ?_
  refine s_icmp (p' := 10) false rfl (by decide +kernel) rfl ?_
  refine s_con (p' := 11) rfl rfl ?_
  refine s_goto (p' := 15) rfl rfl ?_
  refine c_iret rfl (by decide +kernel) ?_
  refine s_if (p' := 33) false rfl (by decide +kernel) rfl ?_
  refine s_aldn (p' := 34) rfl rfl rfl ?_
  refine s_gf (p' := 37) rfl (rd_sn rfl (rd_sn rfl (rd_sn rfl (rd_sn rfl (rd_sn rfl (rd_sn rfl (rd_sn rfl (rd_sn rfl (rd_sn rfl (rd_sn rfl (rd_sn rfl H0))))))))))) rfl rfl ?_
  refine s_ildn (p' := 38) rfl rfl rfl ?_
  refine s_sp (p' := 39) (ls' := _) rfl rfl rfl ?_
  refine s_ialz (p' := 40) (m := 0) (v := (nI 3)) rfl (rd_ss rfl (rd_ss rfl (rd_ss rfl (rd_ss rfl (rd_ss rfl (rd_ss rfl (rd_ss rfl (rd_ss rfl (rd_ss rfl (rd_ss rfl (rd_ss rfl H399))))))))))) (by decide +kernel) rfl (by decide +kernel) rfl ?_
  refine s_con (p' := 41) rfl rfl ?_
  refine s_bz (p' := 42) (z := (nI 4)) rfl rfl rfl (by decide +kernel) ?_
  refine s_iasz (p' := 43) (m := 0) rfl rfl (rd_ss rfl (rd_ss rfl (rd_ss rfl (rd_ss rfl (rd_ss rfl (rd_ss rfl (rd_ss rfl (rd_ss rfl (rd_ss rfl (rd_ss rfl (rd_ss rfl H399))))))))))) (by decide +kernel) rfl rfl rfl ?_
  refine s_incz (p' := 46) (w := (nI 4)) (ls' := [_, _, _]) rfl rfl rfl (by decide +kernel) rfl rfl ?_
  refine s_goto (p' := 10) rfl rfl ?_
  refine s_ildn (p' := 11) rfl rfl rfl ?_
  refine s_aldn (p' := 12) rfl rfl rfl ?_
  refine s_gf (p' := 15) rfl (rd_sn rfl (rd_sn rfl (rd_sn rfl (rd_sn rfl (rd_sn rfl (rd_sn rfl (rd_sn rfl (rd_sn rfl (rd_sn rfl (rd_sn rfl (rd_sn rfl (rd_sn rfl H0)))))))))))) rfl rfl ?_
  refine s_lenz (p' := 16) rfl (mj_rdA_is (rd_sn rfl (rd_sn rfl (rd_sn rfl (rd_sn rfl (rd_sn rfl (rd_sn rfl (rd_sn rfl (rd_sn rfl (rd_sn rfl (rd_sn rfl (rd_sn rfl (rd_sn rfl H397)))))))))))) (by decide)) rfl rfl ?_
  refine s_icmp (p' := 19) false rfl (by decide +kernel) rfl ?_
  refine s_aldn (p' := 20) rfl rfl rfl ?_
  refine s_gf (p' := 23) rfl (rd_sn rfl (rd_sn rfl (rd_sn rfl (rd_sn rfl (rd_sn rfl (rd_sn rfl (rd_sn rfl (rd_sn rfl (rd_sn rfl (rd_sn rfl (rd_sn rfl (rd_sn rfl H0)))))))))))) rfl rfl ?_
  refine s_ildn (p' := 24) rfl rfl rfl ?_
  refine s_ialz (p' := 25) (m := 4) (v := (nI 0)) rfl (rd_sn rfl (rd_sn rfl (rd_sn rfl (rd_sn rfl (rd_sn rfl (rd_sn rfl (rd_sn rfl (rd_sn rfl (rd_sn rfl (rd_sn rfl (rd_sn rfl (rd_sn rfl H397)))))))))))) (by decide +kernel) rfl (by decide +kernel) rfl ?_
  refine s_istn (p' := 26) (ls' := [_, _, _]) rfl rfl rfl rfl ?_
  refine s_ildn (p' := 27) rfl rfl rfl ?_
  refine c_call (p' := 30) (kc := 97) (ls0 := [_]) rfl rfl rfl rfl rfl rfl rfl rfl rfl ?_
  refine s_ildn (p' := 1) rfl rfl rfl ?_
  refine s_if (p' := 4) false rfl (by decide +kernel) rfl ?_
  refine s_ildn (p' := 5) rfl rfl rfl ?_
  refine s_bip (p' := 7) rfl rfl ?_
  refine s_icmp (p' := 10) false rfl (by decide +kernel) rfl ?_
  refine s_con (p' := 11) rfl rfl ?_
  refine s_goto (p' := 15) rfl rfl ?_
  refine c_iret rfl (by decide +kernel) ?_
  refine s_if (p' := 33) false rfl (by decide +kernel) rfl ?_
  refine s_aldn (p' := 34) rfl rfl rfl ?_
  refine s_gf (p' := 37) rfl (rd_sn rfl (rd_sn rfl (rd_sn rfl (rd_sn rfl (rd_sn rfl (rd_sn rfl (rd_sn rfl (rd_sn rfl (rd_sn rfl (rd_sn rfl (rd_sn rfl (rd_sn rfl H0)))))))))))) rfl rfl ?_
  refine s_ildn (p' := 38) rfl rfl rfl ?_
  refine s_sp (p' := 39) (ls' := _) rfl rfl rfl ?_
  refine s_ialz (p' := 40) (m := 0) (v := (nI 4)) rfl (rd_ss rfl (rd_ss rfl (rd_ss rfl (rd_ss rfl (rd_ss rfl (rd_ss rfl (rd_ss rfl (rd_ss rfl (rd_ss rfl (rd_ss rfl (rd_ss rfl (rd_ss rfl H399)))))))))))) (by decide +kernel) rfl (by decide +kernel) rfl ?_
  refine s_con (p' := 41) rfl rfl ?_
  refine s_bz (p' := 42) (z := (nI 5)) rfl rfl rfl (by decide +kernel) ?_
  refine s_iasz (p' := 43) (m := 0) rfl rfl (rd_ss rfl (rd_ss rfl (rd_ss rfl (rd_ss rfl (rd_ss rfl (rd_ss rfl (rd_ss rfl (rd_ss rfl (rd_ss rfl (rd_ss rfl (rd_ss rfl (rd_ss rfl H399)))))))))))) (by decide +kernel) rfl rfl rfl ?_
  refine s_incz (p' := 46) (w := (nI 5)) (ls' := [_, _, _]) rfl rfl rfl (by decide +kernel) rfl rfl ?_
  refine s_goto (p' := 10) rfl rfl ?_
  refine s_ildn (p' := 11) rfl rfl rfl ?_
  refine s_aldn (p' := 12) rfl rfl rfl ?_
  refine s_gf (p' := 15) rfl (rd_sn rfl (rd_sn rfl (rd_sn rfl (rd_sn rfl (rd_sn rfl (rd_sn rfl (rd_sn rfl (rd_sn rfl (rd_sn rfl (rd_sn rfl (rd_sn rfl (rd_sn rfl (rd_sn rfl H0))))))))))))) rfl rfl ?_
  refine s_lenz (p' := 16) rfl (mj_rdA_is (rd_sn rfl (rd_sn rfl (rd_sn rfl (rd_sn rfl (rd_sn rfl (rd_sn rfl (rd_sn rfl (rd_sn rfl (rd_sn rfl (rd_sn rfl (rd_sn rfl (rd_sn rfl (rd_sn rfl H397))))))))))))) (by decide)) rfl rfl ?_
  refine s_icmp (p' := 19) false rfl (by decide +kernel) rfl ?_
  refine s_aldn (p' := 20) rfl rfl rfl ?_
  refine s_gf (p' := 23) rfl (rd_sn rfl (rd_sn rfl (rd_sn rfl (rd_sn rfl (rd_sn rfl (rd_sn rfl (rd_sn rfl (rd_sn rfl (rd_sn rfl (rd_sn rfl (rd_sn rfl (rd_sn rfl (rd_sn rfl H0))))))))))))) rfl rfl ?_
  refine s_ildn (p' := 24) rfl rfl rfl ?_
  refine s_ialz (p' := 25) (m := 5) (v := (nI 0)) rfl (rd_sn rfl (rd_sn rfl (rd_sn rfl (rd_sn rfl (rd_sn rfl (rd_sn rfl (rd_sn rfl (rd_sn rfl (rd_sn rfl (rd_sn rfl (rd_sn rfl (rd_sn rfl (rd_sn rfl H397))))))))))))) (by decide +kernel) rfl (by decide +kernel) rfl ?_
  refine s_istn (p' := 26) (ls' := [_, _, _]) rfl rfl rfl rfl ?_
  refine s_ildn (p' := 27) rfl rfl rfl ?_
  refine c_call (p' := 30) (kc := 97) (ls0 := [_]) rfl rfl rfl rfl rfl rfl rfl rfl rfl ?_
  refine s_ildn (p' := 1) rfl rfl rfl ?_
  refine s_if (p' := 4) false rfl (by decide +kernel) rfl ?_
  refine s_ildn (p' := 5) rfl rfl rfl ?_
  refine s_bip (p' := 7) rfl rfl ?_
  refine s_icmp (p' := 10) false rfl (by decide +kernel) rfl ?_
  refine s_con (p' := 11) rfl rfl ?_
  refine s_goto (p' := 15) rfl rfl ?_
  refine c_iret rfl (by decide +kernel) ?_
  refine s_if (p' := 33) false rfl (by decide +kernel) rfl ?_
  refine s_aldn (p' := 34) rfl rfl rfl ?_
  refine s_gf (p' := 37) rfl (rd_sn rfl (rd_sn rfl (rd_sn rfl (rd_sn rfl (rd_sn rfl (rd_sn rfl (rd_sn rfl (rd_sn rfl (rd_sn rfl (rd_sn rfl (rd_sn rfl (rd_sn rfl (rd_sn rfl H0))))))))))))) rfl rfl ?_
  refine s_ildn (p' := 38) rfl rfl rfl ?_
  refine s_sp (p' := 39) (ls' := _) rfl rfl rfl ?_
  refine s_ialz (p' := 40) (m := 0) (v := (nI 5)) rfl (rd_ss rfl (rd_ss rfl (rd_ss rfl (rd_ss rfl (rd_ss rfl (rd_ss rfl (rd_ss rfl (rd_ss rfl (rd_ss rfl (rd_ss rfl (rd_ss rfl (rd_ss rfl (rd_ss rfl H399))))))))))))) (by decide +kernel) rfl (by decide +kernel) rfl ?_
  refine s_con (p' := 41) rfl rfl ?_
  refine s_bz (p' := 42) (z := (nI 6)) rfl rfl rfl (by decide +kernel) ?_
  refine s_iasz (p' := 43) (m := 0) rfl rfl (rd_ss rfl (rd_ss rfl (rd_ss rfl (rd_ss rfl (rd_ss rfl (rd_ss rfl (rd_ss rfl (rd_ss rfl (rd_ss rfl (rd_ss rfl (rd_ss rfl (rd_ss rfl (rd_ss rfl H399))))))))))))) (by decide +kernel) rfl rfl rfl ?_
  refine s_incz (p' := 46) (w := (nI 6)) (ls' := [_, _, _]) rfl rfl rfl (by decide +kernel) rfl rfl ?_
  refine s_goto (p' := 10) rfl rfl ?_
  refine s_ildn (p' := 11) rfl rfl rfl ?_
  refine s_aldn (p' := 12) rfl rfl rfl ?_
  refine s_gf (p' := 15) rfl (rd_sn rfl (rd_sn rfl (rd_sn rfl (rd_sn rfl (rd_sn rfl (rd_sn rfl (rd_sn rfl (rd_sn rfl (rd_sn rfl (rd_sn rfl (rd_sn rfl (rd_sn rfl (rd_sn rfl (rd_sn rfl H0)))))))))))))) rfl rfl ?_
  refine s_lenz (p' := 16) rfl (mj_rdA_is (rd_sn rfl (rd_sn rfl (rd_sn rfl (rd_sn rfl (rd_sn rfl (rd_sn rfl (rd_sn rfl (rd_sn rfl (rd_sn rfl (rd_sn rfl (rd_sn rfl (rd_sn rfl (rd_sn rfl (rd_sn rfl H397)))))))))))))) (by decide)) rfl rfl ?_
  refine s_icmp (p' := 19) false rfl (by decide +kernel) rfl ?_
  refine s_aldn (p' := 20) rfl rfl rfl ?_
  refine s_gf (p' := 23) rfl (rd_sn rfl (rd_sn rfl (rd_sn rfl (rd_sn rfl (rd_sn rfl (rd_sn rfl (rd_sn rfl (rd_sn rfl (rd_sn rfl (rd_sn rfl (rd_sn rfl (rd_sn rfl (rd_sn rfl (rd_sn rfl H0)))))))))))))) rfl rfl ?_
  refine s_ildn (p' := 24) rfl rfl rfl ?_
  refine s_ialz (p' := 25) (m := 6) (v := (nI 0)) rfl (rd_sn rfl (rd_sn rfl (rd_sn rfl (rd_sn rfl (rd_sn rfl (rd_sn rfl (rd_sn rfl (rd_sn rfl (rd_sn rfl (rd_sn rfl (rd_sn rfl (rd_sn rfl (rd_sn rfl (rd_sn rfl H397)))))))))))))) (by decide +kernel) rfl (by decide +kernel) rfl ?_
  refine s_istn (p' := 26) (ls' := [_, _, _]) rfl rfl rfl rfl ?_
  refine s_ildn (p' := 27) rfl rfl rfl ?_
  refine c_call (p' := 30) (kc := 97) (ls0 := [_]) rfl rfl rfl rfl rfl rfl rfl rfl rfl ?_
  refine s_ildn (p' := 1) rfl rfl rfl ?_
  refine s_if (p' := 4) false rfl (by decide +kernel) rfl ?_
  refine s_ildn (p' := 5) rfl rfl rfl ?_
  refine s_bip (p' := 7) rfl rfl ?_
  refine s_icmp (p' := 10) false rfl (by decide +kernel) rfl ?_
  refine s_con (p' := 11) rfl rfl ?_
  refine s_goto (p' := 15) rfl rfl ?_
  refine c_iret rfl (by decide +kernel) ?_
  refine s_if (p' := 33) false rfl (by decide +kernel) rfl ?_
  refine s_aldn (p' := 34) rfl rfl rfl ?_
  refine s_gf (p' := 37) rfl (rd_sn rfl (rd_sn rfl (rd_sn rfl (rd_sn rfl (rd_sn rfl (rd_sn rfl (rd_sn rfl (rd_sn rfl (rd_sn rfl (rd_sn rfl (rd_sn rfl (rd_sn rfl (rd_sn rfl (rd_sn rfl H0)))))))))))))) rfl rfl ?_
  refine s_ildn (p' := 38) rfl rfl rfl ?_
  refine s_sp (p' := 39) (ls' := _) rfl rfl rfl ?_
  refine s_ialz (p' := 40) (m := 0) (v := (nI 6)) rfl (rd_ss rfl (rd_ss rfl (rd_ss rfl (rd_ss rfl (rd_ss rfl (rd_ss rfl (rd_ss rfl (rd_ss rfl (rd_ss rfl (rd_ss rfl (rd_ss rfl (rd_ss rfl (rd_ss rfl (rd_ss rfl H399)))))))))))))) (by decide +kernel) rfl (by decide +kernel) rfl ?_
  refine s_con (p' := 41) rfl rfl ?_
  refine s_bz (p' := 42) (z := (nI 7)) rfl rfl rfl (by decide +kernel) ?_
  refine s_iasz (p' := 43) (m := 0) rfl rfl (rd_ss rfl (rd_ss rfl (rd_ss rfl (rd_ss rfl (rd_ss rfl (rd_ss rfl (rd_ss rfl (rd_ss rfl (rd_ss rfl (rd_ss rfl (rd_ss rfl (rd_ss rfl (rd_ss rfl (rd_ss rfl H399)))))))))))))) (by decide +kernel) rfl rfl rfl ?_
  refine s_incz (p' := 46) (w := (nI 7)) (ls' := [_, _, _]) rfl rfl rfl (by decide +kernel) rfl rfl ?_
  refine s_goto (p' := 10) rfl rfl ?_
  refine s_ildn (p' := 11) rfl rfl rfl ?_
  refine s_aldn (p' := 12) rfl rfl rfl ?_
  refine s_gf (p' := 15) rfl (rd_sn rfl (rd_sn rfl (rd_sn rfl (rd_sn rfl (rd_sn rfl (rd_sn rfl (rd_sn rfl (rd_sn rfl (rd_sn rfl (rd_sn rfl (rd_sn rfl (rd_sn rfl (rd_sn rfl (rd_sn rfl (rd_sn rfl H0))))))))))))))) rfl rfl ?_
  refine s_lenz (p' := 16) rfl (mj_rdA_is (rd_sn rfl (rd_sn rfl (rd_sn rfl (rd_sn rfl (rd_sn rfl (rd_sn rfl (rd_sn rfl (rd_sn rfl (rd_sn rfl (rd_sn rfl (rd_sn rfl (rd_sn rfl (rd_sn rfl (rd_sn rfl (rd_sn rfl H397))))))))))))))) (by decide)) rfl rfl ?_
  refine s_icmp (p' := 19) false rfl (by decide +kernel) rfl ?_
  refine s_aldn (p' := 20) rfl rfl rfl ?_
  refine s_gf (p' := 23) rfl (rd_sn rfl (rd_sn rfl (rd_sn rfl (rd_sn rfl (rd_sn rfl (rd_sn rfl (rd_sn rfl (rd_sn rfl (rd_sn rfl (rd_sn rfl (rd_sn rfl (rd_sn rfl (rd_sn rfl (rd_sn rfl (rd_sn rfl H0))))))))))))))) rfl rfl ?_
  refine s_ildn (p' := 24) rfl rfl rfl ?_
  refine s_ialz (p' := 25) (m := 7) (v := (nI 0)) rfl (rd_sn rfl (rd_sn rfl (rd_sn rfl (rd_sn rfl (rd_sn rfl (rd_sn rfl (rd_sn rfl (rd_sn rfl (rd_sn rfl (rd_sn rfl (rd_sn rfl (rd_sn rfl (rd_sn rfl (rd_sn rfl (rd_sn rfl H397))))))))))))))) (by decide +kernel) rfl (by decide +kernel) rfl ?_
  refine s_istn (p' := 26) (ls' := [_, _, _]) rfl rfl rfl rfl ?_
  refine s_ildn (p' := 27) rfl rfl rfl ?_
  refine c_call (p' := 30) (kc := 97) (ls0 := [_]) rfl rfl rfl rfl rfl rfl rfl rfl rfl ?_
  refine s_ildn (p' := 1) rfl rfl rfl ?_
  refine s_if (p' := 4) false rfl (by decide +kernel) rfl ?_
  refine s_ildn (p' := 5) rfl rfl rfl ?_
  refine s_bip (p' := 7) rfl rfl ?_
  refine s_icmp (p' := 10) false rfl (by decide +kernel) rfl ?_
  refine s_con (p' := 11) rfl rfl ?_
  refine s_goto (p' := 15) rfl rfl ?_
  refine c_iret rfl (by decide +kernel) ?_
  refine s_if (p' := 33) false rfl (by decide +kernel) rfl ?_
  refine s_aldn (p' := 34) rfl rfl rfl ?_
  refine s_gf (p' := 37) rfl (rd_sn rfl (rd_sn rfl (rd_sn rfl (rd_sn rfl (rd_sn rfl (rd_sn rfl (rd_sn rfl (rd_sn rfl (rd_sn rfl (rd_sn rfl (rd_sn rfl (rd_sn rfl (rd_sn rfl (rd_sn rfl (rd_sn rfl H0))))))))))))))) rfl rfl ?_
  refine s_ildn (p' := 38) rfl rfl rfl ?_
  refine s_sp (p' := 39) (ls' := _) rfl rfl rfl ?_
  refine s_ialz (p' := 40) (m := 0) (v := (nI 7)) rfl (rd_ss rfl (rd_ss rfl (rd_ss rfl (rd_ss rfl (rd_ss rfl (rd_ss rfl (rd_ss rfl (rd_ss rfl (rd_ss rfl (rd_ss rfl (rd_ss rfl (rd_ss rfl (rd_ss rfl (rd_ss rfl (rd_ss rfl H399))))))))))))))) (by decide +kernel) rfl (by decide +kernel) rfl ?_
  refine s_con (p' := 41) rfl rfl ?_
  refine s_bz (p' := 42) (z := (nI 8)) rfl rfl rfl (by decide +kernel) ?_
  refine s_iasz (p' := 43) (m := 0) rfl rfl (rd_ss rfl (rd_ss rfl (rd_ss rfl (rd_ss rfl (rd_ss rfl (rd_ss rfl (rd_ss rfl (rd_ss rfl (rd_ss rfl (rd_ss rfl (rd_ss rfl (rd_ss rfl (rd_ss rfl (rd_ss rfl (rd_ss rfl H399))))))))))))))) (by decide +kernel) rfl rfl rfl ?_
  refine s_incz (p' := 46) (w := (nI 8)) (ls' := [_, _, _]) rfl rfl rfl (by decide +kernel) rfl rfl ?_
  refine s_goto (p' := 10) rfl rfl ?_
  refine s_ildn (p' := 11) rfl rfl rfl ?_
  refine s_aldn (p' := 12) rfl rfl rfl ?_
  refine s_gf (p' := 15) rfl (rd_sn rfl (rd_sn rfl (rd_sn rfl (rd_sn rfl (rd_sn rfl (rd_sn rfl (rd_sn rfl (rd_sn rfl (rd_sn rfl (rd_sn rfl (rd_sn rfl (rd_sn rfl (rd_sn rfl (rd_sn rfl (rd_sn rfl (rd_sn rfl H0)))))))))))))))) rfl rfl ?_
  refine s_lenz (p' := 16) rfl (mj_rdA_is (rd_sn rfl (rd_sn rfl (rd_sn rfl (rd_sn rfl (rd_sn rfl (rd_sn rfl (rd_sn rfl (rd_sn rfl (rd_sn rfl (rd_sn rfl (rd_sn rfl (rd_sn rfl (rd_sn rfl (rd_sn rfl (rd_sn rfl (rd_sn rfl H397)))))))))))))))) (by decide)) rfl rfl ?_
  refine s_icmp (p' := 49) true rfl (by decide +kernel) rfl ?_
  refine c_ret rfl ?_
  refine s_con (p' := 5) rfl rfl ?_
  refine s_istn (p' := 6) (ls' := [_, _, _]) rfl rfl rfl rfl ?_
  refine s_con (p' := 7) rfl rfl ?_
  refine s_istn (p' := 8) (ls' := [_, _, _]) rfl rfl rfl rfl ?_
  refine s_ildn (p' := 9) rfl rfl rfl ?_
  refine s_aldn (p' := 10) rfl rfl rfl ?_
  refine s_gf (p' := 13) rfl (rd_sn rfl (rd_sn rfl (rd_sn rfl (rd_sn rfl (rd_sn rfl (rd_sn rfl (rd_sn rfl (rd_sn rfl (rd_sn rfl (rd_sn rfl (rd_sn rfl (rd_sn rfl (rd_sn rfl (rd_sn rfl (rd_sn rfl (rd_sn rfl H0)))))))))))))))) rfl rfl ?_
  refine s_lenz (p' := 14) rfl (mj_rdA_is (rd_ss rfl (rd_ss rfl (rd_ss rfl (rd_ss rfl (rd_ss rfl (rd_ss rfl (rd_ss rfl (rd_ss rfl (rd_ss rfl (rd_ss rfl (rd_ss rfl (rd_ss rfl (rd_ss rfl (rd_ss rfl (rd_ss rfl (rd_ss rfl H399)))))))))))))))) (by decide)) rfl rfl ?_
  refine s_icmp (p' := 17) false rfl (by decide +kernel) rfl ?_
  refine s_ildn (p' := 18) rfl rfl rfl ?_
  refine s_aldn (p' := 19) rfl rfl rfl ?_
  refine s_gf (p' := 22) rfl (rd_sn rfl (rd_sn rfl (rd_sn rfl (rd_sn rfl (rd_sn rfl (rd_sn rfl (rd_sn rfl (rd_sn rfl (rd_sn rfl (rd_sn rfl (rd_sn rfl (rd_sn rfl (rd_sn rfl (rd_sn rfl (rd_sn rfl (rd_sn rfl H0)))))))))))))))) rfl rfl ?_
  refine s_ildn (p' := 23) rfl rfl rfl ?_
  refine s_ialz (p' := 24) (m := 0) (v := (nI 8)) rfl (rd_ss rfl (rd_ss rfl (rd_ss rfl (rd_ss rfl (rd_ss rfl (rd_ss rfl (rd_ss rfl (rd_ss rfl (rd_ss rfl (rd_ss rfl (rd_ss rfl (rd_ss rfl (rd_ss rfl (rd_ss rfl (rd_ss rfl (rd_ss rfl H399)))))))))))))))) (by decide +kernel) rfl (by decide +kernel) rfl ?_
  refine s_primV (p' := 27) (q := 4) rfl rfl rfl rfl rfl rfl (p_max (x := (nI 1)) (y := (nI 8)) (z := (nI 8)) (by decide +kernel)) rfl ?_
  refine s_istn (p' := 28) (ls' := [_, _, _]) rfl rfl rfl rfl ?_
  refine s_incz (p' := 31) (w := (nI 1)) (ls' := [_, _, _]) rfl rfl rfl (by decide +kernel) rfl rfl ?_
  refine s_goto (p' := 8) rfl rfl ?_
  refine s_ildn (p' := 9) rfl rfl rfl ?_
  refine s_aldn (p' := 10) rfl rfl rfl ?_
  refine s_gf (p' := 13) rfl (rd_sn rfl (rd_sn rfl (rd_sn rfl (rd_sn rfl (rd_sn rfl (rd_sn rfl (rd_sn rfl (rd_sn rfl (rd_sn rfl (rd_sn rfl (rd_sn rfl (rd_sn rfl (rd_sn rfl (rd_sn rfl (rd_sn rfl (rd_sn rfl H0)))))))))))))))) rfl rfl ?_
  refine s_lenz (p' := 14) rfl (mj_rdA_is (rd_ss rfl (rd_ss rfl (rd_ss rfl (rd_ss rfl (rd_ss rfl (rd_ss rfl (rd_ss rfl (rd_ss rfl (rd_ss rfl (rd_ss rfl (rd_ss rfl (rd_ss rfl (rd_ss rfl (rd_ss rfl (rd_ss rfl (rd_ss rfl H399)))))))))))))))) (by decide)) rfl rfl ?_
  refine s_icmp (p' := 17) false rfl (by decide +kernel) rfl ?_
  refine s_ildn (p' := 18) rfl rfl rfl ?_
  refine s_aldn (p' := 19) rfl rfl rfl ?_
  refine s_gf (p' := 22) rfl (rd_sn rfl (rd_sn rfl (rd_sn rfl (rd_sn rfl (rd_sn rfl (rd_sn rfl (rd_sn rfl (rd_sn rfl (rd_sn rfl (rd_sn rfl (rd_sn rfl (rd_sn rfl (rd_sn rfl (rd_sn rfl (rd_sn rfl (rd_sn rfl H0)))))))))))))))) rfl rfl ?_
  refine s_ildn (p' := 23) rfl rfl rfl ?_
  refine s_ialz (p' := 24) (m := 1) (v := (nI 0)) rfl (rd_ss rfl (rd_ss rfl (rd_ss rfl (rd_ss rfl (rd_ss rfl (rd_ss rfl (rd_ss rfl (rd_ss rfl (rd_ss rfl (rd_ss rfl (rd_ss rfl (rd_ss rfl (rd_ss rfl (rd_ss rfl (rd_ss rfl (rd_ss rfl H399)))))))))))))))) (by decide +kernel) rfl (by decide +kernel) rfl ?_
  refine s_primV (p' := 27) (q := 4) rfl rfl rfl rfl rfl rfl (p_max (x := (nI 8)) (y := (nI 0)) (z := (nI 8)) (by decide +kernel)) rfl ?_
  refine s_istn (p' := 28) (ls' := [_, _, _]) rfl rfl rfl rfl ?_
  refine s_incz (p' := 31) (w := (nI 2)) (ls' := [_, _, _]) rfl rfl rfl (by decide +kernel) rfl rfl ?_
  refine s_goto (p' := 8) rfl rfl ?_
  refine s_ildn (p' := 9) rfl rfl rfl ?_
  refine s_aldn (p' := 10) rfl rfl rfl ?_
  refine s_gf (p' := 13) rfl (rd_sn rfl (rd_sn rfl (rd_sn rfl (rd_sn rfl (rd_sn rfl (rd_sn rfl (rd_sn rfl (rd_sn rfl (rd_sn rfl (rd_sn rfl (rd_sn rfl (rd_sn rfl (rd_sn rfl (rd_sn rfl (rd_sn rfl (rd_sn rfl H0)))))))))))))))) rfl rfl ?_
  refine s_lenz (p' := 14) rfl (mj_rdA_is (rd_ss rfl (rd_ss rfl (rd_ss rfl (rd_ss rfl (rd_ss rfl (rd_ss rfl (rd_ss rfl (rd_ss rfl (rd_ss rfl (rd_ss rfl (rd_ss rfl (rd_ss rfl (rd_ss rfl (rd_ss rfl (rd_ss rfl (rd_ss rfl H399)))))))))))))))) (by decide)) rfl rfl ?_
  refine s_icmp (p' := 17) false rfl (by decide +kernel) rfl ?_
  refine s_ildn (p' := 18) rfl rfl rfl ?_
  refine s_aldn (p' := 19) rfl rfl rfl ?_
  refine s_gf (p' := 22) rfl (rd_sn rfl (rd_sn rfl (rd_sn rfl (rd_sn rfl (rd_sn rfl (rd_sn rfl (rd_sn rfl (rd_sn rfl (rd_sn rfl (rd_sn rfl (rd_sn rfl (rd_sn rfl (rd_sn rfl (rd_sn rfl (rd_sn rfl (rd_sn rfl H0)))))))))))))))) rfl rfl ?_
  refine s_ildn (p' := 23) rfl rfl rfl ?_
  refine s_ialz (p' := 24) (m := 2) (v := (nI 0)) rfl (rd_ss rfl (rd_ss rfl (rd_ss rfl (rd_ss rfl (rd_ss rfl (rd_ss rfl (rd_ss rfl (rd_ss rfl (rd_ss rfl (rd_ss rfl (rd_ss rfl (rd_ss rfl (rd_ss rfl (rd_ss rfl (rd_ss rfl (rd_ss rfl H399)))))))))))))))) (by decide +kernel) rfl (by decide +kernel) rfl ?_
  refine s_primV (p' := 27) (q := 4) rfl rfl rfl rfl rfl rfl (p_max (x := (nI 8)) (y := (nI 0)) (z := (nI 8)) (by decide +kernel)) rfl ?_
  refine s_istn (p' := 28) (ls' := [_, _, _]) rfl rfl rfl rfl ?_
  refine s_incz (p' := 31) (w := (nI 3)) (ls' := [_, _, _]) rfl rfl rfl (by decide +kernel) rfl rfl ?_
  refine s_goto (p' := 8) rfl rfl ?_
  refine s_ildn (p' := 9) rfl rfl rfl ?_
  refine s_aldn (p' := 10) rfl rfl rfl ?_
  refine s_gf (p' := 13) rfl (rd_sn rfl (rd_sn rfl (rd_sn rfl (rd_sn rfl (rd_sn rfl (rd_sn rfl (rd_sn rfl (rd_sn rfl (rd_sn rfl (rd_sn rfl (rd_sn rfl (rd_sn rfl (rd_sn rfl (rd_sn rfl (rd_sn rfl (rd_sn rfl H0)))))))))))))))) rfl rfl ?_
  refine s_lenz (p' := 14) rfl (mj_rdA_is (rd_ss rfl (rd_ss rfl (rd_ss rfl (rd_ss rfl (rd_ss rfl (rd_ss rfl (rd_ss rfl (rd_ss rfl (rd_ss rfl (rd_ss rfl (rd_ss rfl (rd_ss rfl (rd_ss rfl (rd_ss rfl (rd_ss rfl (rd_ss rfl H399)))))))))))))))) (by decide)) rfl rfl ?_
  refine s_icmp (p' := 17) false rfl (by decide +kernel) rfl ?_
  refine s_ildn (p' := 18) rfl rfl rfl ?_
  refine s_aldn (p' := 19) rfl rfl rfl ?_
  refine s_gf (p' := 22) rfl (rd_sn rfl (rd_sn rfl (rd_sn rfl (rd_sn rfl (rd_sn rfl (rd_sn rfl (rd_sn rfl (rd_sn rfl (rd_sn rfl (rd_sn rfl (rd_sn rfl (rd_sn rfl (rd_sn rfl (rd_sn rfl (rd_sn rfl (rd_sn rfl H0)))))))))))))))) rfl rfl ?_
  refine s_ildn (p' := 23) rfl rfl rfl ?_
  refine s_ialz (p' := 24) (m := 3) (v := (nI 0)) rfl (rd_ss rfl (rd_ss rfl (rd_ss rfl (rd_ss rfl (rd_ss rfl (rd_ss rfl (rd_ss rfl (rd_ss rfl (rd_ss rfl (rd_ss rfl (rd_ss rfl (rd_ss rfl (rd_ss rfl (rd_ss rfl (rd_ss rfl (rd_ss rfl H399)))))))))))))))) (by decide +kernel) rfl (by decide +kernel) rfl ?_
  refine s_primV (p' := 27) (q := 4) rfl rfl rfl rfl rfl rfl (p_max (x := (nI 8)) (y := (nI 0)) (z := (nI 8)) (by decide +kernel)) rfl ?_
  refine s_istn (p' := 28) (ls' := [_, _, _]) rfl rfl rfl rfl ?_
  refine s_incz (p' := 31) (w := (nI 4)) (ls' := [_, _, _]) rfl rfl rfl (by decide +kernel) rfl rfl ?_
  refine s_goto (p' := 8) rfl rfl ?_
  refine s_ildn (p' := 9) rfl rfl rfl ?_
  refine s_aldn (p' := 10) rfl rfl rfl ?_
  refine s_gf (p' := 13) rfl (rd_sn rfl (rd_sn rfl (rd_sn rfl (rd_sn rfl (rd_sn rfl (rd_sn rfl (rd_sn rfl (rd_sn rfl (rd_sn rfl (rd_sn rfl (rd_sn rfl (rd_sn rfl (rd_sn rfl (rd_sn rfl (rd_sn rfl (rd_sn rfl H0)))))))))))))))) rfl rfl ?_
  refine s_lenz (p' := 14) rfl (mj_rdA_is (rd_ss rfl (rd_ss rfl (rd_ss rfl (rd_ss rfl (rd_ss rfl (rd_ss rfl (rd_ss rfl (rd_ss rfl (rd_ss rfl (rd_ss rfl (rd_ss rfl (rd_ss rfl (rd_ss rfl (rd_ss rfl (rd_ss rfl (rd_ss rfl H399)))))))))))))))) (by decide)) rfl rfl ?_
  refine s_icmp (p' := 17) false rfl (by decide +kernel) rfl ?_
  refine s_ildn (p' := 18) rfl rfl rfl ?_
  refine s_aldn (p' := 19) rfl rfl rfl ?_
  refine s_gf (p' := 22) rfl (rd_sn rfl (rd_sn rfl (rd_sn rfl (rd_sn rfl (rd_sn rfl (rd_sn rfl (rd_sn rfl (rd_sn rfl (rd_sn rfl (rd_sn rfl (rd_sn rfl (rd_sn rfl (rd_sn rfl (rd_sn rfl (rd_sn rfl (rd_sn rfl H0)))))))))))))))) rfl rfl ?_
  refine s_ildn (p' := 23) rfl rfl rfl ?_
  refine s_ialz (p' := 24) (m := 4) (v := (nI 0)) rfl (rd_ss rfl (rd_ss rfl (rd_ss rfl (rd_ss rfl (rd_ss rfl (rd_ss rfl (rd_ss rfl (rd_ss rfl (rd_ss rfl (rd_ss rfl (rd_ss rfl (rd_ss rfl (rd_ss rfl (rd_ss rfl (rd_ss rfl (rd_ss rfl H399)))))))))))))))) (by decide +kernel) rfl (by decide +kernel) rfl ?_
  refine s_primV (p' := 27) (q := 4) rfl rfl rfl rfl rfl rfl (p_max (x := (nI 8)) (y := (nI 0)) (z := (nI 8)) (by decide +kernel)) rfl ?_
  refine s_istn (p' := 28) (ls' := [_, _, _]) rfl rfl rfl rfl ?_
  refine s_incz (p' := 31) (w := (nI 5)) (ls' := [_, _, _]) rfl rfl rfl (by decide +kernel) rfl rfl ?_
  refine s_goto (p' := 8) rfl rfl ?_
  refine s_ildn (p' := 9) rfl rfl rfl ?_
  refine s_aldn (p' := 10) rfl rfl rfl ?_
  refine s_gf (p' := 13) rfl (rd_sn rfl (rd_sn rfl (rd_sn rfl (rd_sn rfl (rd_sn rfl (rd_sn rfl (rd_sn rfl (rd_sn rfl (rd_sn rfl (rd_sn rfl (rd_sn rfl (rd_sn rfl (rd_sn rfl (rd_sn rfl (rd_sn rfl (rd_sn rfl H0)))))))))))))))) rfl rfl ?_
  refine s_lenz (p' := 14) rfl (mj_rdA_is (rd_ss rfl (rd_ss rfl (rd_ss rfl (rd_ss rfl (rd_ss rfl (rd_ss rfl (rd_ss rfl (rd_ss rfl (rd_ss rfl (rd_ss rfl (rd_ss rfl (rd_ss rfl (rd_ss rfl (rd_ss rfl (rd_ss rfl (rd_ss rfl H399)))))))))))))))) (by decide)) rfl rfl ?_
  refine s_icmp (p' := 17) false rfl (by decide +kernel) rfl ?_
  refine s_ildn (p' := 18) rfl rfl rfl ?_
  refine s_aldn (p' := 19) rfl rfl rfl ?_
  refine s_gf (p' := 22) rfl (rd_sn rfl (rd_sn rfl (rd_sn rfl (rd_sn rfl (rd_sn rfl (rd_sn rfl (rd_sn rfl (rd_sn rfl (rd_sn rfl (rd_sn rfl (rd_sn rfl (rd_sn rfl (rd_sn rfl (rd_sn rfl (rd_sn rfl (rd_sn rfl H0)))))))))))))))) rfl rfl ?_
  refine s_ildn (p' := 23) rfl rfl rfl ?_
  refine s_ialz (p' := 24) (m := 5) (v := (nI 0)) rfl (rd_ss rfl (rd_ss rfl (rd_ss rfl (rd_ss rfl (rd_ss rfl (rd_ss rfl (rd_ss rfl (rd_ss rfl (rd_ss rfl (rd_ss rfl (rd_ss rfl (rd_ss rfl (rd_ss rfl (rd_ss rfl (rd_ss rfl (rd_ss rfl H399)))))))))))))))) (by decide +kernel) rfl (by decide +kernel) rfl ?_
  refine s_primV (p' := 27) (q := 4) rfl rfl rfl rfl rfl rfl (p_max (x := (nI 8)) (y := (nI 0)) (z := (nI 8)) (by decide +kernel)) rfl ?_
  refine s_istn (p' := 28) (ls' := [_, _, _]) rfl rfl rfl rfl ?_
  refine s_incz (p' := 31) (w := (nI 6)) (ls' := [_, _, _]) rfl rfl rfl (by decide +kernel) rfl rfl ?_
  refine s_goto (p' := 8) rfl rfl ?_
  refine s_ildn (p' := 9) rfl rfl rfl ?_
  refine s_aldn (p' := 10) rfl rfl rfl ?_
  refine s_gf (p' := 13) rfl (rd_sn rfl (rd_sn rfl (rd_sn rfl (rd_sn rfl (rd_sn rfl (rd_sn rfl (rd_sn rfl (rd_sn rfl (rd_sn rfl (rd_sn rfl (rd_sn rfl (rd_sn rfl (rd_sn rfl (rd_sn rfl (rd_sn rfl (rd_sn rfl H0)))))))))))))))) rfl rfl ?_
  refine s_lenz (p' := 14) rfl (mj_rdA_is (rd_ss rfl (rd_ss rfl (rd_ss rfl (rd_ss rfl (rd_ss rfl (rd_ss rfl (rd_ss rfl (rd_ss rfl (rd_ss rfl (rd_ss rfl (rd_ss rfl (rd_ss rfl (rd_ss rfl (rd_ss rfl (rd_ss rfl (rd_ss rfl H399)))))))))))))))) (by decide)) rfl rfl ?_
  refine s_icmp (p' := 17) false rfl (by decide +kernel) rfl ?_
  refine s_ildn (p' := 18) rfl rfl rfl ?_
  refine s_aldn (p' := 19) rfl rfl rfl ?_
  refine s_gf (p' := 22) rfl (rd_sn rfl (rd_sn rfl (rd_sn rfl (rd_sn rfl (rd_sn rfl (rd_sn rfl (rd_sn rfl (rd_sn rfl (rd_sn rfl (rd_sn rfl (rd_sn rfl (rd_sn rfl (rd_sn rfl (rd_sn rfl (rd_sn rfl (rd_sn rfl H0)))))))))))))))) rfl rfl ?_
  refine s_ildn (p' := 23) rfl rfl rfl ?_
  refine s_ialz (p' := 24) (m := 6) (v := (nI 0)) rfl (rd_ss rfl (rd_ss rfl (rd_ss rfl (rd_ss rfl (rd_ss rfl (rd_ss rfl (rd_ss rfl (rd_ss rfl (rd_ss rfl (rd_ss rfl (rd_ss rfl (rd_ss rfl (rd_ss rfl (rd_ss rfl (rd_ss rfl (rd_ss rfl H399)))))))))))))))) (by decide +kernel) rfl (by decide +kernel) rfl ?_
  refine s_primV (p' := 27) (q := 4) rfl rfl rfl rfl rfl rfl (p_max (x := (nI 8)) (y := (nI 0)) (z := (nI 8)) (by decide +kernel)) rfl ?_
  refine s_istn (p' := 28) (ls' := [_, _, _]) rfl rfl rfl rfl ?_
  refine s_incz (p' := 31) (w := (nI 7)) (ls' := [_, _, _]) rfl rfl rfl (by decide +kernel) rfl rfl ?_
  refine s_goto (p' := 8) rfl rfl ?_
  refine s_ildn (p' := 9) rfl rfl rfl ?_
  refine s_aldn (p' := 10) rfl rfl rfl ?_
  refine s_gf (p' := 13) rfl (rd_sn rfl (rd_sn rfl (rd_sn rfl (rd_sn rfl (rd_sn rfl (rd_sn rfl (rd_sn rfl (rd_sn rfl (rd_sn rfl (rd_sn rfl (rd_sn rfl (rd_sn rfl (rd_sn rfl (rd_sn rfl (rd_sn rfl (rd_sn rfl H0)))))))))))))))) rfl rfl ?_
  refine s_lenz (p' := 14) rfl (mj_rdA_is (rd_ss rfl (rd_ss rfl (rd_ss rfl (rd_ss rfl (rd_ss rfl (rd_ss rfl (rd_ss rfl (rd_ss rfl (rd_ss rfl (rd_ss rfl (rd_ss rfl (rd_ss rfl (rd_ss rfl (rd_ss rfl (rd_ss rfl (rd_ss rfl H399)))))))))))))))) (by decide)) rfl rfl ?_
  refine s_icmp (p' := 17) false rfl (by decide +kernel) rfl ?_
  refine s_ildn (p' := 18) rfl rfl rfl ?_
  refine s_aldn (p' := 19) rfl rfl rfl ?_
  refine s_gf (p' := 22) rfl (rd_sn rfl (rd_sn rfl (rd_sn rfl (rd_sn rfl (rd_sn rfl (rd_sn rfl (rd_sn rfl (rd_sn rfl (rd_sn rfl (rd_sn rfl (rd_sn rfl (rd_sn rfl (rd_sn rfl (rd_sn rfl (rd_sn rfl (rd_sn rfl H0)))))))))))))))) rfl rfl ?_
  refine s_ildn (p' := 23) rfl rfl rfl ?_
  refine s_ialz (p' := 24) (m := 7) (v := (nI 0)) rfl (rd_ss rfl (rd_ss rfl (rd_ss rfl (rd_ss rfl (rd_ss rfl (rd_ss rfl (rd_ss rfl (rd_ss rfl (rd_ss rfl (rd_ss rfl (rd_ss rfl (rd_ss rfl (rd_ss rfl (rd_ss rfl (rd_ss rfl (rd_ss rfl H399)))))))))))))))) (by decide +kernel) rfl (by decide +kernel) rfl ?_
  refine s_primV (p' := 27) (q := 4) rfl rfl rfl rfl rfl rfl (p_max (x := (nI 8)) (y := (nI 0)) (z := (nI 8)) (by decide +kernel)) rfl ?_
  refine s_istn (p' := 28) (ls' := [_, _, _]) rfl rfl rfl rfl ?_
  refine s_incz (p' := 31) (w := (nI 8)) (ls' := [_, _, _]) rfl rfl rfl (by decide +kernel) rfl rfl ?_
  refine s_goto (p' := 8) rfl rfl ?_
  refine s_ildn (p' := 9) rfl rfl rfl ?_
  refine s_aldn (p' := 10) rfl rfl rfl ?_
  refine s_gf (p' := 13) rfl (rd_sn rfl (rd_sn rfl (rd_sn rfl (rd_sn rfl (rd_sn rfl (rd_sn rfl (rd_sn rfl (rd_sn rfl (rd_sn rfl (rd_sn rfl (rd_sn rfl (rd_sn rfl (rd_sn rfl (rd_sn rfl (rd_sn rfl (rd_sn rfl H0)))))))))))))))) rfl rfl ?_
  refine s_lenz (p' := 14) rfl (mj_rdA_is (rd_ss rfl (rd_ss rfl (rd_ss rfl (rd_ss rfl (rd_ss rfl (rd_ss rfl (rd_ss rfl (rd_ss rfl (rd_ss rfl (rd_ss rfl (rd_ss rfl (rd_ss rfl (rd_ss rfl (rd_ss rfl (rd_ss rfl (rd_ss rfl H399)))))))))))))))) (by decide)) rfl rfl ?_
  refine s_icmp (p' := 34) true rfl (by decide +kernel) rfl ?_
  refine s_con (p' := 35) rfl rfl ?_
  refine s_istn (p' := 36) (ls' := [_, _, _]) rfl rfl rfl rfl ?_
  refine s_ildn (p' := 37) rfl rfl rfl ?_
  refine s_con (p' := 38) rfl rfl ?_
  refine s_icmp (p' := 41) false rfl (by decide +kernel) rfl ?_
  refine s_con (p' := 42) rfl rfl ?_
  refine s_ildn (p' := 43) rfl rfl rfl ?_
  refine s_bz (p' := 44) (z := (nI 1)) rfl rfl rfl (by decide +kernel) ?_
  refine s_ildn (p' := 45) rfl rfl rfl ?_
  refine s_icmp (p' := 48) false rfl (by decide +kernel) rfl ?_
  refine s_incz (p' := 51) (w := (nI 1)) (ls' := [_, _, _]) rfl rfl rfl (by decide +kernel) rfl rfl ?_
  refine s_goto (p' := 36) rfl rfl ?_
  refine s_ildn (p' := 37) rfl rfl rfl ?_
  refine s_con (p' := 38) rfl rfl ?_
  refine s_icmp (p' := 41) false rfl (by decide +kernel) rfl ?_
  refine s_con (p' := 42) rfl rfl ?_
  refine s_ildn (p' := 43) rfl rfl rfl ?_
  refine s_bz (p' := 44) (z := (nI 2)) rfl rfl rfl (by decide +kernel) ?_
  refine s_ildn (p' := 45) rfl rfl rfl ?_
  refine s_icmp (p' := 48) false rfl (by decide +kernel) rfl ?_
  refine s_incz (p' := 51) (w := (nI 2)) (ls' := [_, _, _]) rfl rfl rfl (by decide +kernel) rfl rfl ?_
  refine s_goto (p' := 36) rfl rfl ?_
  refine s_ildn (p' := 37) rfl rfl rfl ?_
  refine s_con (p' := 38) rfl rfl ?_
  refine s_icmp (p' := 41) false rfl (by decide +kernel) rfl ?_
  refine s_con (p' := 42) rfl rfl ?_
  refine s_ildn (p' := 43) rfl rfl rfl ?_
  refine s_bz (p' := 44) (z := (nI 4)) rfl rfl rfl (by decide +kernel) ?_
  refine s_ildn (p' := 45) rfl rfl rfl ?_
  refine s_icmp (p' := 48) false rfl (by decide +kernel) rfl ?_
  refine s_incz (p' := 51) (w := (nI 3)) (ls' := [_, _, _]) rfl rfl rfl (by decide +kernel) rfl rfl ?_
  refine s_goto (p' := 36) rfl rfl ?_
  refine s_ildn (p' := 37) rfl rfl rfl ?_
  refine s_con (p' := 38) rfl rfl ?_
  refine s_icmp (p' := 54) true rfl (by decide +kernel) rfl ?_
  refine s_ildn (p' := 55) rfl rfl rfl ?_
  refine k_iret rfl rfl ?_
  refine l_aldn (p' := 2261) rfl rfl rfl rfl ?_
  refine l_call (p' := 2264) (kc := 99) (ls0 := [_, _, _]) rfl rfl rfl rfl rfl rfl (mj_rcv_is (rd_sn rfl (rd_sn rfl (rd_sn rfl (rd_sn rfl (rd_sn rfl (rd_sn rfl (rd_sn rfl (rd_sn rfl (rd_sn rfl (rd_sn rfl (rd_sn rfl (rd_sn rfl (rd_sn rfl (rd_sn rfl (rd_sn rfl (rd_sn rfl H400))))))))))))))))) rfl rfl rfl ?_
  refine s_aldn (p' := 1) rfl rfl rfl ?_
  refine s_con (p' := 2) rfl rfl ?_
  refine s_pfz (p' := 5) (fs' := [_, _, _, _, _, _, _, _, _, _, _]) rfl rfl (rd_sn rfl (rd_sn rfl (rd_sn rfl (rd_sn rfl (rd_sn rfl (rd_sn rfl (rd_sn rfl (rd_sn rfl (rd_sn rfl (rd_sn rfl (rd_sn rfl (rd_sn rfl (rd_sn rfl (rd_sn rfl (rd_sn rfl (rd_sn rfl H400)))))))))))))))) rfl rfl rfl rfl ?_
  refine s_con (p' := 6) rfl rfl ?_
  refine s_istn (p' := 7) (ls' := [_, _, _]) rfl rfl rfl rfl ?_
  refine s_con (p' := 8) rfl rfl ?_
  refine s_istn (p' := 9) (ls' := [_, _, _]) rfl rfl rfl rfl ?_
  refine s_ildn (p' := 10) rfl rfl rfl ?_
  refine s_bip (p' := 12) rfl rfl ?_
  refine s_icmp (p' := 15) false rfl (by decide +kernel) rfl ?_
  refine s_con (p' := 16) rfl rfl ?_
  refine s_ildn (p' := 17) rfl rfl rfl ?_
  refine s_bz (p' := 18) (z := (nI 1)) rfl rfl rfl (by decide +kernel) ?_
  refine s_aldn (p' := 19) rfl rfl rfl ?_
  refine s_ildn (p' := 20) rfl rfl rfl ?_
  refine c_call (p' := 23) (kc := 98) (ls0 := [_, _, _, _, _, _, _]) rfl rfl rfl rfl rfl (mj_rcv_is (rd_ss rfl (rd_sn rfl (rd_sn rfl (rd_sn rfl (rd_sn rfl (rd_sn rfl (rd_sn rfl (rd_sn rfl (rd_sn rfl (rd_sn rfl (rd_sn rfl (rd_sn rfl (rd_sn rfl (rd_sn rfl (rd_sn rfl (rd_sn rfl (rd_sn rfl H400)))))))))))))))))) rfl rfl rfl ?_
  refine s_con (p' := 1) rfl rfl ?_
  refine s_istn (p' := 2) (ls' := [_, _, _, _, _, _, _]) rfl rfl rfl rfl ?_
  refine s_aldn (p' := 3) rfl rfl rfl ?_
  refine s_gf (p' := 6) rfl (rd_ss rfl (rd_sn rfl (rd_sn rfl (rd_sn rfl (rd_sn rfl (rd_sn rfl (rd_sn rfl (rd_sn rfl (rd_sn rfl (rd_sn rfl (rd_sn rfl (rd_sn rfl (rd_sn rfl (rd_sn rfl (rd_sn rfl (rd_sn rfl (rd_sn rfl H400))))))))))))))))) rfl rfl ?_
  refine s_astn (p' := 7) (ls' := [_, _, _, _, _, _, _]) rfl rfl rfl rfl ?_
  refine s_aldn (p' := 8) rfl rfl rfl ?_
  refine s_lenz (p' := 9) rfl (mj_rdA_is (rd_sn rfl (rd_sn rfl (rd_sn rfl (rd_sn rfl (rd_sn rfl (rd_sn rfl (rd_sn rfl (rd_sn rfl (rd_sn rfl (rd_sn rfl (rd_sn rfl (rd_sn rfl (rd_sn rfl (rd_sn rfl (rd_sn rfl (rd_sn rfl (rd_sn rfl H411))))))))))))))))) (by decide)) rfl rfl ?_
  refine s_ist (p' := 11) (ls' := [_, _, _, _, _, _, _]) rfl rfl rfl rfl ?_
  refine s_con (p' := 12) rfl rfl ?_
  refine s_ist (p' := 14) (ls' := [_, _, _, _, _, _, _]) rfl rfl rfl rfl ?_
  refine s_ild (p' := 16) rfl rfl rfl ?_
  refine s_ild (p' := 18) rfl rfl rfl ?_
  refine s_icmp (p' := 21) false rfl (by decide +kernel) rfl ?_
  refine s_aldn (p' := 22) rfl rfl rfl ?_
  refine s_ild (p' := 24) rfl rfl rfl ?_
  refine s_ialz (p' := 25) (m := 0) (v := (nI 0)) rfl (rd_sn rfl (rd_sn rfl (rd_sn rfl (rd_sn rfl (rd_sn rfl (rd_sn rfl (rd_sn rfl (rd_sn rfl (rd_sn rfl (rd_sn rfl (rd_sn rfl (rd_sn rfl (rd_sn rfl (rd_sn rfl (rd_sn rfl (rd_sn rfl (rd_sn rfl H411))))))))))))))))) (by decide +kernel) rfl (by decide +kernel) rfl ?_
  refine s_ist (p' := 27) (ls' := [_, _, _, _, _, _, _]) rfl rfl rfl rfl ?_
  refine s_ildn (p' := 28) rfl rfl rfl ?_
  refine s_ild (p' := 30) rfl rfl rfl ?_
  refine s_ildn (p' := 31) rfl rfl rfl ?_
  refine s_icmp (p' := 34) false rfl (by decide +kernel) rfl ?_
  refine s_con (p' := 35) rfl rfl ?_
  refine s_goto (p' := 39) rfl rfl ?_
  refine s_bz (p' := 40) (z := (nI 1)) rfl rfl rfl (by decide +kernel) ?_
  refine s_istn (p' := 41) (ls' := [_, _, _, _, _, _, _]) rfl rfl rfl rfl ?_
  refine s_incz (p' := 44) (w := (nI 1)) (ls' := [_, _, _, _, _, _, _]) rfl rfl rfl (by decide +kernel) rfl rfl ?_
  refine s_goto (p' := 14) rfl rfl ?_
  refine s_ild (p' := 16) rfl rfl rfl ?_
  refine s_ild (p' := 18) rfl rfl rfl ?_
  refine s_icmp (p' := 21) false rfl (by decide +kernel) rfl ?_
  refine s_aldn (p' := 22) rfl rfl rfl ?_
  refine s_ild (p' := 24) rfl rfl rfl ?_
  refine s_ialz (p' := 25) (m := 1) (v := (nI 0)) rfl (rd_sn rfl (rd_sn rfl (rd_sn rfl (rd_sn rfl (rd_sn rfl (rd_sn rfl (rd_sn rfl (rd_sn rfl (rd_sn rfl (rd_sn rfl (rd_sn rfl (rd_sn rfl (rd_sn rfl (rd_sn rfl (rd_sn rfl (rd_sn rfl (rd_sn rfl H411))))))))))))))))) (by decide +kernel) rfl (by decide +kernel) rfl ?_
  refine s_ist (p' := 27) (ls' := [_, _, _, _, _, _, _]) rfl rfl rfl rfl ?_
  refine s_ildn (p' := 28) rfl rfl rfl ?_
  refine s_ild (p' := 30) rfl rfl rfl ?_
  refine s_ildn (p' := 31) rfl rfl rfl ?_
  refine s_icmp (p' := 34) false rfl (by decide +kernel) rfl ?_
  refine s_con (p' := 35) rfl rfl ?_
  refine s_goto (p' := 39) rfl rfl ?_
  refine s_bz (p' := 40) (z := (nI 2)) rfl rfl rfl (by decide +kernel) ?_
  refine s_istn (p' := 41) (ls' := [_, _, _, _, _, _, _]) rfl rfl rfl rfl ?_
  refine s_incz (p' := 44) (w := (nI 2)) (ls' := [_, _, _, _, _, _, _]) rfl rfl rfl (by decide +kernel) rfl rfl ?_
  refine s_goto (p' := 14) rfl rfl ?_
  refine s_ild (p' := 16) rfl rfl rfl ?_
  refine s_ild (p' := 18) rfl rfl rfl ?_
  refine s_icmp (p' := 21) false rfl (by decide +kernel) rfl ?_
  refine s_aldn (p' := 22) rfl rfl rfl ?_
  refine s_ild (p' := 24) rfl rfl rfl ?_
  refine s_ialz (p' := 25) (m := 2) (v := (nI 0)) rfl (rd_sn rfl (rd_sn rfl (rd_sn rfl (rd_sn rfl (rd_sn rfl (rd_sn rfl (rd_sn rfl (rd_sn rfl (rd_sn rfl (rd_sn rfl (rd_sn rfl (rd_sn rfl (rd_sn rfl (rd_sn rfl (rd_sn rfl (rd_sn rfl (rd_sn rfl H411))))))))))))))))) (by decide +kernel) rfl (by decide +kernel) rfl ?_
  refine s_ist (p' := 27) (ls' := [_, _, _, _, _, _, _]) rfl rfl rfl rfl ?_
  refine s_ildn (p' := 28) rfl rfl rfl ?_
  refine s_ild (p' := 30) rfl rfl rfl ?_
  refine s_ildn (p' := 31) rfl rfl rfl ?_
  refine s_icmp (p' := 34) false rfl (by decide +kernel) rfl ?_
  refine s_con (p' := 35) rfl rfl ?_
  refine s_goto (p' := 39) rfl rfl ?_
  refine s_bz (p' := 40) (z := (nI 3)) rfl rfl rfl (by decide +kernel) ?_
  refine s_istn (p' := 41) (ls' := [_, _, _, _, _, _, _]) rfl rfl rfl rfl ?_
  refine s_incz (p' := 44) (w := (nI 3)) (ls' := [_, _, _, _, _, _, _]) rfl rfl rfl (by decide +kernel) rfl rfl ?_
  refine s_goto (p' := 14) rfl rfl ?_
  refine s_ild (p' := 16) rfl rfl rfl ?_
  refine s_ild (p' := 18) rfl rfl rfl ?_
  refine s_icmp (p' := 21) false rfl (by decide +kernel) rfl ?_
  refine s_aldn (p' := 22) rfl rfl rfl ?_
  refine s_ild (p' := 24) rfl rfl rfl ?_
  refine s_ialz (p' := 25) (m := 3) (v := (nI 0)) rfl (rd_sn rfl (rd_sn rfl (rd_sn rfl (rd_sn rfl (rd_sn rfl (rd_sn rfl (rd_sn rfl (rd_sn rfl (rd_sn rfl (rd_sn rfl (rd_sn rfl (rd_sn rfl (rd_sn rfl (rd_sn rfl (rd_sn rfl (rd_sn rfl (rd_sn rfl H411))))))))))))))))) (by decide +kernel) rfl (by decide +kernel) rfl ?_
  refine s_ist (p' := 27) (ls' := [_, _, _, _, _, _, _]) rfl rfl rfl rfl ?_
  refine s_ildn (p' := 28) rfl rfl rfl ?_
  refine s_ild (p' := 30) rfl rfl rfl ?_
  refine s_ildn (p' := 31) rfl rfl rfl ?_
  refine s_icmp (p' := 34) false rfl (by decide +kernel) rfl ?_
  refine s_con (p' := 35) rfl rfl ?_
  refine s_goto (p' := 39) rfl rfl ?_
  refine s_bz (p' := 40) (z := (nI 4)) rfl rfl rfl (by decide +kernel) ?_
  refine s_istn (p' := 41) (ls' := [_, _, _, _, _, _, _]) rfl rfl rfl rfl ?_
  refine s_incz (p' := 44) (w := (nI 4)) (ls' := [_, _, _, _, _, _, _]) rfl rfl rfl (by decide +kernel) rfl rfl ?_
  refine s_goto (p' := 14) rfl rfl ?_
  refine s_ild (p' := 16) rfl rfl rfl ?_
  refine s_ild (p' := 18) rfl rfl rfl ?_
  refine s_icmp (p' := 21) false rfl (by decide +kernel) rfl ?_
  refine s_aldn (p' := 22) rfl rfl rfl ?_
  refine s_ild (p' := 24) rfl rfl rfl ?_
  refine s_ialz (p' := 25) (m := 4) (v := (nI 0)) rfl (rd_sn rfl (rd_sn rfl (rd_sn rfl (rd_sn rfl (rd_sn rfl (rd_sn rfl (rd_sn rfl (rd_sn rfl (rd_sn rfl (rd_sn rfl (rd_sn rfl (rd_sn rfl (rd_sn rfl (rd_sn rfl (rd_sn rfl (rd_sn rfl (rd_sn rfl H411))))))))))))))))) (by decide +kernel) rfl (by decide +kernel) rfl ?_
  refine s_ist (p' := 27) (ls' := [_, _, _, _, _, _, _]) rfl rfl rfl rfl ?_
  refine s_ildn (p' := 28) rfl rfl rfl ?_
  refine s_ild (p' := 30) rfl rfl rfl ?_
  refine s_ildn (p' := 31) rfl rfl rfl ?_
  refine s_icmp (p' := 34) false rfl (by decide +kernel) rfl ?_
  refine s_con (p' := 35) rfl rfl ?_
  refine s_goto (p' := 39) rfl rfl ?_
  refine s_bz (p' := 40) (z := (nI 5)) rfl rfl rfl (by decide +kernel) ?_
  refine s_istn (p' := 41) (ls' := [_, _, _, _, _, _, _]) rfl rfl rfl rfl ?_
  refine s_incz (p' := 44) (w := (nI 5)) (ls' := [_, _, _, _, _, _, _]) rfl rfl rfl (by decide +kernel) rfl rfl ?_
  refine s_goto (p' := 14) rfl rfl ?_
  refine s_ild (p' := 16) rfl rfl rfl ?_
  refine s_ild (p' := 18) rfl rfl rfl ?_
  refine s_icmp (p' := 21) false rfl (by decide +kernel) rfl ?_
  refine s_aldn (p' := 22) rfl rfl rfl ?_
  refine s_ild (p' := 24) rfl rfl rfl ?_
  refine s_ialz (p' := 25) (m := 5) (v := (nI 0)) rfl (rd_sn rfl (rd_sn rfl (rd_sn rfl (rd_sn rfl (rd_sn rfl (rd_sn rfl (rd_sn rfl (rd_sn rfl (rd_sn rfl (rd_sn rfl (rd_sn rfl (rd_sn rfl (rd_sn rfl (rd_sn rfl (rd_sn rfl (rd_sn rfl (rd_sn rfl H411))))))))))))))))) (by decide +kernel) rfl (by decide +kernel) rfl ?_
  refine s_ist (p' := 27) (ls' := [_, _, _, _, _, _, _]) rfl rfl rfl rfl ?_
  refine s_ildn (p' := 28) rfl rfl rfl ?_
  refine s_ild (p' := 30) rfl rfl rfl ?_
  refine s_ildn (p' := 31) rfl rfl rfl ?_
  refine s_icmp (p' := 34) false rfl (by decide +kernel) rfl ?_
  refine s_con (p' := 35) rfl rfl ?_
  refine s_goto (p' := 39) rfl rfl ?_
  refine s_bz (p' := 40) (z := (nI 6)) rfl rfl rfl (by decide +kernel) ?_
  refine s_istn (p' := 41) (ls' := [_, _, _, _, _, _, _]) rfl rfl rfl rfl ?_
  refine s_incz (p' := 44) (w := (nI 6)) (ls' := [_, _, _, _, _, _, _]) rfl rfl rfl (by decide +kernel) rfl rfl ?_
  refine s_goto (p' := 14) rfl rfl ?_
  refine s_ild (p' := 16) rfl rfl rfl ?_
  refine s_ild (p' := 18) rfl rfl rfl ?_
  refine s_icmp (p' := 21) false rfl (by decide +kernel) rfl ?_
  refine s_aldn (p' := 22) rfl rfl rfl ?_
  refine s_ild (p' := 24) rfl rfl rfl ?_
  refine s_ialz (p' := 25) (m := 6) (v := (nI 0)) rfl (rd_sn rfl (rd_sn rfl (rd_sn rfl (rd_sn rfl (rd_sn rfl (rd_sn rfl (rd_sn rfl (rd_sn rfl (rd_sn rfl (rd_sn rfl (rd_sn rfl (rd_sn rfl (rd_sn rfl (rd_sn rfl (rd_sn rfl (rd_sn rfl (rd_sn rfl H411))))))))))))))))) (by decide +kernel) rfl (by decide +kernel) rfl ?_
  refine s_ist (p' := 27) (ls' := [_, _, _, _, _, _, _]) rfl rfl rfl rfl ?_
  refine s_ildn (p' := 28) rfl rfl rfl ?_
  refine s_ild (p' := 30) rfl rfl rfl ?_
  refine s_ildn (p' := 31) rfl rfl rfl ?_
  refine s_icmp (p' := 34) false rfl (by decide +kernel) rfl ?_
  refine s_con (p' := 35) rfl rfl ?_
  refine s_goto (p' := 39) rfl rfl ?_
  refine s_bz (p' := 40) (z := (nI 7)) rfl rfl rfl (by decide +kernel) ?_
  refine s_istn (p' := 41) (ls' := [_, _, _, _, _, _, _]) rfl rfl rfl rfl ?_
  refine s_incz (p' := 44) (w := (nI 7)) (ls' := [_, _, _, _, _, _, _]) rfl rfl rfl (by decide +kernel) rfl rfl ?_
  refine s_goto (p' := 14) rfl rfl ?_
  refine s_ild (p' := 16) rfl rfl rfl ?_
  refine s_ild (p' := 18) rfl rfl rfl ?_
  refine s_icmp (p' := 21) false rfl (by decide +kernel) rfl ?_
  refine s_aldn (p' := 22) rfl rfl rfl ?_
  refine s_ild (p' := 24) rfl rfl rfl ?_
  refine s_ialz (p' := 25) (m := 7) (v := (nI 0)) rfl (rd_sn rfl (rd_sn rfl (rd_sn rfl (rd_sn rfl (rd_sn rfl (rd_sn rfl (rd_sn rfl (rd_sn rfl (rd_sn rfl (rd_sn rfl (rd_sn rfl (rd_sn rfl (rd_sn rfl (rd_sn rfl (rd_sn rfl (rd_sn rfl (rd_sn rfl H411))))))))))))))))) (by decide +kernel) rfl (by decide +kernel) rfl ?_
  refine s_ist (p' := 27) (ls' := [_, _, _, _, _, _, _]) rfl rfl rfl rfl ?_
  refine s_ildn (p' := 28) rfl rfl rfl ?_
  refine s_ild (p' := 30) rfl rfl rfl ?_
  refine s_ildn (p' := 31) rfl rfl rfl ?_
  refine s_icmp (p' := 34) false rfl (by decide +kernel) rfl ?_
  refine s_con (p' := 35) rfl rfl ?_
  refine s_goto (p' := 39) rfl rfl ?_
  refine s_bz (p' := 40) (z := (nI 8)) rfl rfl rfl (by decide +kernel) ?_
  refine s_istn (p' := 41) (ls' := [_, _, _, _, _, _, _]) rfl rfl rfl rfl ?_
  refine s_incz (p' := 44) (w := (nI 8)) (ls' := [_, _, _, _, _, _, _]) rfl rfl rfl (by decide +kernel) rfl rfl ?_
  refine s_goto (p' := 14) rfl rfl ?_
  refine s_ild (p' := 16) rfl rfl rfl ?_
  refine s_ild (p' := 18) rfl rfl rfl ?_
  refine s_icmp (p' := 47) true rfl (by decide +kernel) rfl ?_
  refine s_ildn (p' := 48) rfl rfl rfl ?_
  refine c_iret rfl rfl ?_
  refine s_icmp (p' := 26) false rfl (by decide +kernel) rfl ?_
  refine s_incz (p' := 29) (w := (nI 1)) (ls' := [_, _, _]) rfl rfl rfl (by decide +kernel) rfl rfl ?_
  refine s_goto (p' := 15) rfl rfl ?_
  refine s_con (p' := 16) rfl rfl ?_
  refine s_ildn (p' := 17) rfl rfl rfl ?_
  refine s_bz (p' := 18) (z := (nI 2)) rfl rfl rfl (by decide +kernel) ?_
  refine s_aldn (p' := 19) rfl rfl rfl ?_
  refine s_ildn (p' := 20) rfl rfl rfl ?_
  refine c_call (p' := 23) (kc := 98) (ls0 := [_, _, _, _, _, _, _]) rfl rfl rfl rfl rfl (mj_rcv_is (rd_ss rfl (rd_sn rfl (rd_sn rfl (rd_sn rfl (rd_sn rfl (rd_sn rfl (rd_sn rfl (rd_sn rfl (rd_sn rfl (rd_sn rfl (rd_sn rfl (rd_sn rfl (rd_sn rfl (rd_sn rfl (rd_sn rfl (rd_sn rfl (rd_sn rfl H400)))))))))))))))))) rfl rfl rfl ?_
  refine s_con (p' := 1) rfl rfl ?_
  refine s_istn (p' := 2) (ls' := [_, _, _, _, _, _, _]) rfl rfl rfl rfl ?_
  refine s_aldn (p' := 3) rfl rfl rfl ?_
  refine s_gf (p' := 6) rfl (rd_ss rfl (rd_sn rfl (rd_sn rfl (rd_sn rfl (rd_sn rfl (rd_sn rfl (rd_sn rfl (rd_sn rfl (rd_sn rfl (rd_sn rfl (rd_sn rfl (rd_sn rfl (rd_sn rfl (rd_sn rfl (rd_sn rfl (rd_sn rfl (rd_sn rfl H400))))))))))))))))) rfl rfl ?_
  refine s_astn (p' := 7) (ls' := [_, _, _, _, _, _, _]) rfl rfl rfl rfl ?_
  refine s_aldn (p' := 8) rfl rfl rfl ?_
  refine s_lenz (p' := 9) rfl (mj_rdA_is (rd_sn rfl (rd_sn rfl (rd_sn rfl (rd_sn rfl (rd_sn rfl (rd_sn rfl (rd_sn rfl (rd_sn rfl (rd_sn rfl (rd_sn rfl (rd_sn rfl (rd_sn rfl (rd_sn rfl (rd_sn rfl (rd_sn rfl (rd_sn rfl (rd_sn rfl H411))))))))))))))))) (by decide)) rfl rfl ?_
  refine s_ist (p' := 11) (ls' := [_, _, _, _, _, _, _]) rfl rfl rfl rfl ?_
  refine s_con (p' := 12) rfl rfl ?_
  refine s_ist (p' := 14) (ls' := [_, _, _, _, _, _, _]) rfl rfl rfl rfl ?_
  refine s_ild (p' := 16) rfl rfl rfl ?_
  refine s_ild (p' := 18) rfl rfl rfl ?_
  refine s_icmp (p' := 21) false rfl (by decide +kernel) rfl ?_
  refine s_aldn (p' := 22) rfl rfl rfl ?_
  refine s_ild (p' := 24) rfl rfl rfl ?_
  refine s_ialz (p' := 25) (m := 0) (v := (nI 0)) rfl (rd_sn rfl (rd_sn rfl (rd_sn rfl (rd_sn rfl (rd_sn rfl (rd_sn rfl (rd_sn rfl (rd_sn rfl (rd_sn rfl (rd_sn rfl (rd_sn rfl (rd_sn rfl (rd_sn rfl (rd_sn rfl (rd_sn rfl (rd_sn rfl (rd_sn rfl H411))))))))))))))))) (by decide +kernel) rfl (by decide +kernel) rfl ?_
  refine s_ist (p' := 27) (ls' := [_, _, _, _, _, _, _]) rfl rfl rfl rfl ?_
  refine s_ildn (p' := 28) rfl rfl rfl ?_
  refine s_ild (p' := 30) rfl rfl rfl ?_
  refine s_ildn (p' := 31) rfl rfl rfl ?_
  refine s_icmp (p' := 34) false rfl (by decide +kernel) rfl ?_
  refine s_con (p' := 35) rfl rfl ?_
  refine s_goto (p' := 39) rfl rfl ?_
  refine s_bz (p' := 40) (z := (nI 1)) rfl rfl rfl (by decide +kernel) ?_
  refine s_istn (p' := 41) (ls' := [_, _, _, _, _, _, _]) rfl rfl rfl rfl ?_
  refine s_incz (p' := 44) (w := (nI 1)) (ls' := [_, _, _, _, _, _, _]) rfl rfl rfl (by decide +kernel) rfl rfl ?_
  refine s_goto (p' := 14) rfl rfl ?_
  refine s_ild (p' := 16) rfl rfl rfl ?_
  refine s_ild (p' := 18) rfl rfl rfl ?_
  refine s_icmp (p' := 21) false rfl (by decide +kernel) rfl ?_
  refine s_aldn (p' := 22) rfl rfl rfl ?_
  refine s_ild (p' := 24) rfl rfl rfl ?_
  refine s_ialz (p' := 25) (m := 1) (v := (nI 0)) rfl (rd_sn rfl (rd_sn rfl (rd_sn rfl (rd_sn rfl (rd_sn rfl (rd_sn rfl (rd_sn rfl (rd_sn rfl (rd_sn rfl (rd_sn rfl (rd_sn rfl (rd_sn rfl (rd_sn rfl (rd_sn rfl (rd_sn rfl (rd_sn rfl (rd_sn rfl H411))))))))))))))))) (by decide +kernel) rfl (by decide +kernel) rfl ?_
  refine s_ist (p' := 27) (ls' := [_, _, _, _, _, _, _]) rfl rfl rfl rfl ?_
  refine s_ildn (p' := 28) rfl rfl rfl ?_
  refine s_ild (p' := 30) rfl rfl rfl ?_
  refine s_ildn (p' := 31) rfl rfl rfl ?_
  refine s_icmp (p' := 34) false rfl (by decide +kernel) rfl ?_
  refine s_con (p' := 35) rfl rfl ?_
  refine s_goto (p' := 39) rfl rfl ?_
  refine s_bz (p' := 40) (z := (nI 2)) rfl rfl rfl (by decide +kernel) ?_
  refine s_istn (p' := 41) (ls' := [_, _, _, _, _, _, _]) rfl rfl rfl rfl ?_
  refine s_incz (p' := 44) (w := (nI 2)) (ls' := [_, _, _, _, _, _, _]) rfl rfl rfl (by decide +kernel) rfl rfl ?_
  refine s_goto (p' := 14) rfl rfl ?_
  refine s_ild (p' := 16) rfl rfl rfl ?_
  refine s_ild (p' := 18) rfl rfl rfl ?_
  refine s_icmp (p' := 21) false rfl (by decide +kernel) rfl ?_
  refine s_aldn (p' := 22) rfl rfl rfl ?_
  refine s_ild (p' := 24) rfl rfl rfl ?_
  refine s_ialz (p' := 25) (m := 2) (v := (nI 0)) rfl (rd_sn rfl (rd_sn rfl (rd_sn rfl (rd_sn rfl (rd_sn rfl (rd_sn rfl (rd_sn rfl (rd_sn rfl (rd_sn rfl (rd_sn rfl (rd_sn rfl (rd_sn rfl (rd_sn rfl (rd_sn rfl (rd_sn rfl (rd_sn rfl (rd_sn rfl H411))))))))))))))))) (by decide +kernel) rfl (by decide +kernel) rfl ?_
  refine s_ist (p' := 27) (ls' := [_, _, _, _, _, _, _]) rfl rfl rfl rfl ?_
  refine s_ildn (p' := 28) rfl rfl rfl ?_
  refine s_ild (p' := 30) rfl rfl rfl ?_
  refine s_ildn (p' := 31) rfl rfl rfl ?_
  refine s_icmp (p' := 34) false rfl (by decide +kernel) rfl ?_
  refine s_con (p' := 35) rfl rfl ?_
  refine s_goto (p' := 39) rfl rfl ?_
  refine s_bz (p' := 40) (z := (nI 3)) rfl rfl rfl (by decide +kernel) ?_
  refine s_istn (p' := 41) (ls' := [_, _, _, _, _, _, _]) rfl rfl rfl rfl ?_
  refine s_incz (p' := 44) (w := (nI 3)) (ls' := [_, _, _, _, _, _, _]) rfl rfl rfl (by decide +kernel) rfl rfl ?_
  refine s_goto (p' := 14) rfl rfl ?_
  refine s_ild (p' := 16) rfl rfl rfl ?_
  refine s_ild (p' := 18) rfl rfl rfl ?_
  refine s_icmp (p' := 21) false rfl (by decide +kernel) rfl ?_
  refine s_aldn (p' := 22) rfl rfl rfl ?_
  refine s_ild (p' := 24) rfl rfl rfl ?_
  refine s_ialz (p' := 25) (m := 3) (v := (nI 0)) rfl (rd_sn rfl (rd_sn rfl (rd_sn rfl (rd_sn rfl (rd_sn rfl (rd_sn rfl (rd_sn rfl (rd_sn rfl (rd_sn rfl (rd_sn rfl (rd_sn rfl (rd_sn rfl (rd_sn rfl (rd_sn rfl (rd_sn rfl (rd_sn rfl (rd_sn rfl H411))))))))))))))))) (by decide +kernel) rfl (by decide +kernel) rfl ?_
  refine s_ist (p' := 27) (ls' := [_, _, _, _, _, _, _]) rfl rfl rfl rfl ?_
  refine s_ildn (p' := 28) rfl rfl rfl ?_
  refine s_ild (p' := 30) rfl rfl rfl ?_
  refine s_ildn (p' := 31) rfl rfl rfl ?_
  refine s_icmp (p' := 34) false rfl (by decide +kernel) rfl ?_
  refine s_con (p' := 35) rfl rfl ?_
  refine s_goto (p' := 39) rfl rfl ?_
  refine s_bz (p' := 40) (z := (nI 4)) rfl rfl rfl (by decide +kernel) ?_
  refine s_istn (p' := 41) (ls' := [_, _, _, _, _, _, _]) rfl rfl rfl rfl ?_
  refine s_incz (p' := 44) (w := (nI 4)) (ls' := [_, _, _, _, _, _, _]) rfl rfl rfl (by decide +kernel) rfl rfl ?_
  refine s_goto (p' := 14) rfl rfl ?_
  refine s_ild (p' := 16) rfl rfl rfl ?_
  refine s_ild (p' := 18) rfl rfl rfl ?_
  refine s_icmp (p' := 21) false rfl (by decide +kernel) rfl ?_
  refine s_aldn (p' := 22) rfl rfl rfl ?_
  refine s_ild (p' := 24) rfl rfl rfl ?_
  refine s_ialz (p' := 25) (m := 4) (v := (nI 0)) rfl (rd_sn rfl (rd_sn rfl (rd_sn rfl (rd_sn rfl (rd_sn rfl (rd_sn rfl (rd_sn rfl (rd_sn rfl (rd_sn rfl (rd_sn rfl (rd_sn rfl (rd_sn rfl (rd_sn rfl (rd_sn rfl (rd_sn rfl (rd_sn rfl (rd_sn rfl H411))))))))))))))))) (by decide +kernel) rfl (by decide +kernel) rfl ?_
  refine s_ist (p' := 27) (ls' := [_, _, _, _, _, _, _]) rfl rfl rfl rfl ?_
  refine s_ildn (p' := 28) rfl rfl rfl ?_
  refine s_ild (p' := 30) rfl rfl rfl ?_
  refine s_ildn (p' := 31) rfl rfl rfl ?_
  refine s_icmp (p' := 34) false rfl (by decide +kernel) rfl ?_
  refine s_con (p' := 35) rfl rfl ?_
  refine s_goto (p' := 39) rfl rfl ?_
  refine s_bz (p' := 40) (z := (nI 5)) rfl rfl rfl (by decide +kernel) ?_
  refine s_istn (p' := 41) (ls' := [_, _, _, _, _, _, _]) rfl rfl rfl rfl ?_
  refine s_incz (p' := 44) (w := (nI 5)) (ls' := [_, _, _, _, _, _, _]) rfl rfl rfl (by decide +kernel) rfl rfl ?_
  refine s_goto (p' := 14) rfl rfl ?_
  refine s_ild (p' := 16) rfl rfl rfl ?_
  refine s_ild (p' := 18) rfl rfl rfl ?_
  refine s_icmp (p' := 21) false rfl (by decide +kernel) rfl ?_
  refine s_aldn (p' := 22) rfl rfl rfl ?_
  refine s_ild (p' := 24) rfl rfl rfl ?_
  refine s_ialz (p' := 25) (m := 5) (v := (nI 0)) rfl (rd_sn rfl (rd_sn rfl (rd_sn rfl (rd_sn rfl (rd_sn rfl (rd_sn rfl (rd_sn rfl (rd_sn rfl (rd_sn rfl (rd_sn rfl (rd_sn rfl (rd_sn rfl (rd_sn rfl (rd_sn rfl (rd_sn rfl (rd_sn rfl (rd_sn rfl H411))))))))))))))))) (by decide +kernel) rfl (by decide +kernel) rfl ?_
  refine s_ist (p' := 27) (ls' := [_, _, _, _, _, _, _]) rfl rfl rfl rfl ?_
  refine s_ildn (p' := 28) rfl rfl rfl ?_
  refine s_ild (p' := 30) rfl rfl rfl ?_
  refine s_ildn (p' := 31) rfl rfl rfl ?_
  refine s_icmp (p' := 34) false rfl (by decide +kernel) rfl ?_
  refine s_con (p' := 35) rfl rfl ?_
  refine s_goto (p' := 39) rfl rfl ?_
  refine s_bz (p' := 40) (z := (nI 6)) rfl rfl rfl (by decide +kernel) ?_
  refine s_istn (p' := 41) (ls' := [_, _, _, _, _, _, _]) rfl rfl rfl rfl ?_
  refine s_incz (p' := 44) (w := (nI 6)) (ls' := [_, _, _, _, _, _, _]) rfl rfl rfl (by decide +kernel) rfl rfl ?_
  refine s_goto (p' := 14) rfl rfl ?_
  refine s_ild (p' := 16) rfl rfl rfl ?_
  refine s_ild (p' := 18) rfl rfl rfl ?_
  refine s_icmp (p' := 21) false rfl (by decide +kernel) rfl ?_
  refine s_aldn (p' := 22) rfl rfl rfl ?_
  refine s_ild (p' := 24) rfl rfl rfl ?_
  refine s_ialz (p' := 25) (m := 6) (v := (nI 0)) rfl (rd_sn rfl (rd_sn rfl (rd_sn rfl (rd_sn rfl (rd_sn rfl (rd_sn rfl (rd_sn rfl (rd_sn rfl (rd_sn rfl (rd_sn rfl (rd_sn rfl (rd_sn rfl (rd_sn rfl (rd_sn rfl (rd_sn rfl (rd_sn rfl (rd_sn rfl H411))))))))))))))))) (by decide +kernel) rfl (by decide +kernel) rfl ?_
  refine s_ist (p' := 27) (ls' := [_, _, _, _, _, _, _]) rfl rfl rfl rfl ?_
  refine s_ildn (p' := 28) rfl rfl rfl ?_
  refine s_ild (p' := 30) rfl rfl rfl ?_
  refine s_ildn (p' := 31) rfl rfl rfl ?_
  refine s_icmp (p' := 34) false rfl (by decide +kernel) rfl ?_
  refine s_con (p' := 35) rfl rfl ?_
  refine s_goto (p' := 39) rfl rfl ?_
  refine s_bz (p' := 40) (z := (nI 7)) rfl rfl rfl (by decide +kernel) ?_
  refine s_istn (p' := 41) (ls' := [_, _, _, _, _, _, _]) rfl rfl rfl rfl ?_
  refine s_incz (p' := 44) (w := (nI 7)) (ls' := [_, _, _, _, _, _, _]) rfl rfl rfl (by decide +kernel) rfl rfl ?_
  refine s_goto (p' := 14) rfl rfl ?_
  refine s_ild (p' := 16) rfl rfl rfl ?_
  refine s_ild (p' := 18) rfl rfl rfl ?_
  refine s_icmp (p' := 21) false rfl (by decide +kernel) rfl ?_
  refine s_aldn (p' := 22) rfl rfl rfl ?_
  refine s_ild (p' := 24) rfl rfl rfl ?_
  refine s_ialz (p' := 25) (m := 7) (v := (nI 0)) rfl (rd_sn rfl (rd_sn rfl (rd_sn rfl (rd_sn rfl (rd_sn rfl (rd_sn rfl (rd_sn rfl (rd_sn rfl (rd_sn rfl (rd_sn rfl (rd_sn rfl (rd_sn rfl (rd_sn rfl (rd_sn rfl (rd_sn rfl (rd_sn rfl (rd_sn rfl H411))))))))))))))))) (by decide +kernel) rfl (by decide +kernel) rfl ?_
  refine s_ist (p' := 27) (ls' := [_, _, _, _, _, _, _]) rfl rfl rfl rfl ?_
  refine s_ildn (p' := 28) rfl rfl rfl ?_
  refine s_ild (p' := 30) rfl rfl rfl ?_
  refine s_ildn (p' := 31) rfl rfl rfl ?_
  refine s_icmp (p' := 34) false rfl (by decide +kernel) rfl ?_
  refine s_con (p' := 35) rfl rfl ?_
  refine s_goto (p' := 39) rfl rfl ?_
  refine s_bz (p' := 40) (z := (nI 8)) rfl rfl rfl (by decide +kernel) ?_
  refine s_istn (p' := 41) (ls' := [_, _, _, _, _, _, _]) rfl rfl rfl rfl ?_
  refine s_incz (p' := 44) (w := (nI 8)) (ls' := [_, _, _, _, _, _, _]) rfl rfl rfl (by decide +kernel) rfl rfl ?_
  refine s_goto (p' := 14) rfl rfl ?_
  refine s_ild (p' := 16) rfl rfl rfl ?_
  refine s_ild (p' := 18) rfl rfl rfl ?_
  refine s_icmp (p' := 47) true rfl (by decide +kernel) rfl ?_
  refine s_ildn (p' := 48) rfl rfl rfl ?_
  refine c_iret rfl rfl ?_
  refine s_icmp (p' := 26) false rfl (by decide +kernel) rfl ?_
  refine s_incz (p' := 29) (w := (nI 2)) (ls' := [_, _, _]) rfl rfl rfl (by decide +kernel) rfl rfl ?_
  refine s_goto (p' := 15) rfl rfl ?_
  refine s_con (p' := 16) rfl rfl ?_
  refine s_ildn (p' := 17) rfl rfl rfl ?_
  refine s_bz (p' := 18) (z := (nI 4)) rfl rfl rfl (by decide +kernel) ?_
  refine s_aldn (p' := 19) rfl rfl rfl ?_
  refine s_ildn (p' := 20) rfl rfl rfl ?_
  refine c_call (p' := 23) (kc := 98) (ls0 := [_, _, _, _, _, _, _]) rfl rfl rfl rfl rfl (mj_rcv_is (rd_ss rfl (rd_sn rfl (rd_sn rfl (rd_sn rfl (rd_sn rfl (rd_sn rfl (rd_sn rfl (rd_sn rfl (rd_sn rfl (rd_sn rfl (rd_sn rfl (rd_sn rfl (rd_sn rfl (rd_sn rfl (rd_sn rfl (rd_sn rfl (rd_sn rfl H400)))))))))))))))))) rfl rfl rfl ?_
  refine s_con (p' := 1) rfl rfl ?_
  refine s_istn (p' := 2) (ls' := [_, _, _, _, _, _, _]) rfl rfl rfl rfl ?_
  refine s_aldn (p' := 3) rfl rfl rfl ?_
  refine s_gf (p' := 6) rfl (rd_ss rfl (rd_sn rfl (rd_sn rfl (rd_sn rfl (rd_sn rfl (rd_sn rfl (rd_sn rfl (rd_sn rfl (rd_sn rfl (rd_sn rfl (rd_sn rfl (rd_sn rfl (rd_sn rfl (rd_sn rfl (rd_sn rfl (rd_sn rfl (rd_sn rfl H400))))))))))))))))) rfl rfl ?_
  refine s_astn (p' := 7) (ls' := [_, _, _, _, _, _, _]) rfl rfl rfl rfl ?_
  refine s_aldn (p' := 8) rfl rfl rfl ?_
  refine s_lenz (p' := 9) rfl (mj_rdA_is (rd_sn rfl (rd_sn rfl (rd_sn rfl (rd_sn rfl (rd_sn rfl (rd_sn rfl (rd_sn rfl (rd_sn rfl (rd_sn rfl (rd_sn rfl (rd_sn rfl (rd_sn rfl (rd_sn rfl (rd_sn rfl (rd_sn rfl (rd_sn rfl (rd_sn rfl H411))))))))))))))))) (by decide)) rfl rfl ?_
  refine s_ist (p' := 11) (ls' := [_, _, _, _, _, _, _]) rfl rfl rfl rfl ?_
  refine s_con (p' := 12) rfl rfl ?_
  refine s_ist (p' := 14) (ls' := [_, _, _, _, _, _, _]) rfl rfl rfl rfl ?_
  refine s_ild (p' := 16) rfl rfl rfl ?_
  refine s_ild (p' := 18) rfl rfl rfl ?_
  refine s_icmp (p' := 21) false rfl (by decide +kernel) rfl ?_
  refine s_aldn (p' := 22) rfl rfl rfl ?_
  refine s_ild (p' := 24) rfl rfl rfl ?_
  refine s_ialz (p' := 25) (m := 0) (v := (nI 0)) rfl (rd_sn rfl (rd_sn rfl (rd_sn rfl (rd_sn rfl (rd_sn rfl (rd_sn rfl (rd_sn rfl (rd_sn rfl (rd_sn rfl (rd_sn rfl (rd_sn rfl (rd_sn rfl (rd_sn rfl (rd_sn rfl (rd_sn rfl (rd_sn rfl (rd_sn rfl H411))))))))))))))))) (by decide +kernel) rfl (by decide +kernel) rfl ?_
  refine s_ist (p' := 27) (ls' := [_, _, _, _, _, _, _]) rfl rfl rfl rfl ?_
  refine s_ildn (p' := 28) rfl rfl rfl ?_
  refine s_ild (p' := 30) rfl rfl rfl ?_
  refine s_ildn (p' := 31) rfl rfl rfl ?_
  refine s_icmp (p' := 34) false rfl (by decide +kernel) rfl ?_
  refine s_con (p' := 35) rfl rfl ?_
  refine s_goto (p' := 39) rfl rfl ?_
  refine s_bz (p' := 40) (z := (nI 1)) rfl rfl rfl (by decide +kernel) ?_
  refine s_istn (p' := 41) (ls' := [_, _, _, _, _, _, _]) rfl rfl rfl rfl ?_
  refine s_incz (p' := 44) (w := (nI 1)) (ls' := [_, _, _, _, _, _, _]) rfl rfl rfl (by decide +kernel) rfl rfl ?_
  refine s_goto (p' := 14) rfl rfl ?_
  refine s_ild (p' := 16) rfl rfl rfl ?_
  refine s_ild (p' := 18) rfl rfl rfl ?_
  refine s_icmp (p' := 21) false rfl (by decide +kernel) rfl ?_
  refine s_aldn (p' := 22) rfl rfl rfl ?_
  refine s_ild (p' := 24) rfl rfl rfl ?_
  refine s_ialz (p' := 25) (m := 1) (v := (nI 0)) rfl (rd_sn rfl (rd_sn rfl (rd_sn rfl (rd_sn rfl (rd_sn rfl (rd_sn rfl (rd_sn rfl (rd_sn rfl (rd_sn rfl (rd_sn rfl (rd_sn rfl (rd_sn rfl (rd_sn rfl (rd_sn rfl (rd_sn rfl (rd_sn rfl (rd_sn rfl H411))))))))))))))))) (by decide +kernel) rfl (by decide +kernel) rfl ?_
  refine s_ist (p' := 27) (ls' := [_, _, _, _, _, _, _]) rfl rfl rfl rfl ?_
  refine s_ildn (p' := 28) rfl rfl rfl ?_
  refine s_ild (p' := 30) rfl rfl rfl ?_
  refine s_ildn (p' := 31) rfl rfl rfl ?_
  refine s_icmp (p' := 34) false rfl (by decide +kernel) rfl ?_
  refine s_con (p' := 35) rfl rfl ?_
  refine s_goto (p' := 39) rfl rfl ?_
  refine s_bz (p' := 40) (z := (nI 2)) rfl rfl rfl (by decide +kernel) ?_
  refine s_istn (p' := 41) (ls' := [_, _, _, _, _, _, _]) rfl rfl rfl rfl ?_
  refine s_incz (p' := 44) (w := (nI 2)) (ls' := [_, _, _, _, _, _, _]) rfl rfl rfl (by decide +kernel) rfl rfl ?_
  refine s_goto (p' := 14) rfl rfl ?_
  refine s_ild (p' := 16) rfl rfl rfl ?_
  refine s_ild (p' := 18) rfl rfl rfl ?_
  refine s_icmp (p' := 21) false rfl (by decide +kernel) rfl ?_
  refine s_aldn (p' := 22) rfl rfl rfl ?_
  refine s_ild (p' := 24) rfl rfl rfl ?_
  refine s_ialz (p' := 25) (m := 2) (v := (nI 0)) rfl (rd_sn rfl (rd_sn rfl (rd_sn rfl (rd_sn rfl (rd_sn rfl (rd_sn rfl (rd_sn rfl (rd_sn rfl (rd_sn rfl (rd_sn rfl (rd_sn rfl (rd_sn rfl (rd_sn rfl (rd_sn rfl (rd_sn rfl (rd_sn rfl (rd_sn rfl H411))))))))))))))))) (by decide +kernel) rfl (by decide +kernel) rfl ?_
  refine s_ist (p' := 27) (ls' := [_, _, _, _, _, _, _]) rfl rfl rfl rfl ?_
  refine s_ildn (p' := 28) rfl rfl rfl ?_
  refine s_ild (p' := 30) rfl rfl rfl ?_
  refine s_ildn (p' := 31) rfl rfl rfl ?_
  refine s_icmp (p' := 34) false rfl (by decide +kernel) rfl ?_
  refine s_con (p' := 35) rfl rfl ?_
  refine s_goto (p' := 39) rfl rfl ?_
  refine s_bz (p' := 40) (z := (nI 3)) rfl rfl rfl (by decide +kernel) ?_
  refine s_istn (p' := 41) (ls' := [_, _, _, _, _, _, _]) rfl rfl rfl rfl ?_
  refine s_incz (p' := 44) (w := (nI 3)) (ls' := [_, _, _, _, _, _, _]) rfl rfl rfl (by decide +kernel) rfl rfl ?_
  refine s_goto (p' := 14) rfl rfl ?_
  refine s_ild (p' := 16) rfl rfl rfl ?_
  refine s_ild (p' := 18) rfl rfl rfl ?_
  refine s_icmp (p' := 21) false rfl (by decide +kernel) rfl ?_
  refine s_aldn (p' := 22) rfl rfl rfl ?_
  refine s_ild (p' := 24) rfl rfl rfl ?_
  refine s_ialz (p' := 25) (m := 3) (v := (nI 0)) rfl (rd_sn rfl (rd_sn rfl (rd_sn rfl (rd_sn rfl (rd_sn rfl (rd_sn rfl (rd_sn rfl (rd_sn rfl (rd_sn rfl (rd_sn rfl (rd_sn rfl (rd_sn rfl (rd_sn rfl (rd_sn rfl (rd_sn rfl (rd_sn rfl (rd_sn rfl H411))))))))))))))))) (by decide +kernel) rfl (by decide +kernel) rfl ?_
  refine s_ist (p' := 27) (ls' := [_, _, _, _, _, _, _]) rfl rfl rfl rfl ?_
  refine s_ildn (p' := 28) rfl rfl rfl ?_
  refine s_ild (p' := 30) rfl rfl rfl ?_
  refine s_ildn (p' := 31) rfl rfl rfl ?_
  refine s_icmp (p' := 34) false rfl (by decide +kernel) rfl ?_
  refine s_con (p' := 35) rfl rfl ?_
  refine s_goto (p' := 39) rfl rfl ?_
  refine s_bz (p' := 40) (z := (nI 4)) rfl rfl rfl (by decide +kernel) ?_
  refine s_istn (p' := 41) (ls' := [_, _, _, _, _, _, _]) rfl rfl rfl rfl ?_
  refine s_incz (p' := 44) (w := (nI 4)) (ls' := [_, _, _, _, _, _, _]) rfl rfl rfl (by decide +kernel) rfl rfl ?_
  refine s_goto (p' := 14) rfl rfl ?_
  refine s_ild (p' := 16) rfl rfl rfl ?_
  refine s_ild (p' := 18) rfl rfl rfl ?_
  refine s_icmp (p' := 21) false rfl (by decide +kernel) rfl ?_
  refine s_aldn (p' := 22) rfl rfl rfl ?_
  refine s_ild (p' := 24) rfl rfl rfl ?_
  refine s_ialz (p' := 25) (m := 4) (v := (nI 0)) rfl (rd_sn rfl (rd_sn rfl (rd_sn rfl (rd_sn rfl (rd_sn rfl (rd_sn rfl (rd_sn rfl (rd_sn rfl (rd_sn rfl (rd_sn rfl (rd_sn rfl (rd_sn rfl (rd_sn rfl (rd_sn rfl (rd_sn rfl (rd_sn rfl (rd_sn rfl H411))))))))))))))))) (by decide +kernel) rfl (by decide +kernel) rfl ?_
  refine s_ist (p' := 27) (ls' := [_, _, _, _, _, _, _]) rfl rfl rfl rfl ?_
  refine s_ildn (p' := 28) rfl rfl rfl ?_
  refine s_ild (p' := 30) rfl rfl rfl ?_
  refine s_ildn (p' := 31) rfl rfl rfl ?_
  refine s_icmp (p' := 34) false rfl (by decide +kernel) rfl ?_
  refine s_con (p' := 35) rfl rfl ?_
  refine s_goto (p' := 39) rfl rfl ?_
  refine s_bz (p' := 40) (z := (nI 5)) rfl rfl rfl (by decide +kernel) ?_
  refine s_istn (p' := 41) (ls' := [_, _, _, _, _, _, _]) rfl rfl rfl rfl ?_
  refine s_incz (p' := 44) (w := (nI 5)) (ls' := [_, _, _, _, _, _, _]) rfl rfl rfl (by decide +kernel) rfl rfl ?_
  refine s_goto (p' := 14) rfl rfl ?_
  refine s_ild (p' := 16) rfl rfl rfl ?_
  refine s_ild (p' := 18) rfl rfl rfl ?_
  refine s_icmp (p' := 21) false rfl (by decide +kernel) rfl ?_
  refine s_aldn (p' := 22) rfl rfl rfl ?_
  refine s_ild (p' := 24) rfl rfl rfl ?_
  refine s_ialz (p' := 25) (m := 5) (v := (nI 0)) rfl (rd_sn rfl (rd_sn rfl (rd_sn rfl (rd_sn rfl (rd_sn rfl (rd_sn rfl (rd_sn rfl (rd_sn rfl (rd_sn rfl (rd_sn rfl (rd_sn rfl (rd_sn rfl (rd_sn rfl (rd_sn rfl (rd_sn rfl (rd_sn rfl (rd_sn rfl H411))))))))))))))))) (by decide +kernel) rfl (by decide +kernel) rfl ?_
  refine s_ist (p' := 27) (ls' := [_, _, _, _, _, _, _]) rfl rfl rfl rfl ?_
  refine s_ildn (p' := 28) rfl rfl rfl ?_
  refine s_ild (p' := 30) rfl rfl rfl ?_
  refine s_ildn (p' := 31) rfl rfl rfl ?_
  refine s_icmp (p' := 34) false rfl (by decide +kernel) rfl ?_
  refine s_con (p' := 35) rfl rfl ?_
  refine s_goto (p' := 39) rfl rfl ?_
  refine s_bz (p' := 40) (z := (nI 6)) rfl rfl rfl (by decide +kernel) ?_
  refine s_istn (p' := 41) (ls' := [_, _, _, _, _, _, _]) rfl rfl rfl rfl ?_
  refine s_incz (p' := 44) (w := (nI 6)) (ls' := [_, _, _, _, _, _, _]) rfl rfl rfl (by decide +kernel) rfl rfl ?_
  refine s_goto (p' := 14) rfl rfl ?_
  refine s_ild (p' := 16) rfl rfl rfl ?_
  refine s_ild (p' := 18) rfl rfl rfl ?_
  refine s_icmp (p' := 21) false rfl (by decide +kernel) rfl ?_
  refine s_aldn (p' := 22) rfl rfl rfl ?_
  refine s_ild (p' := 24) rfl rfl rfl ?_
  refine s_ialz (p' := 25) (m := 6) (v := (nI 0)) rfl (rd_sn rfl (rd_sn rfl (rd_sn rfl (rd_sn rfl (rd_sn rfl (rd_sn rfl (rd_sn rfl (rd_sn rfl (rd_sn rfl (rd_sn rfl (rd_sn rfl (rd_sn rfl (rd_sn rfl (rd_sn rfl (rd_sn rfl (rd_sn rfl (rd_sn rfl H411))))))))))))))))) (by decide +kernel) rfl (by decide +kernel) rfl ?_
  refine s_ist (p' := 27) (ls' := [_, _, _, _, _, _, _]) rfl rfl rfl rfl ?_
  refine s_ildn (p' := 28) rfl rfl rfl ?_
  refine s_ild (p' := 30) rfl rfl rfl ?_
  refine s_ildn (p' := 31) rfl rfl rfl ?_
  refine s_icmp (p' := 34) false rfl (by decide +kernel) rfl ?_
  refine s_con (p' := 35) rfl rfl ?_
  refine s_goto (p' := 39) rfl rfl ?_
  refine s_bz (p' := 40) (z := (nI 7)) rfl rfl rfl (by decide +kernel) ?_
  refine s_istn (p' := 41) (ls' := [_, _, _, _, _, _, _]) rfl rfl rfl rfl ?_
  refine s_incz (p' := 44) (w := (nI 7)) (ls' := [_, _, _, _, _, _, _]) rfl rfl rfl (by decide +kernel) rfl rfl ?_
  refine s_goto (p' := 14) rfl rfl ?_
  refine s_ild (p' := 16) rfl rfl rfl ?_
  refine s_ild (p' := 18) rfl rfl rfl ?_
  refine s_icmp (p' := 21) false rfl (by decide +kernel) rfl ?_
  refine s_aldn (p' := 22) rfl rfl rfl ?_
  refine s_ild (p' := 24) rfl rfl rfl ?_
  refine s_ialz (p' := 25) (m := 7) (v := (nI 0)) rfl (rd_sn rfl (rd_sn rfl (rd_sn rfl (rd_sn rfl (rd_sn rfl (rd_sn rfl (rd_sn rfl (rd_sn rfl (rd_sn rfl (rd_sn rfl (rd_sn rfl (rd_sn rfl (rd_sn rfl (rd_sn rfl (rd_sn rfl (rd_sn rfl (rd_sn rfl H411))))))))))))))))) (by decide +kernel) rfl (by decide +kernel) rfl ?_
  refine s_ist (p' := 27) (ls' := [_, _, _, _, _, _, _]) rfl rfl rfl rfl ?_
  refine s_ildn (p' := 28) rfl rfl rfl ?_
  refine s_ild (p' := 30) rfl rfl rfl ?_
  refine s_ildn (p' := 31) rfl rfl rfl ?_
  refine s_icmp (p' := 34) false rfl (by decide +kernel) rfl ?_
  refine s_con (p' := 35) rfl rfl ?_
  refine s_goto (p' := 39) rfl rfl ?_
  refine s_bz (p' := 40) (z := (nI 8)) rfl rfl rfl (by decide +kernel) ?_
  refine s_istn (p' := 41) (ls' := [_, _, _, _, _, _, _]) rfl rfl rfl rfl ?_
  refine s_incz (p' := 44) (w := (nI 8)) (ls' := [_, _, _, _, _, _, _]) rfl rfl rfl (by decide +kernel) rfl rfl ?_
  refine s_goto (p' := 14) rfl rfl ?_
  refine s_ild (p' := 16) rfl rfl rfl ?_
  refine s_ild (p' := 18) rfl rfl rfl ?_
  refine s_icmp (p' := 47) true rfl (by decide +kernel) rfl ?_
  refine s_ildn (p' := 48) rfl rfl rfl ?_
  refine c_iret rfl rfl ?_
  refine s_icmp (p' := 26) false rfl (by decide +kernel) rfl ?_
  refine s_incz (p' := 29) (w := (nI 3)) (ls' := [_, _, _]) rfl rfl rfl (by decide +kernel) rfl rfl ?_
  refine s_goto (p' := 15) rfl rfl ?_
  refine s_con (p' := 16) rfl rfl ?_
  refine s_ildn (p' := 17) rfl rfl rfl ?_
  refine s_bz (p' := 18) (z := (nI 8)) rfl rfl rfl (by decide +kernel) ?_
  refine s_aldn (p' := 19) rfl rfl rfl ?_
  refine s_ildn (p' := 20) rfl rfl rfl ?_
  refine c_call (p' := 23) (kc := 98) (ls0 := [_, _, _, _, _, _, _]) rfl rfl rfl rfl rfl (mj_rcv_is (rd_ss rfl (rd_sn rfl (rd_sn rfl (rd_sn rfl (rd_sn rfl (rd_sn rfl (rd_sn rfl (rd_sn rfl (rd_sn rfl (rd_sn rfl (rd_sn rfl (rd_sn rfl (rd_sn rfl (rd_sn rfl (rd_sn rfl (rd_sn rfl (rd_sn rfl H400)))))))))))))))))) rfl rfl rfl ?_
  refine s_con (p' := 1) rfl rfl ?_
  refine s_istn (p' := 2) (ls' := [_, _, _, _, _, _, _]) rfl rfl rfl rfl ?_
  refine s_aldn (p' := 3) rfl rfl rfl ?_
  refine s_gf (p' := 6) rfl (rd_ss rfl (rd_sn rfl (rd_sn rfl (rd_sn rfl (rd_sn rfl (rd_sn rfl (rd_sn rfl (rd_sn rfl (rd_sn rfl (rd_sn rfl (rd_sn rfl (rd_sn rfl (rd_sn rfl (rd_sn rfl (rd_sn rfl (rd_sn rfl (rd_sn rfl H400))))))))))))))))) rfl rfl ?_
  refine s_astn (p' := 7) (ls' := [_, _, _, _, _, _, _]) rfl rfl rfl rfl ?_
  refine s_aldn (p' := 8) rfl rfl rfl ?_
  refine s_lenz (p' := 9) rfl (mj_rdA_is (rd_sn rfl (rd_sn rfl (rd_sn rfl (rd_sn rfl (rd_sn rfl (rd_sn rfl (rd_sn rfl (rd_sn rfl (rd_sn rfl (rd_sn rfl (rd_sn rfl (rd_sn rfl (rd_sn rfl (rd_sn rfl (rd_sn rfl (rd_sn rfl (rd_sn rfl H411))))))))))))))))) (by decide)) rfl rfl ?_
  refine s_ist (p' := 11) (ls' := [_, _, _, _, _, _, _]) rfl rfl rfl rfl ?_
  refine s_con (p' := 12) rfl rfl ?_
  refine s_ist (p' := 14) (ls' := [_, _, _, _, _, _, _]) rfl rfl rfl rfl ?_
  refine s_ild (p' := 16) rfl rfl rfl ?_
  refine s_ild (p' := 18) rfl rfl rfl ?_
  refine s_icmp (p' := 21) false rfl (by decide +kernel) rfl ?_
  refine s_aldn (p' := 22) rfl rfl rfl ?_
  refine s_ild (p' := 24) rfl rfl rfl ?_
  refine s_ialz (p' := 25) (m := 0) (v := (nI 0)) rfl (rd_sn rfl (rd_sn rfl (rd_sn rfl (rd_sn rfl (rd_sn rfl (rd_sn rfl (rd_sn rfl (rd_sn rfl (rd_sn rfl (rd_sn rfl (rd_sn rfl (rd_sn rfl (rd_sn rfl (rd_sn rfl (rd_sn rfl (rd_sn rfl (rd_sn rfl H411))))))))))))))))) (by decide +kernel) rfl (by decide +kernel) rfl ?_
  refine s_ist (p' := 27) (ls' := [_, _, _, _, _, _, _]) rfl rfl rfl rfl ?_
  refine s_ildn (p' := 28) rfl rfl rfl ?_
  refine s_ild (p' := 30) rfl rfl rfl ?_
  refine s_ildn (p' := 31) rfl rfl rfl ?_
  refine s_icmp (p' := 34) false rfl (by decide +kernel) rfl ?_
  refine s_con (p' := 35) rfl rfl ?_
  refine s_goto (p' := 39) rfl rfl ?_
  refine s_bz (p' := 40) (z := (nI 1)) rfl rfl rfl (by decide +kernel) ?_
  refine s_istn (p' := 41) (ls' := [_, _, _, _, _, _, _]) rfl rfl rfl rfl ?_
  refine s_incz (p' := 44) (w := (nI 1)) (ls' := [_, _, _, _, _, _, _]) rfl rfl rfl (by decide +kernel) rfl rfl ?_
  refine s_goto (p' := 14) rfl rfl ?_
  refine s_ild (p' := 16) rfl rfl rfl ?_
  refine s_ild (p' := 18) rfl rfl rfl ?_
  refine s_icmp (p' := 21) false rfl (by decide +kernel) rfl ?_
  refine s_aldn (p' := 22) rfl rfl rfl ?_
  refine s_ild (p' := 24) rfl rfl rfl ?_
  refine s_ialz (p' := 25) (m := 1) (v := (nI 0)) rfl (rd_sn rfl (rd_sn rfl (rd_sn rfl (rd_sn rfl (rd_sn rfl (rd_sn rfl (rd_sn rfl (rd_sn rfl (rd_sn rfl (rd_sn rfl (rd_sn rfl (rd_sn rfl (rd_sn rfl (rd_sn rfl (rd_sn rfl (rd_sn rfl (rd_sn rfl H411))))))))))))))))) (by decide +kernel) rfl (by decide +kernel) rfl ?_
  refine s_ist (p' := 27) (ls' := [_, _, _, _, _, _, _]) rfl rfl rfl rfl ?_
  refine s_ildn (p' := 28) rfl rfl rfl ?_
  refine s_ild (p' := 30) rfl rfl rfl ?_
  refine s_ildn (p' := 31) rfl rfl rfl ?_
  refine s_icmp (p' := 34) false rfl (by decide +kernel) rfl ?_
  refine s_con (p' := 35) rfl rfl ?_
  refine s_goto (p' := 39) rfl rfl ?_
  refine s_bz (p' := 40) (z := (nI 2)) rfl rfl rfl (by decide +kernel) ?_
  refine s_istn (p' := 41) (ls' := [_, _, _, _, _, _, _]) rfl rfl rfl rfl ?_
  refine s_incz (p' := 44) (w := (nI 2)) (ls' := [_, _, _, _, _, _, _]) rfl rfl rfl (by decide +kernel) rfl rfl ?_
  refine s_goto (p' := 14) rfl rfl ?_
  refine s_ild (p' := 16) rfl rfl rfl ?_
  refine s_ild (p' := 18) rfl rfl rfl ?_
  refine s_icmp (p' := 21) false rfl (by decide +kernel) rfl ?_
  refine s_aldn (p' := 22) rfl rfl rfl ?_
  refine s_ild (p' := 24) rfl rfl rfl ?_
  refine s_ialz (p' := 25) (m := 2) (v := (nI 0)) rfl (rd_sn rfl (rd_sn rfl (rd_sn rfl (rd_sn rfl (rd_sn rfl (rd_sn rfl (rd_sn rfl (rd_sn rfl (rd_sn rfl (rd_sn rfl (rd_sn rfl (rd_sn rfl (rd_sn rfl (rd_sn rfl (rd_sn rfl (rd_sn rfl (rd_sn rfl H411))))))))))))))))) (by decide +kernel) rfl (by decide +kernel) rfl ?_
  refine s_ist (p' := 27) (ls' := [_, _, _, _, _, _, _]) rfl rfl rfl rfl ?_
  refine s_ildn (p' := 28) rfl rfl rfl ?_
  refine s_ild (p' := 30) rfl rfl rfl ?_
  refine s_ildn (p' := 31) rfl rfl rfl ?_
  refine s_icmp (p' := 34) false rfl (by decide +kernel) rfl ?_
  refine s_con (p' := 35) rfl rfl ?_
  refine s_goto (p' := 39) rfl rfl ?_
  refine s_bz (p' := 40) (z := (nI 3)) rfl rfl rfl (by decide +kernel) ?_
  refine s_istn (p' := 41) (ls' := [_, _, _, _, _, _, _]) rfl rfl rfl rfl ?_
  refine s_incz (p' := 44) (w := (nI 3)) (ls' := [_, _, _, _, _, _, _]) rfl rfl rfl (by decide +kernel) rfl rfl ?_
  refine s_goto (p' := 14) rfl rfl ?_
  refine s_ild (p' := 16) rfl rfl rfl ?_
  refine s_ild (p' := 18) rfl rfl rfl ?_
  refine s_icmp (p' := 21) false rfl (by decide +kernel) rfl ?_
  refine s_aldn (p' := 22) rfl rfl rfl ?_
  refine s_ild (p' := 24) rfl rfl rfl ?_
  refine s_ialz (p' := 25) (m := 3) (v := (nI 0)) rfl (rd_sn rfl (rd_sn rfl (rd_sn rfl (rd_sn rfl (rd_sn rfl (rd_sn rfl (rd_sn rfl (rd_sn rfl (rd_sn rfl (rd_sn rfl (rd_sn rfl (rd_sn rfl (rd_sn rfl (rd_sn rfl (rd_sn rfl (rd_sn rfl (rd_sn rfl H411))))))))))))))))) (by decide +kernel) rfl (by decide +kernel) rfl ?_
  refine s_ist (p' := 27) (ls' := [_, _, _, _, _, _, _]) rfl rfl rfl rfl ?_
  refine s_ildn (p' := 28) rfl rfl rfl ?_
  refine s_ild (p' := 30) rfl rfl rfl ?_
  refine s_ildn (p' := 31) rfl rfl rfl ?_
  refine s_icmp (p' := 34) false rfl (by decide +kernel) rfl ?_
  refine s_con (p' := 35) rfl rfl ?_
  refine s_goto (p' := 39) rfl rfl ?_
  refine s_bz (p' := 40) (z := (nI 4)) rfl rfl rfl (by decide +kernel) ?_
  refine s_istn (p' := 41) (ls' := [_, _, _, _, _, _, _]) rfl rfl rfl rfl ?_
  refine s_incz (p' := 44) (w := (nI 4)) (ls' := [_, _, _, _, _, _, _]) rfl rfl rfl (by decide +kernel) rfl rfl ?_
  refine s_goto (p' := 14) rfl rfl ?_
  refine s_ild (p' := 16) rfl rfl rfl ?_
  refine s_ild (p' := 18) rfl rfl rfl ?_
  refine s_icmp (p' := 21) false rfl (by decide +kernel) rfl ?_
  refine s_aldn (p' := 22) rfl rfl rfl ?_
  refine s_ild (p' := 24) rfl rfl rfl ?_
  refine s_ialz (p' := 25) (m := 4) (v := (nI 0)) rfl (rd_sn rfl (rd_sn rfl (rd_sn rfl (rd_sn rfl (rd_sn rfl (rd_sn rfl (rd_sn rfl (rd_sn rfl (rd_sn rfl (rd_sn rfl (rd_sn rfl (rd_sn rfl (rd_sn rfl (rd_sn rfl (rd_sn rfl (rd_sn rfl (rd_sn rfl H411))))))))))))))))) (by decide +kernel) rfl (by decide +kernel) rfl ?_
  refine s_ist (p' := 27) (ls' := [_, _, _, _, _, _, _]) rfl rfl rfl rfl ?_
  refine s_ildn (p' := 28) rfl rfl rfl ?_
  refine s_ild (p' := 30) rfl rfl rfl ?_
  refine s_ildn (p' := 31) rfl rfl rfl ?_
  refine s_icmp (p' := 34) false rfl (by decide +kernel) rfl ?_
  refine s_con (p' := 35) rfl rfl ?_
  refine s_goto (p' := 39) rfl rfl ?_
  refine s_bz (p' := 40) (z := (nI 5)) rfl rfl rfl (by decide +kernel) ?_
  refine s_istn (p' := 41) (ls' := [_, _, _, _, _, _, _]) rfl rfl rfl rfl ?_
  refine s_incz (p' := 44) (w := (nI 5)) (ls' := [_, _, _, _, _, _, _]) rfl rfl rfl (by decide +kernel) rfl rfl ?_
  refine s_goto (p' := 14) rfl rfl ?_
  refine s_ild (p' := 16) rfl rfl rfl ?_
  refine s_ild (p' := 18) rfl rfl rfl ?_
  refine s_icmp (p' := 21) false rfl (by decide +kernel) rfl ?_
  refine s_aldn (p' := 22) rfl rfl rfl ?_
  refine s_ild (p' := 24) rfl rfl rfl ?_
  refine s_ialz (p' := 25) (m := 5) (v := (nI 0)) rfl (rd_sn rfl (rd_sn rfl (rd_sn rfl (rd_sn rfl (rd_sn rfl (rd_sn rfl (rd_sn rfl (rd_sn rfl (rd_sn rfl (rd_sn rfl (rd_sn rfl (rd_sn rfl (rd_sn rfl (rd_sn rfl (rd_sn rfl (rd_sn rfl (rd_sn rfl H411))))))))))))))))) (by decide +kernel) rfl (by decide +kernel) rfl ?_
  refine s_ist (p' := 27) (ls' := [_, _, _, _, _, _, _]) rfl rfl rfl rfl ?_
  refine s_ildn (p' := 28) rfl rfl rfl ?_
  refine s_ild (p' := 30) rfl rfl rfl ?_
  refine s_ildn (p' := 31) rfl rfl rfl ?_
  refine s_icmp (p' := 34) false rfl (by decide +kernel) rfl ?_
  refine s_con (p' := 35) rfl rfl ?_
  refine s_goto (p' := 39) rfl rfl ?_
  refine s_bz (p' := 40) (z := (nI 6)) rfl rfl rfl (by decide +kernel) ?_
  refine s_istn (p' := 41) (ls' := [_, _, _, _, _, _, _]) rfl rfl rfl rfl ?_
  refine s_incz (p' := 44) (w := (nI 6)) (ls' := [_, _, _, _, _, _, _]) rfl rfl rfl (by decide +kernel) rfl rfl ?_
  refine s_goto (p' := 14) rfl rfl ?_
  refine s_ild (p' := 16) rfl rfl rfl ?_
  refine s_ild (p' := 18) rfl rfl rfl ?_
  refine s_icmp (p' := 21) false rfl (by decide +kernel) rfl ?_
  refine s_aldn (p' := 22) rfl rfl rfl ?_
  refine s_ild (p' := 24) rfl rfl rfl ?_
  refine s_ialz (p' := 25) (m := 6) (v := (nI 0)) rfl (rd_sn rfl (rd_sn rfl (rd_sn rfl (rd_sn rfl (rd_sn rfl (rd_sn rfl (rd_sn rfl (rd_sn rfl (rd_sn rfl (rd_sn rfl (rd_sn rfl (rd_sn rfl (rd_sn rfl (rd_sn rfl (rd_sn rfl (rd_sn rfl (rd_sn rfl H411))))))))))))))))) (by decide +kernel) rfl (by decide +kernel) rfl ?_
  refine s_ist (p' := 27) (ls' := [_, _, _, _, _, _, _]) rfl rfl rfl rfl ?_
  refine s_ildn (p' := 28) rfl rfl rfl ?_
  refine s_ild (p' := 30) rfl rfl rfl ?_
  refine s_ildn (p' := 31) rfl rfl rfl ?_
  refine s_icmp (p' := 34) false rfl (by decide +kernel) rfl ?_
  refine s_con (p' := 35) rfl rfl ?_
  refine s_goto (p' := 39) rfl rfl ?_
  refine s_bz (p' := 40) (z := (nI 7)) rfl rfl rfl (by decide +kernel) ?_
  refine s_istn (p' := 41) (ls' := [_, _, _, _, _, _, _]) rfl rfl rfl rfl ?_
  refine s_incz (p' := 44) (w := (nI 7)) (ls' := [_, _, _, _, _, _, _]) rfl rfl rfl (by decide +kernel) rfl rfl ?_
  refine s_goto (p' := 14) rfl rfl ?_
  refine s_ild (p' := 16) rfl rfl rfl ?_
  refine s_ild (p' := 18) rfl rfl rfl ?_
  refine s_icmp (p' := 21) false rfl (by decide +kernel) rfl ?_
  refine s_aldn (p' := 22) rfl rfl rfl ?_
  refine s_ild (p' := 24) rfl rfl rfl ?_
  refine s_ialz (p' := 25) (m := 7) (v := (nI 0)) rfl (rd_sn rfl (rd_sn rfl (rd_sn rfl (rd_sn rfl (rd_sn rfl (rd_sn rfl (rd_sn rfl (rd_sn rfl (rd_sn rfl (rd_sn rfl (rd_sn rfl (rd_sn rfl (rd_sn rfl (rd_sn rfl (rd_sn rfl (rd_sn rfl (rd_sn rfl H411))))))))))))))))) (by decide +kernel) rfl (by decide +kernel) rfl ?_
  refine s_ist (p' := 27) (ls' := [_, _, _, _, _, _, _]) rfl rfl rfl rfl ?_
  refine s_ildn (p' := 28) rfl rfl rfl ?_
  refine s_ild (p' := 30) rfl rfl rfl ?_
  refine s_ildn (p' := 31) rfl rfl rfl ?_
  refine s_icmp (p' := 34) false rfl (by decide +kernel) rfl ?_
  refine s_con (p' := 35) rfl rfl ?_
  refine s_goto (p' := 39) rfl rfl ?_
  refine s_bz (p' := 40) (z := (nI 8)) rfl rfl rfl (by decide +kernel) ?_
  refine s_istn (p' := 41) (ls' := [_, _, _, _, _, _, _]) rfl rfl rfl rfl ?_
  refine s_incz (p' := 44) (w := (nI 8)) (ls' := [_, _, _, _, _, _, _]) rfl rfl rfl (by decide +kernel) rfl rfl ?_
  refine s_goto (p' := 14) rfl rfl ?_
  refine s_ild (p' := 16) rfl rfl rfl ?_
  refine s_ild (p' := 18) rfl rfl rfl ?_
  refine s_icmp (p' := 47) true rfl (by decide +kernel) rfl ?_
  refine s_ildn (p' := 48) rfl rfl rfl ?_
  refine c_iret rfl rfl ?_
  refine s_icmp (p' := 32) true rfl (by decide +kernel) rfl ?_
  refine s_incz (p' := 35) (w := (nI 1)) (ls' := [_, _, _]) rfl rfl rfl (by decide +kernel) rfl rfl ?_
  refine s_goto (p' := 9) rfl rfl ?_
  refine s_ildn (p' := 10) rfl rfl rfl ?_
  refine s_bip (p' := 12) rfl rfl ?_
  refine s_icmp (p' := 15) false rfl (by decide +kernel) rfl ?_
  refine s_con (p' := 16) rfl rfl ?_
  refine s_ildn (p' := 17) rfl rfl rfl ?_
  refine s_bz (p' := 18) (z := (nI 8)) rfl rfl rfl (by decide +kernel) ?_
  refine s_aldn (p' := 19) rfl rfl rfl ?_
  refine s_ildn (p' := 20) rfl rfl rfl ?_
  refine c_call (p' := 23) (kc := 98) (ls0 := [_, _, _, _, _, _, _]) rfl rfl rfl rfl rfl (mj_rcv_is (rd_ss rfl (rd_sn rfl (rd_sn rfl (rd_sn rfl (rd_sn rfl (rd_sn rfl (rd_sn rfl (rd_sn rfl (rd_sn rfl (rd_sn rfl (rd_sn rfl (rd_sn rfl (rd_sn rfl (rd_sn rfl (rd_sn rfl (rd_sn rfl (rd_sn rfl H400)))))))))))))))))) rfl rfl rfl ?_
  refine s_con (p' := 1) rfl rfl ?_
  refine s_istn (p' := 2) (ls' := [_, _, _, _, _, _, _]) rfl rfl rfl rfl ?_
  refine s_aldn (p' := 3) rfl rfl rfl ?_
  refine s_gf (p' := 6) rfl (rd_ss rfl (rd_sn rfl (rd_sn rfl (rd_sn rfl (rd_sn rfl (rd_sn rfl (rd_sn rfl (rd_sn rfl (rd_sn rfl (rd_sn rfl (rd_sn rfl (rd_sn rfl (rd_sn rfl (rd_sn rfl (rd_sn rfl (rd_sn rfl (rd_sn rfl H400))))))))))))))))) rfl rfl ?_
  refine s_astn (p' := 7) (ls' := [_, _, _, _, _, _, _]) rfl rfl rfl rfl ?_
  refine s_aldn (p' := 8) rfl rfl rfl ?_
  refine s_lenz (p' := 9) rfl (mj_rdA_is (rd_sn rfl (rd_sn rfl (rd_sn rfl (rd_sn rfl (rd_sn rfl (rd_sn rfl (rd_sn rfl (rd_sn rfl (rd_sn rfl (rd_sn rfl (rd_sn rfl (rd_sn rfl (rd_sn rfl (rd_sn rfl (rd_sn rfl (rd_sn rfl (rd_sn rfl H411))))))))))))))))) (by decide)) rfl rfl ?_
  refine s_ist (p' := 11) (ls' := [_, _, _, _, _, _, _]) rfl rfl rfl rfl ?_
  refine s_con (p' := 12) rfl rfl ?_
  refine s_ist (p' := 14) (ls' := [_, _, _, _, _, _, _]) rfl rfl rfl rfl ?_
  refine s_ild (p' := 16) rfl rfl rfl ?_
  refine s_ild (p' := 18) rfl rfl rfl ?_
  refine s_icmp (p' := 21) false rfl (by decide +kernel) rfl ?_
  refine s_aldn (p' := 22) rfl rfl rfl ?_
  refine s_ild (p' := 24) rfl rfl rfl ?_
  refine s_ialz (p' := 25) (m := 0) (v := (nI 0)) rfl (rd_sn rfl (rd_sn rfl (rd_sn rfl (rd_sn rfl (rd_sn rfl (rd_sn rfl (rd_sn rfl (rd_sn rfl (rd_sn rfl (rd_sn rfl (rd_sn rfl (rd_sn rfl (rd_sn rfl (rd_sn rfl (rd_sn rfl (rd_sn rfl (rd_sn rfl H411))))))))))))))))) (by decide +kernel) rfl (by decide +kernel) rfl ?_
  refine s_ist (p' := 27) (ls' := [_, _, _, _, _, _, _]) rfl rfl rfl rfl ?_
  refine s_ildn (p' := 28) rfl rfl rfl ?_
  refine s_ild (p' := 30) rfl rfl rfl ?_
  refine s_ildn (p' := 31) rfl rfl rfl ?_
  refine s_icmp (p' := 38) true rfl (by decide +kernel) rfl ?_
  refine s_con (p' := 39) rfl rfl ?_
  refine s_bz (p' := 40) (z := (nI 0)) rfl rfl rfl (by decide +kernel) ?_
  refine s_istn (p' := 41) (ls' := [_, _, _, _, _, _, _]) rfl rfl rfl rfl ?_
  refine s_incz (p' := 44) (w := (nI 1)) (ls' := [_, _, _, _, _, _, _]) rfl rfl rfl (by decide +kernel) rfl rfl ?_
  refine s_goto (p' := 14) rfl rfl ?_
  refine s_ild (p' := 16) rfl rfl rfl ?_
  refine s_ild (p' := 18) rfl rfl rfl ?_
  refine s_icmp (p' := 21) false rfl (by decide +kernel) rfl ?_
  refine s_aldn (p' := 22) rfl rfl rfl ?_
  refine s_ild (p' := 24) rfl rfl rfl ?_
  refine s_ialz (p' := 25) (m := 1) (v := (nI 0)) rfl (rd_sn rfl (rd_sn rfl (rd_sn rfl (rd_sn rfl (rd_sn rfl (rd_sn rfl (rd_sn rfl (rd_sn rfl (rd_sn rfl (rd_sn rfl (rd_sn rfl (rd_sn rfl (rd_sn rfl (rd_sn rfl (rd_sn rfl (rd_sn rfl (rd_sn rfl H411))))))))))))))))) (by decide +kernel) rfl (by decide +kernel) rfl ?_
  refine s_ist (p' := 27) (ls' := [_, _, _, _, _, _, _]) rfl rfl rfl rfl ?_
  refine s_ildn (p' := 28) rfl rfl rfl ?_
  refine s_ild (p' := 30) rfl rfl rfl ?_
  refine s_ildn (p' := 31) rfl rfl rfl ?_
  refine s_icmp (p' := 38) true rfl (by decide +kernel) rfl ?_
  refine s_con (p' := 39) rfl rfl ?_
  refine s_bz (p' := 40) (z := (nI 0)) rfl rfl rfl (by decide +kernel) ?_
  refine s_istn (p' := 41) (ls' := [_, _, _, _, _, _, _]) rfl rfl rfl rfl ?_
  refine s_incz (p' := 44) (w := (nI 2)) (ls' := [_, _, _, _, _, _, _]) rfl rfl rfl (by decide +kernel) rfl rfl ?_
  refine s_goto (p' := 14) rfl rfl ?_
  refine s_ild (p' := 16) rfl rfl rfl ?_
  refine s_ild (p' := 18) rfl rfl rfl ?_
  refine s_icmp (p' := 21) false rfl (by decide +kernel) rfl ?_
  refine s_aldn (p' := 22) rfl rfl rfl ?_
  refine s_ild (p' := 24) rfl rfl rfl ?_
  refine s_ialz (p' := 25) (m := 2) (v := (nI 0)) rfl (rd_sn rfl (rd_sn rfl (rd_sn rfl (rd_sn rfl (rd_sn rfl (rd_sn rfl (rd_sn rfl (rd_sn rfl (rd_sn rfl (rd_sn rfl (rd_sn rfl (rd_sn rfl (rd_sn rfl (rd_sn rfl (rd_sn rfl (rd_sn rfl (rd_sn rfl H411))))))))))))))))) (by decide +kernel) rfl (by decide +kernel) rfl ?_
  refine s_ist (p' := 27) (ls' := [_, _, _, _, _, _, _]) rfl rfl rfl rfl ?_
  refine s_ildn (p' := 28) rfl rfl rfl ?_
  refine s_ild (p' := 30) rfl rfl rfl ?_
  refine s_ildn (p' := 31) rfl rfl rfl ?_
  refine s_icmp (p' := 38) true rfl (by decide +kernel) rfl ?_
  refine s_con (p' := 39) rfl rfl ?_
  refine s_bz (p' := 40) (z := (nI 0)) rfl rfl rfl (by decide +kernel) ?_
  refine s_istn (p' := 41) (ls' := [_, _, _, _, _, _, _]) rfl rfl rfl rfl ?_
  refine s_incz (p' := 44) (w := (nI 3)) (ls' := [_, _, _, _, _, _, _]) rfl rfl rfl (by decide +kernel) rfl rfl ?_
  refine s_goto (p' := 14) rfl rfl ?_
  refine s_ild (p' := 16) rfl rfl rfl ?_
  refine s_ild (p' := 18) rfl rfl rfl ?_
  refine s_icmp (p' := 21) false rfl (by decide +kernel) rfl ?_
  refine s_aldn (p' := 22) rfl rfl rfl ?_
  refine s_ild (p' := 24) rfl rfl rfl ?_
  refine s_ialz (p' := 25) (m := 3) (v := (nI 0)) rfl (rd_sn rfl (rd_sn rfl (rd_sn rfl (rd_sn rfl (rd_sn rfl (rd_sn rfl (rd_sn rfl (rd_sn rfl (rd_sn rfl (rd_sn rfl (rd_sn rfl (rd_sn rfl (rd_sn rfl (rd_sn rfl (rd_sn rfl (rd_sn rfl (rd_sn rfl H411))))))))))))))))) (by decide +kernel) rfl (by decide +kernel) rfl ?_
  refine s_ist (p' := 27) (ls' := [_, _, _, _, _, _, _]) rfl rfl rfl rfl ?_
  refine s_ildn (p' := 28) rfl rfl rfl ?_
  refine s_ild (p' := 30) rfl rfl rfl ?_
  refine s_ildn (p' := 31) rfl rfl rfl ?_
  refine s_icmp (p' := 38) true rfl (by decide +kernel) rfl ?_
  refine s_con (p' := 39) rfl rfl ?_
  refine s_bz (p' := 40) (z := (nI 0)) rfl rfl rfl (by decide +kernel) ?_
  refine s_istn (p' := 41) (ls' := [_, _, _, _, _, _, _]) rfl rfl rfl rfl ?_
  refine s_incz (p' := 44) (w := (nI 4)) (ls' := [_, _, _, _, _, _, _]) rfl rfl rfl (by decide +kernel) rfl rfl ?_
  refine s_goto (p' := 14) rfl rfl ?_
  refine s_ild (p' := 16) rfl rfl rfl ?_
  refine s_ild (p' := 18) rfl rfl rfl ?_
  refine s_icmp (p' := 21) false rfl (by decide +kernel) rfl ?_
  refine s_aldn (p' := 22) rfl rfl rfl ?_
  refine s_ild (p' := 24) rfl rfl rfl ?_
  refine s_ialz (p' := 25) (m := 4) (v := (nI 0)) rfl (rd_sn rfl (rd_sn rfl (rd_sn rfl (rd_sn rfl (rd_sn rfl (rd_sn rfl (rd_sn rfl (rd_sn rfl (rd_sn rfl (rd_sn rfl (rd_sn rfl (rd_sn rfl (rd_sn rfl (rd_sn rfl (rd_sn rfl (rd_sn rfl (rd_sn rfl H411))))))))))))))))) (by decide +kernel) rfl (by decide +kernel) rfl ?_
  refine s_ist (p' := 27) (ls' := [_, _, _, _, _, _, _]) rfl rfl rfl rfl ?_
  refine s_ildn (p' := 28) rfl rfl rfl ?_
  refine s_ild (p' := 30) rfl rfl rfl ?_
  refine s_ildn (p' := 31) rfl rfl rfl ?_
  refine s_icmp (p' := 38) true rfl (by decide +kernel) rfl ?_
  refine s_con (p' := 39) rfl rfl ?_
  refine s_bz (p' := 40) (z := (nI 0)) rfl rfl rfl (by decide +kernel) ?_
  refine s_istn (p' := 41) (ls' := [_, _, _, _, _, _, _]) rfl rfl rfl rfl ?_
  refine s_incz (p' := 44) (w := (nI 5)) (ls' := [_, _, _, _, _, _, _]) rfl rfl rfl (by decide +kernel) rfl rfl ?_
  refine s_goto (p' := 14) rfl rfl ?_
  refine s_ild (p' := 16) rfl rfl rfl ?_
  refine s_ild (p' := 18) rfl rfl rfl ?_
  refine s_icmp (p' := 21) false rfl (by decide +kernel) rfl ?_
  refine s_aldn (p' := 22) rfl rfl rfl ?_
  refine s_ild (p' := 24) rfl rfl rfl ?_
  refine s_ialz (p' := 25) (m := 5) (v := (nI 0)) rfl (rd_sn rfl (rd_sn rfl (rd_sn rfl (rd_sn rfl (rd_sn rfl (rd_sn rfl (rd_sn rfl (rd_sn rfl (rd_sn rfl (rd_sn rfl (rd_sn rfl (rd_sn rfl (rd_sn rfl (rd_sn rfl (rd_sn rfl (rd_sn rfl (rd_sn rfl H411))))))))))))))))) (by decide +kernel) rfl (by decide +kernel) rfl ?_
  refine s_ist (p' := 27) (ls' := [_, _, _, _, _, _, _]) rfl rfl rfl rfl ?_
  refine s_ildn (p' := 28) rfl rfl rfl ?_
  refine s_ild (p' := 30) rfl rfl rfl ?_
  refine s_ildn (p' := 31) rfl rfl rfl ?_
  refine s_icmp (p' := 38) true rfl (by decide +kernel) rfl ?_
  refine s_con (p' := 39) rfl rfl ?_
  refine s_bz (p' := 40) (z := (nI 0)) rfl rfl rfl (by decide +kernel) ?_
  refine s_istn (p' := 41) (ls' := [_, _, _, _, _, _, _]) rfl rfl rfl rfl ?_
  refine s_incz (p' := 44) (w := (nI 6)) (ls' := [_, _, _, _, _, _, _]) rfl rfl rfl (by decide +kernel) rfl rfl ?_
  refine s_goto (p' := 14) rfl rfl ?_
  refine s_ild (p' := 16) rfl rfl rfl ?_
  refine s_ild (p' := 18) rfl rfl rfl ?_
  refine s_icmp (p' := 21) false rfl (by decide +kernel) rfl ?_
  refine s_aldn (p' := 22) rfl rfl rfl ?_
  refine s_ild (p' := 24) rfl rfl rfl ?_
  refine s_ialz (p' := 25) (m := 6) (v := (nI 0)) rfl (rd_sn rfl (rd_sn rfl (rd_sn rfl (rd_sn rfl (rd_sn rfl (rd_sn rfl (rd_sn rfl (rd_sn rfl (rd_sn rfl (rd_sn rfl (rd_sn rfl (rd_sn rfl (rd_sn rfl (rd_sn rfl (rd_sn rfl (rd_sn rfl (rd_sn rfl H411))))))))))))))))) (by decide +kernel) rfl (by decide +kernel) rfl ?_
  refine s_ist (p' := 27) (ls' := [_, _, _, _, _, _, _]) rfl rfl rfl rfl ?_
  refine s_ildn (p' := 28) rfl rfl rfl ?_
  refine s_ild (p' := 30) rfl rfl rfl ?_
  refine s_ildn (p' := 31) rfl rfl rfl ?_
  refine s_icmp (p' := 38) true rfl (by decide +kernel) rfl ?_
  refine s_con (p' := 39) rfl rfl ?_
  refine s_bz (p' := 40) (z := (nI 0)) rfl rfl rfl (by decide +kernel) ?_
  refine s_istn (p' := 41) (ls' := [_, _, _, _, _, _, _]) rfl rfl rfl rfl ?_
  refine s_incz (p' := 44) (w := (nI 7)) (ls' := [_, _, _, _, _, _, _]) rfl rfl rfl (by decide +kernel) rfl rfl ?_
  refine s_goto (p' := 14) rfl rfl ?_
  refine s_ild (p' := 16) rfl rfl rfl ?_
  refine s_ild (p' := 18) rfl rfl rfl ?_
  refine s_icmp (p' := 21) false rfl (by decide +kernel) rfl ?_
  refine s_aldn (p' := 22) rfl rfl rfl ?_
  refine s_ild (p' := 24) rfl rfl rfl ?_
  refine s_ialz (p' := 25) (m := 7) (v := (nI 0)) rfl (rd_sn rfl (rd_sn rfl (rd_sn rfl (rd_sn rfl (rd_sn rfl (rd_sn rfl (rd_sn rfl (rd_sn rfl (rd_sn rfl (rd_sn rfl (rd_sn rfl (rd_sn rfl (rd_sn rfl (rd_sn rfl (rd_sn rfl (rd_sn rfl (rd_sn rfl H411))))))))))))))))) (by decide +kernel) rfl (by decide +kernel) rfl ?_
  refine s_ist (p' := 27) (ls' := [_, _, _, _, _, _, _]) rfl rfl rfl rfl ?_
  refine s_ildn (p' := 28) rfl rfl rfl ?_
  refine s_ild (p' := 30) rfl rfl rfl ?_
  refine s_ildn (p' := 31) rfl rfl rfl ?_
  refine s_icmp (p' := 38) true rfl (by decide +kernel) rfl ?_
  refine s_con (p' := 39) rfl rfl ?_
  refine s_bz (p' := 40) (z := (nI 0)) rfl rfl rfl (by decide +kernel) ?_
  refine s_istn (p' := 41) (ls' := [_, _, _, _, _, _, _]) rfl rfl rfl rfl ?_
  refine s_incz (p' := 44) (w := (nI 8)) (ls' := [_, _, _, _, _, _, _]) rfl rfl rfl (by decide +kernel) rfl rfl ?_
  refine s_goto (p' := 14) rfl rfl ?_
  refine s_ild (p' := 16) rfl rfl rfl ?_
  refine s_ild (p' := 18) rfl rfl rfl ?_
  refine s_icmp (p' := 47) true rfl (by decide +kernel) rfl ?_
  refine s_ildn (p' := 48) rfl rfl rfl ?_
  refine c_iret rfl rfl ?_
  refine s_icmp (p' := 32) true rfl (by decide +kernel) rfl ?_
  refine s_incz (p' := 35) (w := (nI 2)) (ls' := [_, _, _]) rfl rfl rfl (by decide +kernel) rfl rfl ?_
  refine s_goto (p' := 9) rfl rfl ?_
  refine s_ildn (p' := 10) rfl rfl rfl ?_
  refine s_bip (p' := 12) rfl rfl ?_
  refine s_icmp (p' := 15) false rfl (by decide +kernel) rfl ?_
  refine s_con (p' := 16) rfl rfl ?_
  refine s_ildn (p' := 17) rfl rfl rfl ?_
  refine s_bz (p' := 18) (z := (nI 8)) rfl rfl rfl (by decide +kernel) ?_
  refine s_aldn (p' := 19) rfl rfl rfl ?_
  refine s_ildn (p' := 20) rfl rfl rfl ?_
  refine c_call (p' := 23) (kc := 98) (ls0 := [_, _, _, _, _, _, _]) rfl rfl rfl rfl rfl (mj_rcv_is (rd_ss rfl (rd_sn rfl (rd_sn rfl (rd_sn rfl (rd_sn rfl (rd_sn rfl (rd_sn rfl (rd_sn rfl (rd_sn rfl (rd_sn rfl (rd_sn rfl (rd_sn rfl (rd_sn rfl (rd_sn rfl (rd_sn rfl (rd_sn rfl (rd_sn rfl H400)))))))))))))))))) rfl rfl rfl ?_
  refine s_con (p' := 1) rfl rfl ?_
  refine s_istn (p' := 2) (ls' := [_, _, _, _, _, _, _]) rfl rfl rfl rfl ?_
  refine s_aldn (p' := 3) rfl rfl rfl ?_
  refine s_gf (p' := 6) rfl (rd_ss rfl (rd_sn rfl (rd_sn rfl (rd_sn rfl (rd_sn rfl (rd_sn rfl (rd_sn rfl (rd_sn rfl (rd_sn rfl (rd_sn rfl (rd_sn rfl (rd_sn rfl (rd_sn rfl (rd_sn rfl (rd_sn rfl (rd_sn rfl (rd_sn rfl H400))))))))))))))))) rfl rfl ?_
  refine s_astn (p' := 7) (ls' := [_, _, _, _, _, _, _]) rfl rfl rfl rfl ?_
  refine s_aldn (p' := 8) rfl rfl rfl ?_
  refine s_lenz (p' := 9) rfl (mj_rdA_is (rd_sn rfl (rd_sn rfl (rd_sn rfl (rd_sn rfl (rd_sn rfl (rd_sn rfl (rd_sn rfl (rd_sn rfl (rd_sn rfl (rd_sn rfl (rd_sn rfl (rd_sn rfl (rd_sn rfl (rd_sn rfl (rd_sn rfl (rd_sn rfl (rd_sn rfl H411))))))))))))))))) (by decide)) rfl rfl ?_
  refine s_ist (p' := 11) (ls' := [_, _, _, _, _, _, _]) rfl rfl rfl rfl ?_
  refine s_con (p' := 12) rfl rfl ?_
  refine s_ist (p' := 14) (ls' := [_, _, _, _, _, _, _]) rfl rfl rfl rfl ?_
  refine s_ild (p' := 16) rfl rfl rfl ?_
  refine s_ild (p' := 18) rfl rfl rfl ?_
  refine s_icmp (p' := 21) false rfl (by decide +kernel) rfl ?_
  refine s_aldn (p' := 22) rfl rfl rfl ?_
  refine s_ild (p' := 24) rfl rfl rfl ?_
  refine s_ialz (p' := 25) (m := 0) (v := (nI 0)) rfl (rd_sn rfl (rd_sn rfl (rd_sn rfl (rd_sn rfl (rd_sn rfl (rd_sn rfl (rd_sn rfl (rd_sn rfl (rd_sn rfl (rd_sn rfl (rd_sn rfl (rd_sn rfl (rd_sn rfl (rd_sn rfl (rd_sn rfl (rd_sn rfl (rd_sn rfl H411))))))))))))))))) (by decide +kernel) rfl (by decide +kernel) rfl ?_
  refine s_ist (p' := 27) (ls' := [_, _, _, _, _, _, _]) rfl rfl rfl rfl ?_
  refine s_ildn (p' := 28) rfl rfl rfl ?_
  refine s_ild (p' := 30) rfl rfl rfl ?_
  refine s_ildn (p' := 31) rfl rfl rfl ?_
  refine s_icmp (p' := 38) true rfl (by decide +kernel) rfl ?_
  refine s_con (p' := 39) rfl rfl ?_
  refine s_bz (p' := 40) (z := (nI 0)) rfl rfl rfl (by decide +kernel) ?_
  refine s_istn (p' := 41) (ls' := [_, _, _, _, _, _, _]) rfl rfl rfl rfl ?_
  refine s_incz (p' := 44) (w := (nI 1)) (ls' := [_, _, _, _, _, _, _]) rfl rfl rfl (by decide +kernel) rfl rfl ?_
  refine s_goto (p' := 14) rfl rfl ?_
  refine s_ild (p' := 16) rfl rfl rfl ?_
  refine s_ild (p' := 18) rfl rfl rfl ?_
  refine s_icmp (p' := 21) false rfl (by decide +kernel) rfl ?_
  refine s_aldn (p' := 22) rfl rfl rfl ?_
  refine s_ild (p' := 24) rfl rfl rfl ?_
  refine s_ialz (p' := 25) (m := 1) (v := (nI 0)) rfl (rd_sn rfl (rd_sn rfl (rd_sn rfl (rd_sn rfl (rd_sn rfl (rd_sn rfl (rd_sn rfl (rd_sn rfl (rd_sn rfl (rd_sn rfl (rd_sn rfl (rd_sn rfl (rd_sn rfl (rd_sn rfl (rd_sn rfl (rd_sn rfl (rd_sn rfl H411))))))))))))))))) (by decide +kernel) rfl (by decide +kernel) rfl ?_
  refine s_ist (p' := 27) (ls' := [_, _, _, _, _, _, _]) rfl rfl rfl rfl ?_
  refine s_ildn (p' := 28) rfl rfl rfl ?_
  refine s_ild (p' := 30) rfl rfl rfl ?_
  refine s_ildn (p' := 31) rfl rfl rfl ?_
  refine s_icmp (p' := 38) true rfl (by decide +kernel) rfl ?_
  refine s_con (p' := 39) rfl rfl ?_
  refine s_bz (p' := 40) (z := (nI 0)) rfl rfl rfl (by decide +kernel) ?_
  refine s_istn (p' := 41) (ls' := [_, _, _, _, _, _, _]) rfl rfl rfl rfl ?_
  refine s_incz (p' := 44) (w := (nI 2)) (ls' := [_, _, _, _, _, _, _]) rfl rfl rfl (by decide +kernel) rfl rfl ?_
  refine s_goto (p' := 14) rfl rfl ?_
  refine s_ild (p' := 16) rfl rfl rfl ?_
  refine s_ild (p' := 18) rfl rfl rfl ?_
  refine s_icmp (p' := 21) false rfl (by decide +kernel) rfl ?_
  refine s_aldn (p' := 22) rfl rfl rfl ?_
  refine s_ild (p' := 24) rfl rfl rfl ?_
  refine s_ialz (p' := 25) (m := 2) (v := (nI 0)) rfl (rd_sn rfl (rd_sn rfl (rd_sn rfl (rd_sn rfl (rd_sn rfl (rd_sn rfl (rd_sn rfl (rd_sn rfl (rd_sn rfl (rd_sn rfl (rd_sn rfl (rd_sn rfl (rd_sn rfl (rd_sn rfl (rd_sn rfl (rd_sn rfl (rd_sn rfl H411))))))))))))))))) (by decide +kernel) rfl (by decide +kernel) rfl ?_
  refine s_ist (p' := 27) (ls' := [_, _, _, _, _, _, _]) rfl rfl rfl rfl ?_
  refine s_ildn (p' := 28) rfl rfl rfl ?_
  refine s_ild (p' := 30) rfl rfl rfl ?_
  refine s_ildn (p' := 31) rfl rfl rfl ?_
  refine s_icmp (p' := 38) true rfl (by decide +kernel) rfl ?_
  refine s_con (p' := 39) rfl rfl ?_
  refine s_bz (p' := 40) (z := (nI 0)) rfl rfl rfl (by decide +kernel) ?_
  refine s_istn (p' := 41) (ls' := [_, _, _, _, _, _, _]) rfl rfl rfl rfl ?_
  refine s_incz (p' := 44) (w := (nI 3)) (ls' := [_, _, _, _, _, _, _]) rfl rfl rfl (by decide +kernel) rfl rfl ?_
  refine s_goto (p' := 14) rfl rfl ?_
  refine s_ild (p' := 16) rfl rfl rfl ?_
  refine s_ild (p' := 18) rfl rfl rfl ?_
  refine s_icmp (p' := 21) false rfl (by decide +kernel) rfl ?_
  refine s_aldn (p' := 22) rfl rfl rfl ?_
  refine s_ild (p' := 24) rfl rfl rfl ?_
  refine s_ialz (p' := 25) (m := 3) (v := (nI 0)) rfl (rd_sn rfl (rd_sn rfl (rd_sn rfl (rd_sn rfl (rd_sn rfl (rd_sn rfl (rd_sn rfl (rd_sn rfl (rd_sn rfl (rd_sn rfl (rd_sn rfl (rd_sn rfl (rd_sn rfl (rd_sn rfl (rd_sn rfl (rd_sn rfl (rd_sn rfl H411))))))))))))))))) (by decide +kernel) rfl (by decide +kernel) rfl ?_
  refine s_ist (p' := 27) (ls' := [_, _, _, _, _, _, _]) rfl rfl rfl rfl ?_
  refine s_ildn (p' := 28) rfl rfl rfl ?_
  refine s_ild (p' := 30) rfl rfl rfl ?_
  refine s_ildn (p' := 31) rfl rfl rfl ?_
  refine s_icmp (p' := 38) true rfl (by decide +kernel) rfl ?_
  refine s_con (p' := 39) rfl rfl ?_
  refine s_bz (p' := 40) (z := (nI 0)) rfl rfl rfl (by decide +kernel) ?_
  refine s_istn (p' := 41) (ls' := [_, _, _, _, _, _, _]) rfl rfl rfl rfl ?_
  refine s_incz (p' := 44) (w := (nI 4)) (ls' := [_, _, _, _, _, _, _]) rfl rfl rfl (by decide +kernel) rfl rfl ?_
  refine s_goto (p' := 14) rfl rfl ?_
  refine s_ild (p' := 16) rfl rfl rfl ?_
  refine s_ild (p' := 18) rfl rfl rfl ?_
  refine s_icmp (p' := 21) false rfl (by decide +kernel) rfl ?_
  refine s_aldn (p' := 22) rfl rfl rfl ?_
  refine s_ild (p' := 24) rfl rfl rfl ?_
  refine s_ialz (p' := 25) (m := 4) (v := (nI 0)) rfl (rd_sn rfl (rd_sn rfl (rd_sn rfl (rd_sn rfl (rd_sn rfl (rd_sn rfl (rd_sn rfl (rd_sn rfl (rd_sn rfl (rd_sn rfl (rd_sn rfl (rd_sn rfl (rd_sn rfl (rd_sn rfl (rd_sn rfl (rd_sn rfl (rd_sn rfl H411))))))))))))))))) (by decide +kernel) rfl (by decide +kernel) rfl ?_
  refine s_ist (p' := 27) (ls' := [_, _, _, _, _, _, _]) rfl rfl rfl rfl ?_
  refine s_ildn (p' := 28) rfl rfl rfl ?_
  refine s_ild (p' := 30) rfl rfl rfl ?_
  refine s_ildn (p' := 31) rfl rfl rfl ?_
  refine s_icmp (p' := 38) true rfl (by decide +kernel) rfl ?_
  refine s_con (p' := 39) rfl rfl ?_
  refine s_bz (p' := 40) (z := (nI 0)) rfl rfl rfl (by decide +kernel) ?_
  refine s_istn (p' := 41) (ls' := [_, _, _, _, _, _, _]) rfl rfl rfl rfl ?_
  refine s_incz (p' := 44) (w := (nI 5)) (ls' := [_, _, _, _, _, _, _]) rfl rfl rfl (by decide +kernel) rfl rfl ?_
  refine s_goto (p' := 14) rfl rfl ?_
  refine s_ild (p' := 16) rfl rfl rfl ?_
  refine s_ild (p' := 18) rfl rfl rfl ?_
  refine s_icmp (p' := 21) false rfl (by decide +kernel) rfl ?_
  refine s_aldn (p' := 22) rfl rfl rfl ?_
  refine s_ild (p' := 24) rfl rfl rfl ?_
  refine s_ialz (p' := 25) (m := 5) (v := (nI 0)) rfl (rd_sn rfl (rd_sn rfl (rd_sn rfl (rd_sn rfl (rd_sn rfl (rd_sn rfl (rd_sn rfl (rd_sn rfl (rd_sn rfl (rd_sn rfl (rd_sn rfl (rd_sn rfl (rd_sn rfl (rd_sn rfl (rd_sn rfl (rd_sn rfl (rd_sn rfl H411))))))))))))))))) (by decide +kernel) rfl (by decide +kernel) rfl ?_
  refine s_ist (p' := 27) (ls' := [_, _, _, _, _, _, _]) rfl rfl rfl rfl ?_
  refine s_ildn (p' := 28) rfl rfl rfl ?_
  refine s_ild (p' := 30) rfl rfl rfl ?_
  refine s_ildn (p' := 31) rfl rfl rfl ?_
  refine s_icmp (p' := 38) true rfl (by decide +kernel) rfl ?_
  refine s_con (p' := 39) rfl rfl ?_
  refine s_bz (p' := 40) (z := (nI 0)) rfl rfl rfl (by decide +kernel) ?_
  refine s_istn (p' := 41) (ls' := [_, _, _, _, _, _, _]) rfl rfl rfl rfl ?_
  refine s_incz (p' := 44) (w := (nI 6)) (ls' := [_, _, _, _, _, _, _]) rfl rfl rfl (by decide +kernel) rfl rfl ?_
  refine s_goto (p' := 14) rfl rfl ?_
  refine s_ild (p' := 16) rfl rfl rfl ?_
  refine s_ild (p' := 18) rfl rfl rfl ?_
  refine s_icmp (p' := 21) false rfl (by decide +kernel) rfl ?_
  refine s_aldn (p' := 22) rfl rfl rfl ?_
  refine s_ild (p' := 24) rfl rfl rfl ?_
  refine s_ialz (p' := 25) (m := 6) (v := (nI 0)) rfl (rd_sn rfl (rd_sn rfl (rd_sn rfl (rd_sn rfl (rd_sn rfl (rd_sn rfl (rd_sn rfl (rd_sn rfl (rd_sn rfl (rd_sn rfl (rd_sn rfl (rd_sn rfl (rd_sn rfl (rd_sn rfl (rd_sn rfl (rd_sn rfl (rd_sn rfl H411))))))))))))))))) (by decide +kernel) rfl (by decide +kernel) rfl ?_
  refine s_ist (p' := 27) (ls' := [_, _, _, _, _, _, _]) rfl rfl rfl rfl ?_
  refine s_ildn (p' := 28) rfl rfl rfl ?_
  refine s_ild (p' := 30) rfl rfl rfl ?_
  refine s_ildn (p' := 31) rfl rfl rfl ?_
  refine s_icmp (p' := 38) true rfl (by decide +kernel) rfl ?_
  refine s_con (p' := 39) rfl rfl ?_
  refine s_bz (p' := 40) (z := (nI 0)) rfl rfl rfl (by decide +kernel) ?_
  refine s_istn (p' := 41) (ls' := [_, _, _, _, _, _, _]) rfl rfl rfl rfl ?_
  refine s_incz (p' := 44) (w := (nI 7)) (ls' := [_, _, _, _, _, _, _]) rfl rfl rfl (by decide +kernel) rfl rfl ?_
  refine s_goto (p' := 14) rfl rfl ?_
  refine s_ild (p' := 16) rfl rfl rfl ?_
  refine s_ild (p' := 18) rfl rfl rfl ?_
  refine s_icmp (p' := 21) false rfl (by decide +kernel) rfl ?_
  refine s_aldn (p' := 22) rfl rfl rfl ?_
  refine s_ild (p' := 24) rfl rfl rfl ?_
  refine s_ialz (p' := 25) (m := 7) (v := (nI 0)) rfl (rd_sn rfl (rd_sn rfl (rd_sn rfl (rd_sn rfl (rd_sn rfl (rd_sn rfl (rd_sn rfl (rd_sn rfl (rd_sn rfl (rd_sn rfl (rd_sn rfl (rd_sn rfl (rd_sn rfl (rd_sn rfl (rd_sn rfl (rd_sn rfl (rd_sn rfl H411))))))))))))))))) (by decide +kernel) rfl (by decide +kernel) rfl ?_
  refine s_ist (p' := 27) (ls' := [_, _, _, _, _, _, _]) rfl rfl rfl rfl ?_
  refine s_ildn (p' := 28) rfl rfl rfl ?_
  refine s_ild (p' := 30) rfl rfl rfl ?_
  refine s_ildn (p' := 31) rfl rfl rfl ?_
  refine s_icmp (p' := 38) true rfl (by decide +kernel) rfl ?_
  refine s_con (p' := 39) rfl rfl ?_
  refine s_bz (p' := 40) (z := (nI 0)) rfl rfl rfl (by decide +kernel) ?_
  refine s_istn (p' := 41) (ls' := [_, _, _, _, _, _, _]) rfl rfl rfl rfl ?_
  refine s_incz (p' := 44) (w := (nI 8)) (ls' := [_, _, _, _, _, _, _]) rfl rfl rfl (by decide +kernel) rfl rfl ?_
  refine s_goto (p' := 14) rfl rfl ?_
  refine s_ild (p' := 16) rfl rfl rfl ?_
  refine s_ild (p' := 18) rfl rfl rfl ?_
  refine s_icmp (p' := 47) true rfl (by decide +kernel) rfl ?_
  refine s_ildn (p' := 48) rfl rfl rfl ?_
  refine c_iret rfl rfl ?_
  refine s_icmp (p' := 32) true rfl (by decide +kernel) rfl ?_
  refine s_incz (p' := 35) (w := (nI 3)) (ls' := [_, _, _]) rfl rfl rfl (by decide +kernel) rfl rfl ?_
  refine s_goto (p' := 9) rfl rfl ?_
  refine s_ildn (p' := 10) rfl rfl rfl ?_
  refine s_bip (p' := 12) rfl rfl ?_
  refine s_icmp (p' := 15) false rfl (by decide +kernel) rfl ?_
  refine s_con (p' := 16) rfl rfl ?_
  refine s_ildn (p' := 17) rfl rfl rfl ?_
  refine s_bz (p' := 18) (z := (nI 8)) rfl rfl rfl (by decide +kernel) ?_
  refine s_aldn (p' := 19) rfl rfl rfl ?_
  refine s_ildn (p' := 20) rfl rfl rfl ?_
  refine c_call (p' := 23) (kc := 98) (ls0 := [_, _, _, _, _, _, _]) rfl rfl rfl rfl rfl (mj_rcv_is (rd_ss rfl (rd_sn rfl (rd_sn rfl (rd_sn rfl (rd_sn rfl (rd_sn rfl (rd_sn rfl (rd_sn rfl (rd_sn rfl (rd_sn rfl (rd_sn rfl (rd_sn rfl (rd_sn rfl (rd_sn rfl (rd_sn rfl (rd_sn rfl (rd_sn rfl H400)))))))))))))))))) rfl rfl rfl ?_
  refine s_con (p' := 1) rfl rfl ?_
  refine s_istn (p' := 2) (ls' := [_, _, _, _, _, _, _]) rfl rfl rfl rfl ?_
  refine s_aldn (p' := 3) rfl rfl rfl ?_
  refine s_gf (p' := 6) rfl (rd_ss rfl (rd_sn rfl (rd_sn rfl (rd_sn rfl (rd_sn rfl (rd_sn rfl (rd_sn rfl (rd_sn rfl (rd_sn rfl (rd_sn rfl (rd_sn rfl (rd_sn rfl (rd_sn rfl (rd_sn rfl (rd_sn rfl (rd_sn rfl (rd_sn rfl H400))))))))))))))))) rfl rfl ?_
  refine s_astn (p' := 7) (ls' := [_, _, _, _, _, _, _]) rfl rfl rfl rfl ?_
  refine s_aldn (p' := 8) rfl rfl rfl ?_
  refine s_lenz (p' := 9) rfl (mj_rdA_is (rd_sn rfl (rd_sn rfl (rd_sn rfl (rd_sn rfl (rd_sn rfl (rd_sn rfl (rd_sn rfl (rd_sn rfl (rd_sn rfl (rd_sn rfl (rd_sn rfl (rd_sn rfl (rd_sn rfl (rd_sn rfl (rd_sn rfl (rd_sn rfl (rd_sn rfl H411))))))))))))))))) (by decide)) rfl rfl ?_
  refine s_ist (p' := 11) (ls' := [_, _, _, _, _, _, _]) rfl rfl rfl rfl ?_
  refine s_con (p' := 12) rfl rfl ?_
  refine s_ist (p' := 14) (ls' := [_, _, _, _, _, _, _]) rfl rfl rfl rfl ?_
  refine s_ild (p' := 16) rfl rfl rfl ?_
  refine s_ild (p' := 18) rfl rfl rfl ?_
  refine s_icmp (p' := 21) false rfl (by decide +kernel) rfl ?_
  refine s_aldn (p' := 22) rfl rfl rfl ?_
  refine s_ild (p' := 24) rfl rfl rfl ?_
  refine s_ialz (p' := 25) (m := 0) (v := (nI 0)) rfl (rd_sn rfl (rd_sn rfl (rd_sn rfl (rd_sn rfl (rd_sn rfl (rd_sn rfl (rd_sn rfl (rd_sn rfl (rd_sn rfl (rd_sn rfl (rd_sn rfl (rd_sn rfl (rd_sn rfl (rd_sn rfl (rd_sn rfl (rd_sn rfl (rd_sn rfl H411))))))))))))))))) (by decide +kernel) rfl (by decide +kernel) rfl ?_
  refine s_ist (p' := 27) (ls' := [_, _, _, _, _, _, _]) rfl rfl rfl rfl ?_
  refine s_ildn (p' := 28) rfl rfl rfl ?_
  refine s_ild (p' := 30) rfl rfl rfl ?_
  refine s_ildn (p' := 31) rfl rfl rfl ?_
  refine s_icmp (p' := 38) true rfl (by decide +kernel) rfl ?_
  refine s_con (p' := 39) rfl rfl ?_
  refine s_bz (p' := 40) (z := (nI 0)) rfl rfl rfl (by decide +kernel) ?_
  refine s_istn (p' := 41) (ls' := [_, _, _, _, _, _, _]) rfl rfl rfl rfl ?_
  refine s_incz (p' := 44) (w := (nI 1)) (ls' := [_, _, _, _, _, _, _]) rfl rfl rfl (by decide +kernel) rfl rfl ?_
  refine s_goto (p' := 14) rfl rfl ?_
  refine s_ild (p' := 16) rfl rfl rfl ?_
  refine s_ild (p' := 18) rfl rfl rfl ?_
  refine s_icmp (p' := 21) false rfl (by decide +kernel) rfl ?_
  refine s_aldn (p' := 22) rfl rfl rfl ?_
  refine s_ild (p' := 24) rfl rfl rfl ?_
  refine s_ialz (p' := 25) (m := 1) (v := (nI 0)) rfl (rd_sn rfl (rd_sn rfl (rd_sn rfl (rd_sn rfl (rd_sn rfl (rd_sn rfl (rd_sn rfl (rd_sn rfl (rd_sn rfl (rd_sn rfl (rd_sn rfl (rd_sn rfl (rd_sn rfl (rd_sn rfl (rd_sn rfl (rd_sn rfl (rd_sn rfl H411))))))))))))))))) (by decide +kernel) rfl (by decide +kernel) rfl ?_
  refine s_ist (p' := 27) (ls' := [_, _, _, _, _, _, _]) rfl rfl rfl rfl ?_
  refine s_ildn (p' := 28) rfl rfl rfl ?_
  refine s_ild (p' := 30) rfl rfl rfl ?_
  refine s_ildn (p' := 31) rfl rfl rfl ?_
  refine s_icmp (p' := 38) true rfl (by decide +kernel) rfl ?_
  refine s_con (p' := 39) rfl rfl ?_
  refine s_bz (p' := 40) (z := (nI 0)) rfl rfl rfl (by decide +kernel) ?_
  refine s_istn (p' := 41) (ls' := [_, _, _, _, _, _, _]) rfl rfl rfl rfl ?_
  refine s_incz (p' := 44) (w := (nI 2)) (ls' := [_, _, _, _, _, _, _]) rfl rfl rfl (by decide +kernel) rfl rfl ?_
  refine s_goto (p' := 14) rfl rfl ?_
  refine s_ild (p' := 16) rfl rfl rfl ?_
  refine s_ild (p' := 18) rfl rfl rfl ?_
  refine s_icmp (p' := 21) false rfl (by decide +kernel) rfl ?_
  refine s_aldn (p' := 22) rfl rfl rfl ?_
  refine s_ild (p' := 24) rfl rfl rfl ?_
  refine s_ialz (p' := 25) (m := 2) (v := (nI 0)) rfl (rd_sn rfl (rd_sn rfl (rd_sn rfl (rd_sn rfl (rd_sn rfl (rd_sn rfl (rd_sn rfl (rd_sn rfl (rd_sn rfl (rd_sn rfl (rd_sn rfl (rd_sn rfl (rd_sn rfl (rd_sn rfl (rd_sn rfl (rd_sn rfl (rd_sn rfl H411))))))))))))))))) (by decide +kernel) rfl (by decide +kernel) rfl ?_
  refine s_ist (p' := 27) (ls' := [_, _, _, _, _, _, _]) rfl rfl rfl rfl ?_
  refine s_ildn (p' := 28) rfl rfl rfl ?_
  refine s_ild (p' := 30) rfl rfl rfl ?_
  refine s_ildn (p' := 31) rfl rfl rfl ?_
  refine s_icmp (p' := 38) true rfl (by decide +kernel) rfl ?_
  refine s_con (p' := 39) rfl rfl ?_
  refine s_bz (p' := 40) (z := (nI 0)) rfl rfl rfl (by decide +kernel) ?_
  refine s_istn (p' := 41) (ls' := [_, _, _, _, _, _, _]) rfl rfl rfl rfl ?_
  refine s_incz (p' := 44) (w := (nI 3)) (ls' := [_, _, _, _, _, _, _]) rfl rfl rfl (by decide +kernel) rfl rfl ?_
  refine s_goto (p' := 14) rfl rfl ?_
  refine s_ild (p' := 16) rfl rfl rfl ?_
  refine s_ild (p' := 18) rfl rfl rfl ?_
  refine s_icmp (p' := 21) false rfl (by decide +kernel) rfl ?_
  refine s_aldn (p' := 22) rfl rfl rfl ?_
  refine s_ild (p' := 24) rfl rfl rfl ?_
  refine s_ialz (p' := 25) (m := 3) (v := (nI 0)) rfl (rd_sn rfl (rd_sn rfl (rd_sn rfl (rd_sn rfl (rd_sn rfl (rd_sn rfl (rd_sn rfl (rd_sn rfl (rd_sn rfl (rd_sn rfl (rd_sn rfl (rd_sn rfl (rd_sn rfl (rd_sn rfl (rd_sn rfl (rd_sn rfl (rd_sn rfl H411))))))))))))))))) (by decide +kernel) rfl (by decide +kernel) rfl ?_
  refine s_ist (p' := 27) (ls' := [_, _, _, _, _, _, _]) rfl rfl rfl rfl ?_
  refine s_ildn (p' := 28) rfl rfl rfl ?_
  refine s_ild (p' := 30) rfl rfl rfl ?_
  refine s_ildn (p' := 31) rfl rfl rfl ?_
  refine s_icmp (p' := 38) true rfl (by decide +kernel) rfl ?_
  refine s_con (p' := 39) rfl rfl ?_
  refine s_bz (p' := 40) (z := (nI 0)) rfl rfl rfl (by decide +kernel) ?_
  refine s_istn (p' := 41) (ls' := [_, _, _, _, _, _, _]) rfl rfl rfl rfl ?_
  refine s_incz (p' := 44) (w := (nI 4)) (ls' := [_, _, _, _, _, _, _]) rfl rfl rfl (by decide +kernel) rfl rfl ?_
  refine s_goto (p' := 14) rfl rfl ?_
  refine s_ild (p' := 16) rfl rfl rfl ?_
  refine s_ild (p' := 18) rfl rfl rfl ?_
  refine s_icmp (p' := 21) false rfl (by decide +kernel) rfl ?_
  refine s_aldn (p' := 22) rfl rfl rfl ?_
  refine s_ild (p' := 24) rfl rfl rfl ?_
  refine s_ialz (p' := 25) (m := 4) (v := (nI 0)) rfl (rd_sn rfl (rd_sn rfl (rd_sn rfl (rd_sn rfl (rd_sn rfl (rd_sn rfl (rd_sn rfl (rd_sn rfl (rd_sn rfl (rd_sn rfl (rd_sn rfl (rd_sn rfl (rd_sn rfl (rd_sn rfl (rd_sn rfl (rd_sn rfl (rd_sn rfl H411))))))))))))))))) (by decide +kernel) rfl (by decide +kernel) rfl ?_
  refine s_ist (p' := 27) (ls' := [_, _, _, _, _, _, _]) rfl rfl rfl rfl ?_
  refine s_ildn (p' := 28) rfl rfl rfl ?_
  refine s_ild (p' := 30) rfl rfl rfl ?_
  refine s_ildn (p' := 31) rfl rfl rfl ?_
  refine s_icmp (p' := 38) true rfl (by decide +kernel) rfl ?_
  refine s_con (p' := 39) rfl rfl ?_
  refine s_bz (p' := 40) (z := (nI 0)) rfl rfl rfl (by decide +kernel) ?_
  refine s_istn (p' := 41) (ls' := [_, _, _, _, _, _, _]) rfl rfl rfl rfl ?_
  refine s_incz (p' := 44) (w := (nI 5)) (ls' := [_, _, _, _, _, _, _]) rfl rfl rfl (by decide +kernel) rfl rfl ?_
  refine s_goto (p' := 14) rfl rfl ?_
  refine s_ild (p' := 16) rfl rfl rfl ?_
  refine s_ild (p' := 18) rfl rfl rfl ?_
  refine s_icmp (p' := 21) false rfl (by decide +kernel) rfl ?_
  refine s_aldn (p' := 22) rfl rfl rfl ?_
  refine s_ild (p' := 24) rfl rfl rfl ?_
  refine s_ialz (p' := 25) (m := 5) (v := (nI 0)) rfl (rd_sn rfl (rd_sn rfl (rd_sn rfl (rd_sn rfl (rd_sn rfl (rd_sn rfl (rd_sn rfl (rd_sn rfl (rd_sn rfl (rd_sn rfl (rd_sn rfl (rd_sn rfl (rd_sn rfl (rd_sn rfl (rd_sn rfl (rd_sn rfl (rd_sn rfl H411))))))))))))))))) (by decide +kernel) rfl (by decide +kernel) rfl ?_
  refine s_ist (p' := 27) (ls' := [_, _, _, _, _, _, _]) rfl rfl rfl rfl ?_
  refine s_ildn (p' := 28) rfl rfl rfl ?_
  refine s_ild (p' := 30) rfl rfl rfl ?_
  refine s_ildn (p' := 31) rfl rfl rfl ?_
  refine s_icmp (p' := 38) true rfl (by decide +kernel) rfl ?_
  refine s_con (p' := 39) rfl rfl ?_
  refine s_bz (p' := 40) (z := (nI 0)) rfl rfl rfl (by decide +kernel) ?_
  refine s_istn (p' := 41) (ls' := [_, _, _, _, _, _, _]) rfl rfl rfl rfl ?_
  refine s_incz (p' := 44) (w := (nI 6)) (ls' := [_, _, _, _, _, _, _]) rfl rfl rfl (by decide +kernel) rfl rfl ?_
  refine s_goto (p' := 14) rfl rfl ?_
  refine s_ild (p' := 16) rfl rfl rfl ?_
  refine s_ild (p' := 18) rfl rfl rfl ?_
  refine s_icmp (p' := 21) false rfl (by decide +kernel) rfl ?_
  refine s_aldn (p' := 22) rfl rfl rfl ?_
  refine s_ild (p' := 24) rfl rfl rfl ?_
  refine s_ialz (p' := 25) (m := 6) (v := (nI 0)) rfl (rd_sn rfl (rd_sn rfl (rd_sn rfl (rd_sn rfl (rd_sn rfl (rd_sn rfl (rd_sn rfl (rd_sn rfl (rd_sn rfl (rd_sn rfl (rd_sn rfl (rd_sn rfl (rd_sn rfl (rd_sn rfl (rd_sn rfl (rd_sn rfl (rd_sn rfl H411))))))))))))))))) (by decide +kernel) rfl (by decide +kernel) rfl ?_
  refine s_ist (p' := 27) (ls' := [_, _, _, _, _, _, _]) rfl rfl rfl rfl ?_
  refine s_ildn (p' := 28) rfl rfl rfl ?_
  refine s_ild (p' := 30) rfl rfl rfl ?_
  refine s_ildn (p' := 31) rfl rfl rfl ?_
  refine s_icmp (p' := 38) true rfl (by decide +kernel) rfl ?_
  refine s_con (p' := 39) rfl rfl ?_
  refine s_bz (p' := 40) (z := (nI 0)) rfl rfl rfl (by decide +kernel) ?_
  refine s_istn (p' := 41) (ls' := [_, _, _, _, _, _, _]) rfl rfl rfl rfl ?_
  refine s_incz (p' := 44) (w := (nI 7)) (ls' := [_, _, _, _, _, _, _]) rfl rfl rfl (by decide +kernel) rfl rfl ?_
  refine s_goto (p' := 14) rfl rfl ?_
  refine s_ild (p' := 16) rfl rfl rfl ?_
  refine s_ild (p' := 18) rfl rfl rfl ?_
  refine s_icmp (p' := 21) false rfl (by decide +kernel) rfl ?_
  refine s_aldn (p' := 22) rfl rfl rfl ?_
  refine s_ild (p' := 24) rfl rfl rfl ?_
  refine s_ialz (p' := 25) (m := 7) (v := (nI 0)) rfl (rd_sn rfl (rd_sn rfl (rd_sn rfl (rd_sn rfl (rd_sn rfl (rd_sn rfl (rd_sn rfl (rd_sn rfl (rd_sn rfl (rd_sn rfl (rd_sn rfl (rd_sn rfl (rd_sn rfl (rd_sn rfl (rd_sn rfl (rd_sn rfl (rd_sn rfl H411))))))))))))))))) (by decide +kernel) rfl (by decide +kernel) rfl ?_
  refine s_ist (p' := 27) (ls' := [_, _, _, _, _, _, _]) rfl rfl rfl rfl ?_
  refine s_ildn (p' := 28) rfl rfl rfl ?_
  refine s_ild (p' := 30) rfl rfl rfl ?_
  refine s_ildn (p' := 31) rfl rfl rfl ?_
  refine s_icmp (p' := 38) true rfl (by decide +kernel) rfl ?_
  refine s_con (p' := 39) rfl rfl ?_
  refine s_bz (p' := 40) (z := (nI 0)) rfl rfl rfl (by decide +kernel) ?_
  refine s_istn (p' := 41) (ls' := [_, _, _, _, _, _, _]) rfl rfl rfl rfl ?_
  refine s_incz (p' := 44) (w := (nI 8)) (ls' := [_, _, _, _, _, _, _]) rfl rfl rfl (by decide +kernel) rfl rfl ?_
  refine s_goto (p' := 14) rfl rfl ?_
  refine s_ild (p' := 16) rfl rfl rfl ?_
  refine s_ild (p' := 18) rfl rfl rfl ?_
  refine s_icmp (p' := 47) true rfl (by decide +kernel) rfl ?_
  refine s_ildn (p' := 48) rfl rfl rfl ?_
  refine c_iret rfl rfl ?_
  refine s_icmp (p' := 32) true rfl (by decide +kernel) rfl ?_
  refine s_incz (p' := 35) (w := (nI 4)) (ls' := [_, _, _]) rfl rfl rfl (by decide +kernel) rfl rfl ?_
  refine s_goto (p' := 9) rfl rfl ?_
  refine s_ildn (p' := 10) rfl rfl rfl ?_
  refine s_bip (p' := 12) rfl rfl ?_
  refine s_icmp (p' := 15) false rfl (by decide +kernel) rfl ?_
  refine s_con (p' := 16) rfl rfl ?_
  refine s_ildn (p' := 17) rfl rfl rfl ?_
  refine s_bz (p' := 18) (z := (nI 8)) rfl rfl rfl (by decide +kernel) ?_
  refine s_aldn (p' := 19) rfl rfl rfl ?_
  refine s_ildn (p' := 20) rfl rfl rfl ?_
  refine c_call (p' := 23) (kc := 98) (ls0 := [_, _, _, _, _, _, _]) rfl rfl rfl rfl rfl (mj_rcv_is (rd_ss rfl (rd_sn rfl (rd_sn rfl (rd_sn rfl (rd_sn rfl (rd_sn rfl (rd_sn rfl (rd_sn rfl (rd_sn rfl (rd_sn rfl (rd_sn rfl (rd_sn rfl (rd_sn rfl (rd_sn rfl (rd_sn rfl (rd_sn rfl (rd_sn rfl H400)))))))))))))))))) rfl rfl rfl ?_
  refine s_con (p' := 1) rfl rfl ?_
  refine s_istn (p' := 2) (ls' := [_, _, _, _, _, _, _]) rfl rfl rfl rfl ?_
  refine s_aldn (p' := 3) rfl rfl rfl ?_
  refine s_gf (p' := 6) rfl (rd_ss rfl (rd_sn rfl (rd_sn rfl (rd_sn rfl (rd_sn rfl (rd_sn rfl (rd_sn rfl (rd_sn rfl (rd_sn rfl (rd_sn rfl (rd_sn rfl (rd_sn rfl (rd_sn rfl (rd_sn rfl (rd_sn rfl (rd_sn rfl (rd_sn rfl H400))))))))))))))))) rfl rfl ?_
  refine s_astn (p' := 7) (ls' := [_, _, _, _, _, _, _]) rfl rfl rfl rfl ?_
  refine s_aldn (p' := 8) rfl rfl rfl ?_
  refine s_lenz (p' := 9) rfl (mj_rdA_is (rd_sn rfl (rd_sn rfl (rd_sn rfl (rd_sn rfl (rd_sn rfl (rd_sn rfl (rd_sn rfl (rd_sn rfl (rd_sn rfl (rd_sn rfl (rd_sn rfl (rd_sn rfl (rd_sn rfl (rd_sn rfl (rd_sn rfl (rd_sn rfl (rd_sn rfl H411))))))))))))))))) (by decide)) rfl rfl ?_
  refine s_ist (p' := 11) (ls' := [_, _, _, _, _, _, _]) rfl rfl rfl rfl ?_
  refine s_con (p' := 12) rfl rfl ?_
  refine s_ist (p' := 14) (ls' := [_, _, _, _, _, _, _]) rfl rfl rfl rfl ?_
  refine s_ild (p' := 16) rfl rfl rfl ?_
  refine s_ild (p' := 18) rfl rfl rfl ?_
  refine s_icmp (p' := 21) false rfl (by decide +kernel) rfl ?_
  refine s_aldn (p' := 22) rfl rfl rfl ?_
  refine s_ild (p' := 24) rfl rfl rfl ?_
  refine s_ialz (p' := 25) (m := 0) (v := (nI 0)) rfl (rd_sn rfl (rd_sn rfl (rd_sn rfl (rd_sn rfl (rd_sn rfl (rd_sn rfl (rd_sn rfl (rd_sn rfl (rd_sn rfl (rd_sn rfl (rd_sn rfl (rd_sn rfl (rd_sn rfl (rd_sn rfl (rd_sn rfl (rd_sn rfl (rd_sn rfl H411))))))))))))))))) (by decide +kernel) rfl (by decide +kernel) rfl ?_
  refine s_ist (p' := 27) (ls' := [_, _, _, _, _, _, _]) rfl rfl rfl rfl ?_
  refine s_ildn (p' := 28) rfl rfl rfl ?_
  refine s_ild (p' := 30) rfl rfl rfl ?_
  refine s_ildn (p' := 31) rfl rfl rfl ?_
  refine s_icmp (p' := 38) true rfl (by decide +kernel) rfl ?_
  refine s_con (p' := 39) rfl rfl ?_
  refine s_bz (p' := 40) (z := (nI 0)) rfl rfl rfl (by decide +kernel) ?_
  refine s_istn (p' := 41) (ls' := [_, _, _, _, _, _, _]) rfl rfl rfl rfl ?_
  refine s_incz (p' := 44) (w := (nI 1)) (ls' := [_, _, _, _, _, _, _]) rfl rfl rfl (by decide +kernel) rfl rfl ?_
  refine s_goto (p' := 14) rfl rfl ?_
  refine s_ild (p' := 16) rfl rfl rfl ?_
  refine s_ild (p' := 18) rfl rfl rfl ?_
  refine s_icmp (p' := 21) false rfl (by decide +kernel) rfl ?_
  refine s_aldn (p' := 22) rfl rfl rfl ?_
  refine s_ild (p' := 24) rfl rfl rfl ?_
  refine s_ialz (p' := 25) (m := 1) (v := (nI 0)) rfl (rd_sn rfl (rd_sn rfl (rd_sn rfl (rd_sn rfl (rd_sn rfl (rd_sn rfl (rd_sn rfl (rd_sn rfl (rd_sn rfl (rd_sn rfl (rd_sn rfl (rd_sn rfl (rd_sn rfl (rd_sn rfl (rd_sn rfl (rd_sn rfl (rd_sn rfl H411))))))))))))))))) (by decide +kernel) rfl (by decide +kernel) rfl ?_
  refine s_ist (p' := 27) (ls' := [_, _, _, _, _, _, _]) rfl rfl rfl rfl ?_
  refine s_ildn (p' := 28) rfl rfl rfl ?_
  refine s_ild (p' := 30) rfl rfl rfl ?_
  refine s_ildn (p' := 31) rfl rfl rfl ?_
  refine s_icmp (p' := 38) true rfl (by decide +kernel) rfl ?_
  refine s_con (p' := 39) rfl rfl ?_
  refine s_bz (p' := 40) (z := (nI 0)) rfl rfl rfl (by decide +kernel) ?_
  refine s_istn (p' := 41) (ls' := [_, _, _, _, _, _, _]) rfl rfl rfl rfl ?_
  refine s_incz (p' := 44) (w := (nI 2)) (ls' := [_, _, _, _, _, _, _]) rfl rfl rfl (by decide +kernel) rfl rfl ?_
  refine s_goto (p' := 14) rfl rfl ?_
  refine s_ild (p' := 16) rfl rfl rfl ?_
  refine s_ild (p' := 18) rfl rfl rfl ?_
  refine s_icmp (p' := 21) false rfl (by decide +kernel) rfl ?_
  refine s_aldn (p' := 22) rfl rfl rfl ?_
  refine s_ild (p' := 24) rfl rfl rfl ?_
  refine s_ialz (p' := 25) (m := 2) (v := (nI 0)) rfl (rd_sn rfl (rd_sn rfl (rd_sn rfl (rd_sn rfl (rd_sn rfl (rd_sn rfl (rd_sn rfl (rd_sn rfl (rd_sn rfl (rd_sn rfl (rd_sn rfl (rd_sn rfl (rd_sn rfl (rd_sn rfl (rd_sn rfl (rd_sn rfl (rd_sn rfl H411))))))))))))))))) (by decide +kernel) rfl (by decide +kernel) rfl ?_
  refine s_ist (p' := 27) (ls' := [_, _, _, _, _, _, _]) rfl rfl rfl rfl ?_
  refine s_ildn (p' := 28) rfl rfl rfl ?_
  refine s_ild (p' := 30) rfl rfl rfl ?_
  refine s_ildn (p' := 31) rfl rfl rfl ?_
  refine s_icmp (p' := 38) true rfl (by decide +kernel) rfl ?_
  refine s_con (p' := 39) rfl rfl ?_
  refine s_bz (p' := 40) (z := (nI 0)) rfl rfl rfl (by decide +kernel) ?_
  refine s_istn (p' := 41) (ls' := [_, _, _, _, _, _, _]) rfl rfl rfl rfl ?_
  refine s_incz (p' := 44) (w := (nI 3)) (ls' := [_, _, _, _, _, _, _]) rfl rfl rfl (by decide +kernel) rfl rfl ?_
  refine s_goto (p' := 14) rfl rfl ?_
  refine s_ild (p' := 16) rfl rfl rfl ?_
  refine s_ild (p' := 18) rfl rfl rfl ?_
  refine s_icmp (p' := 21) false rfl (by decide +kernel) rfl ?_
  refine s_aldn (p' := 22) rfl rfl rfl ?_
  refine s_ild (p' := 24) rfl rfl rfl ?_
  refine s_ialz (p' := 25) (m := 3) (v := (nI 0)) rfl (rd_sn rfl (rd_sn rfl (rd_sn rfl (rd_sn rfl (rd_sn rfl (rd_sn rfl (rd_sn rfl (rd_sn rfl (rd_sn rfl (rd_sn rfl (rd_sn rfl (rd_sn rfl (rd_sn rfl (rd_sn rfl (rd_sn rfl (rd_sn rfl (rd_sn rfl H411))))))))))))))))) (by decide +kernel) rfl (by decide +kernel) rfl ?_
  refine s_ist (p' := 27) (ls' := [_, _, _, _, _, _, _]) rfl rfl rfl rfl ?_
  refine s_ildn (p' := 28) rfl rfl rfl ?_
  refine s_ild (p' := 30) rfl rfl rfl ?_
  refine s_ildn (p' := 31) rfl rfl rfl ?_
  refine s_icmp (p' := 38) true rfl (by decide +kernel) rfl ?_
  refine s_con (p' := 39) rfl rfl ?_
  refine s_bz (p' := 40) (z := (nI 0)) rfl rfl rfl (by decide +kernel) ?_
  refine s_istn (p' := 41) (ls' := [_, _, _, _, _, _, _]) rfl rfl rfl rfl ?_
  refine s_incz (p' := 44) (w := (nI 4)) (ls' := [_, _, _, _, _, _, _]) rfl rfl rfl (by decide +kernel) rfl rfl ?_
  refine s_goto (p' := 14) rfl rfl ?_
  refine s_ild (p' := 16) rfl rfl rfl ?_
  refine s_ild (p' := 18) rfl rfl rfl ?_
  refine s_icmp (p' := 21) false rfl (by decide +kernel) rfl ?_
  refine s_aldn (p' := 22) rfl rfl rfl ?_
  refine s_ild (p' := 24) rfl rfl rfl ?_
  refine s_ialz (p' := 25) (m := 4) (v := (nI 0)) rfl (rd_sn rfl (rd_sn rfl (rd_sn rfl (rd_sn rfl (rd_sn rfl (rd_sn rfl (rd_sn rfl (rd_sn rfl (rd_sn rfl (rd_sn rfl (rd_sn rfl (rd_sn rfl (rd_sn rfl (rd_sn rfl (rd_sn rfl (rd_sn rfl (rd_sn rfl H411))))))))))))))))) (by decide +kernel) rfl (by decide +kernel) rfl ?_
  refine s_ist (p' := 27) (ls' := [_, _, _, _, _, _, _]) rfl rfl rfl rfl ?_
  refine s_ildn (p' := 28) rfl rfl rfl ?_
  refine s_ild (p' := 30) rfl rfl rfl ?_
  refine s_ildn (p' := 31) rfl rfl rfl ?_
  refine s_icmp (p' := 38) true rfl (by decide +kernel) rfl ?_
  refine s_con (p' := 39) rfl rfl ?_
  refine s_bz (p' := 40) (z := (nI 0)) rfl rfl rfl (by decide +kernel) ?_
  refine s_istn (p' := 41) (ls' := [_, _, _, _, _, _, _]) rfl rfl rfl rfl ?_
  refine s_incz (p' := 44) (w := (nI 5)) (ls' := [_, _, _, _, _, _, _]) rfl rfl rfl (by decide +kernel) rfl rfl ?_
  refine s_goto (p' := 14) rfl rfl ?_
  refine s_ild (p' := 16) rfl rfl rfl ?_
  refine s_ild (p' := 18) rfl rfl rfl ?_
  refine s_icmp (p' := 21) false rfl (by decide +kernel) rfl ?_
  refine s_aldn (p' := 22) rfl rfl rfl ?_
  refine s_ild (p' := 24) rfl rfl rfl ?_
  refine s_ialz (p' := 25) (m := 5) (v := (nI 0)) rfl (rd_sn rfl (rd_sn rfl (rd_sn rfl (rd_sn rfl (rd_sn rfl (rd_sn rfl (rd_sn rfl (rd_sn rfl (rd_sn rfl (rd_sn rfl (rd_sn rfl (rd_sn rfl (rd_sn rfl (rd_sn rfl (rd_sn rfl (rd_sn rfl (rd_sn rfl H411))))))))))))))))) (by decide +kernel) rfl (by decide +kernel) rfl ?_
  refine s_ist (p' := 27) (ls' := [_, _, _, _, _, _, _]) rfl rfl rfl rfl ?_
  refine s_ildn (p' := 28) rfl rfl rfl ?_
  refine s_ild (p' := 30) rfl rfl rfl ?_
  refine s_ildn (p' := 31) rfl rfl rfl ?_
  refine s_icmp (p' := 38) true rfl (by decide +kernel) rfl ?_
  refine s_con (p' := 39) rfl rfl ?_
  refine s_bz (p' := 40) (z := (nI 0)) rfl rfl rfl (by decide +kernel) ?_
  refine s_istn (p' := 41) (ls' := [_, _, _, _, _, _, _]) rfl rfl rfl rfl ?_
  refine s_incz (p' := 44) (w := (nI 6)) (ls' := [_, _, _, _, _, _, _]) rfl rfl rfl (by decide +kernel) rfl rfl ?_
  refine s_goto (p' := 14) rfl rfl ?_
  refine s_ild (p' := 16) rfl rfl rfl ?_
  refine s_ild (p' := 18) rfl rfl rfl ?_
  refine s_icmp (p' := 21) false rfl (by decide +kernel) rfl ?_
  refine s_aldn (p' := 22) rfl rfl rfl ?_
  refine s_ild (p' := 24) rfl rfl rfl ?_
  refine s_ialz (p' := 25) (m := 6) (v := (nI 0)) rfl (rd_sn rfl (rd_sn rfl (rd_sn rfl (rd_sn rfl (rd_sn rfl (rd_sn rfl (rd_sn rfl (rd_sn rfl (rd_sn rfl (rd_sn rfl (rd_sn rfl (rd_sn rfl (rd_sn rfl (rd_sn rfl (rd_sn rfl (rd_sn rfl (rd_sn rfl H411))))))))))))))))) (by decide +kernel) rfl (by decide +kernel) rfl ?_
  refine s_ist (p' := 27) (ls' := [_, _, _, _, _, _, _]) rfl rfl rfl rfl ?_
  refine s_ildn (p' := 28) rfl rfl rfl ?_
  refine s_ild (p' := 30) rfl rfl rfl ?_
  refine s_ildn (p' := 31) rfl rfl rfl ?_
  refine s_icmp (p' := 38) true rfl (by decide +kernel) rfl ?_
  refine s_con (p' := 39) rfl rfl ?_
  refine s_bz (p' := 40) (z := (nI 0)) rfl rfl rfl (by decide +kernel) ?_
  refine s_istn (p' := 41) (ls' := [_, _, _, _, _, _, _]) rfl rfl rfl rfl ?_
  refine s_incz (p' := 44) (w := (nI 7)) (ls' := [_, _, _, _, _, _, _]) rfl rfl rfl (by decide +kernel) rfl rfl ?_
  refine s_goto (p' := 14) rfl rfl ?_
  refine s_ild (p' := 16) rfl rfl rfl ?_
  refine s_ild (p' := 18) rfl rfl rfl ?_
  refine s_icmp (p' := 21) false rfl (by decide +kernel) rfl ?_
  refine s_aldn (p' := 22) rfl rfl rfl ?_
  refine s_ild (p' := 24) rfl rfl rfl ?_
  refine s_ialz (p' := 25) (m := 7) (v := (nI 0)) rfl (rd_sn rfl (rd_sn rfl (rd_sn rfl (rd_sn rfl (rd_sn rfl (rd_sn rfl (rd_sn rfl (rd_sn rfl (rd_sn rfl (rd_sn rfl (rd_sn rfl (rd_sn rfl (rd_sn rfl (rd_sn rfl (rd_sn rfl (rd_sn rfl (rd_sn rfl H411))))))))))))))))) (by decide +kernel) rfl (by decide +kernel) rfl ?_
  refine s_ist (p' := 27) (ls' := [_, _, _, _, _, _, _]) rfl rfl rfl rfl ?_
  refine s_ildn (p' := 28) rfl rfl rfl ?_
  refine s_ild (p' := 30) rfl rfl rfl ?_
  refine s_ildn (p' := 31) rfl rfl rfl ?_
  refine s_icmp (p' := 38) true rfl (by decide +kernel) rfl ?_
  refine s_con (p' := 39) rfl rfl ?_
  refine s_bz (p' := 40) (z := (nI 0)) rfl rfl rfl (by decide +kernel) ?_
  refine s_istn (p' := 41) (ls' := [_, _, _, _, _, _, _]) rfl rfl rfl rfl ?_
  refine s_incz (p' := 44) (w := (nI 8)) (ls' := [_, _, _, _, _, _, _]) rfl rfl rfl (by decide +kernel) rfl rfl ?_
  refine s_goto (p' := 14) rfl rfl ?_
  refine s_ild (p' := 16) rfl rfl rfl ?_
  refine s_ild (p' := 18) rfl rfl rfl ?_
  refine s_icmp (p' := 47) true rfl (by decide +kernel) rfl ?_
  refine s_ildn (p' := 48) rfl rfl rfl ?_
  refine c_iret rfl rfl ?_
  refine s_icmp (p' := 32) true rfl (by decide +kernel) rfl ?_
  refine s_incz (p' := 35) (w := (nI 5)) (ls' := [_, _, _]) rfl rfl rfl (by decide +kernel) rfl rfl ?_
  refine s_goto (p' := 9) rfl rfl ?_
  refine s_ildn (p' := 10) rfl rfl rfl ?_
  refine s_bip (p' := 12) rfl rfl ?_
  refine s_icmp (p' := 15) false rfl (by decide +kernel) rfl ?_
  refine s_con (p' := 16) rfl rfl ?_
  refine s_ildn (p' := 17) rfl rfl rfl ?_
  refine s_bz (p' := 18) (z := (nI 8)) rfl rfl rfl (by decide +kernel) ?_
  refine s_aldn (p' := 19) rfl rfl rfl ?_
  refine s_ildn (p' := 20) rfl rfl rfl ?_
  refine c_call (p' := 23) (kc := 98) (ls0 := [_, _, _, _, _, _, _]) rfl rfl rfl rfl rfl (mj_rcv_is (rd_ss rfl (rd_sn rfl (rd_sn rfl (rd_sn rfl (rd_sn rfl (rd_sn rfl (rd_sn rfl (rd_sn rfl (rd_sn rfl (rd_sn rfl (rd_sn rfl (rd_sn rfl (rd_sn rfl (rd_sn rfl (rd_sn rfl (rd_sn rfl (rd_sn rfl H400)))))))))))))))))) rfl rfl rfl ?_
  refine s_con (p' := 1) rfl rfl ?_
  refine s_istn (p' := 2) (ls' := [_, _, _, _, _, _, _]) rfl rfl rfl rfl ?_
  refine s_aldn (p' := 3) rfl rfl rfl ?_
  refine s_gf (p' := 6) rfl (rd_ss rfl (rd_sn rfl (rd_sn rfl (rd_sn rfl (rd_sn rfl (rd_sn rfl (rd_sn rfl (rd_sn rfl (rd_sn rfl (rd_sn rfl (rd_sn rfl (rd_sn rfl (rd_sn rfl (rd_sn rfl (rd_sn rfl (rd_sn rfl (rd_sn rfl H400))))))))))))))))) rfl rfl ?_
  refine s_astn (p' := 7) (ls' := [_, _, _, _, _, _, _]) rfl rfl rfl rfl ?_
  refine s_aldn (p' := 8) rfl rfl rfl ?_
  refine s_lenz (p' := 9) rfl (mj_rdA_is (rd_sn rfl (rd_sn rfl (rd_sn rfl (rd_sn rfl (rd_sn rfl (rd_sn rfl (rd_sn rfl (rd_sn rfl (rd_sn rfl (rd_sn rfl (rd_sn rfl (rd_sn rfl (rd_sn rfl (rd_sn rfl (rd_sn rfl (rd_sn rfl (rd_sn rfl H411))))))))))))))))) (by decide)) rfl rfl ?_
  refine s_ist (p' := 11) (ls' := [_, _, _, _, _, _, _]) rfl rfl rfl rfl ?_
  refine s_con (p' := 12) rfl rfl ?_
  refine s_ist (p' := 14) (ls' := [_, _, _, _, _, _, _]) rfl rfl rfl rfl ?_
  refine s_ild (p' := 16) rfl rfl rfl ?_
  refine s_ild (p' := 18) rfl rfl rfl ?_
  refine s_icmp (p' := 21) false rfl (by decide +kernel) rfl ?_
  refine s_aldn (p' := 22) rfl rfl rfl ?_
  refine s_ild (p' := 24) rfl rfl rfl ?_
  refine s_ialz (p' := 25) (m := 0) (v := (nI 0)) rfl (rd_sn rfl (rd_sn rfl (rd_sn rfl (rd_sn rfl (rd_sn rfl (rd_sn rfl (rd_sn rfl (rd_sn rfl (rd_sn rfl (rd_sn rfl (rd_sn rfl (rd_sn rfl (rd_sn rfl (rd_sn rfl (rd_sn rfl (rd_sn rfl (rd_sn rfl H411))))))))))))))))) (by decide +kernel) rfl (by decide +kernel) rfl ?_
  refine s_ist (p' := 27) (ls' := [_, _, _, _, _, _, _]) rfl rfl rfl rfl ?_
  refine s_ildn (p' := 28) rfl rfl rfl ?_
  refine s_ild (p' := 30) rfl rfl rfl ?_
  refine s_ildn (p' := 31) rfl rfl rfl ?_
  refine s_icmp (p' := 38) true rfl (by decide +kernel) rfl ?_
  refine s_con (p' := 39) rfl rfl ?_
  refine s_bz (p' := 40) (z := (nI 0)) rfl rfl rfl (by decide +kernel) ?_
  refine s_istn (p' := 41) (ls' := [_, _, _, _, _, _, _]) rfl rfl rfl rfl ?_
  refine s_incz (p' := 44) (w := (nI 1)) (ls' := [_, _, _, _, _, _, _]) rfl rfl rfl (by decide +kernel) rfl rfl ?_
  refine s_goto (p' := 14) rfl rfl ?_
  refine s_ild (p' := 16) rfl rfl rfl ?_
  refine s_ild (p' := 18) rfl rfl rfl ?_
  refine s_icmp (p' := 21) false rfl (by decide +kernel) rfl ?_
  refine s_aldn (p' := 22) rfl rfl rfl ?_
  refine s_ild (p' := 24) rfl rfl rfl ?_
  refine s_ialz (p' := 25) (m := 1) (v := (nI 0)) rfl (rd_sn rfl (rd_sn rfl (rd_sn rfl (rd_sn rfl (rd_sn rfl (rd_sn rfl (rd_sn rfl (rd_sn rfl (rd_sn rfl (rd_sn rfl (rd_sn rfl (rd_sn rfl (rd_sn rfl (rd_sn rfl (rd_sn rfl (rd_sn rfl (rd_sn rfl H411))))))))))))))))) (by decide +kernel) rfl (by decide +kernel) rfl ?_
  refine s_ist (p' := 27) (ls' := [_, _, _, _, _, _, _]) rfl rfl rfl rfl ?_
  refine s_ildn (p' := 28) rfl rfl rfl ?_
  refine s_ild (p' := 30) rfl rfl rfl ?_
  refine s_ildn (p' := 31) rfl rfl rfl ?_
  refine s_icmp (p' := 38) true rfl (by decide +kernel) rfl ?_
  refine s_con (p' := 39) rfl rfl ?_
  refine s_bz (p' := 40) (z := (nI 0)) rfl rfl rfl (by decide +kernel) ?_
  refine s_istn (p' := 41) (ls' := [_, _, _, _, _, _, _]) rfl rfl rfl rfl ?_
  refine s_incz (p' := 44) (w := (nI 2)) (ls' := [_, _, _, _, _, _, _]) rfl rfl rfl (by decide +kernel) rfl rfl ?_
  refine s_goto (p' := 14) rfl rfl ?_
  refine s_ild (p' := 16) rfl rfl rfl ?_
  refine s_ild (p' := 18) rfl rfl rfl ?_
  refine s_icmp (p' := 21) false rfl (by decide +kernel) rfl ?_
  refine s_aldn (p' := 22) rfl rfl rfl ?_
  refine s_ild (p' := 24) rfl rfl rfl ?_
  refine s_ialz (p' := 25) (m := 2) (v := (nI 0)) rfl (rd_sn rfl (rd_sn rfl (rd_sn rfl (rd_sn rfl (rd_sn rfl (rd_sn rfl (rd_sn rfl (rd_sn rfl (rd_sn rfl (rd_sn rfl (rd_sn rfl (rd_sn rfl (rd_sn rfl (rd_sn rfl (rd_sn rfl (rd_sn rfl (rd_sn rfl H411))))))))))))))))) (by decide +kernel) rfl (by decide +kernel) rfl ?_
  refine s_ist (p' := 27) (ls' := [_, _, _, _, _, _, _]) rfl rfl rfl rfl ?_
  refine s_ildn (p' := 28) rfl rfl rfl ?_
  refine s_ild (p' := 30) rfl rfl rfl ?_
  refine s_ildn (p' := 31) rfl rfl rfl ?_
  refine s_icmp (p' := 38) true rfl (by decide +kernel) rfl ?_
  refine s_con (p' := 39) rfl rfl ?_
  refine s_bz (p' := 40) (z := (nI 0)) rfl rfl rfl (by decide +kernel) ?_
  refine s_istn (p' := 41) (ls' := [_, _, _, _, _, _, _]) rfl rfl rfl rfl ?_
  refine s_incz (p' := 44) (w := (nI 3)) (ls' := [_, _, _, _, _, _, _]) rfl rfl rfl (by decide +kernel) rfl rfl ?_
  refine s_goto (p' := 14) rfl rfl ?_
  refine s_ild (p' := 16) rfl rfl rfl ?_
  refine s_ild (p' := 18) rfl rfl rfl ?_
  refine s_icmp (p' := 21) false rfl (by decide +kernel) rfl ?_
  refine s_aldn (p' := 22) rfl rfl rfl ?_
  refine s_ild (p' := 24) rfl rfl rfl ?_
  refine s_ialz (p' := 25) (m := 3) (v := (nI 0)) rfl (rd_sn rfl (rd_sn rfl (rd_sn rfl (rd_sn rfl (rd_sn rfl (rd_sn rfl (rd_sn rfl (rd_sn rfl (rd_sn rfl (rd_sn rfl (rd_sn rfl (rd_sn rfl (rd_sn rfl (rd_sn rfl (rd_sn rfl (rd_sn rfl (rd_sn rfl H411))))))))))))))))) (by decide +kernel) rfl (by decide +kernel) rfl ?_
  refine s_ist (p' := 27) (ls' := [_, _, _, _, _, _, _]) rfl rfl rfl rfl ?_
  refine s_ildn (p' := 28) rfl rfl rfl ?_
  refine s_ild (p' := 30) rfl rfl rfl ?_
  refine s_ildn (p' := 31) rfl rfl rfl ?_
  refine s_icmp (p' := 38) true rfl (by decide +kernel) rfl ?_
  refine s_con (p' := 39) rfl rfl ?_
  refine s_bz (p' := 40) (z := (nI 0)) rfl rfl rfl (by decide +kernel) ?_
  refine s_istn (p' := 41) (ls' := [_, _, _, _, _, _, _]) rfl rfl rfl rfl ?_
  refine s_incz (p' := 44) (w := (nI 4)) (ls' := [_, _, _, _, _, _, _]) rfl rfl rfl (by decide +kernel) rfl rfl ?_
  refine s_goto (p' := 14) rfl rfl ?_
  refine s_ild (p' := 16) rfl rfl rfl ?_
  refine s_ild (p' := 18) rfl rfl rfl ?_
  refine s_icmp (p' := 21) false rfl (by decide +kernel) rfl ?_
  refine s_aldn (p' := 22) rfl rfl rfl ?_
  refine s_ild (p' := 24) rfl rfl rfl ?_
  refine s_ialz (p' := 25) (m := 4) (v := (nI 0)) rfl (rd_sn rfl (rd_sn rfl (rd_sn rfl (rd_sn rfl (rd_sn rfl (rd_sn rfl (rd_sn rfl (rd_sn rfl (rd_sn rfl (rd_sn rfl (rd_sn rfl (rd_sn rfl (rd_sn rfl (rd_sn rfl (rd_sn rfl (rd_sn rfl (rd_sn rfl H411))))))))))))))))) (by decide +kernel) rfl (by decide +kernel) rfl ?_
  refine s_ist (p' := 27) (ls' := [_, _, _, _, _, _, _]) rfl rfl rfl rfl ?_
  refine s_ildn (p' := 28) rfl rfl rfl ?_
  refine s_ild (p' := 30) rfl rfl rfl ?_
  refine s_ildn (p' := 31) rfl rfl rfl ?_
  refine s_icmp (p' := 38) true rfl (by decide +kernel) rfl ?_
  refine s_con (p' := 39) rfl rfl ?_
  refine s_bz (p' := 40) (z := (nI 0)) rfl rfl rfl (by decide +kernel) ?_
  refine s_istn (p' := 41) (ls' := [_, _, _, _, _, _, _]) rfl rfl rfl rfl ?_
  refine s_incz (p' := 44) (w := (nI 5)) (ls' := [_, _, _, _, _, _, _]) rfl rfl rfl (by decide +kernel) rfl rfl ?_
  refine s_goto (p' := 14) rfl rfl ?_
  refine s_ild (p' := 16) rfl rfl rfl ?_
  refine s_ild (p' := 18) rfl rfl rfl ?_
  refine s_icmp (p' := 21) false rfl (by decide +kernel) rfl ?_
  refine s_aldn (p' := 22) rfl rfl rfl ?_
  refine s_ild (p' := 24) rfl rfl rfl ?_
  refine s_ialz (p' := 25) (m := 5) (v := (nI 0)) rfl (rd_sn rfl (rd_sn rfl (rd_sn rfl (rd_sn rfl (rd_sn rfl (rd_sn rfl (rd_sn rfl (rd_sn rfl (rd_sn rfl (rd_sn rfl (rd_sn rfl (rd_sn rfl (rd_sn rfl (rd_sn rfl (rd_sn rfl (rd_sn rfl (rd_sn rfl H411))))))))))))))))) (by decide +kernel) rfl (by decide +kernel) rfl ?_
  refine s_ist (p' := 27) (ls' := [_, _, _, _, _, _, _]) rfl rfl rfl rfl ?_
  refine s_ildn (p' := 28) rfl rfl rfl ?_
  refine s_ild (p' := 30) rfl rfl rfl ?_
  refine s_ildn (p' := 31) rfl rfl rfl ?_
  refine s_icmp (p' := 38) true rfl (by decide +kernel) rfl ?_
  refine s_con (p' := 39) rfl rfl ?_
  refine s_bz (p' := 40) (z := (nI 0)) rfl rfl rfl (by decide +kernel) ?_
  refine s_istn (p' := 41) (ls' := [_, _, _, _, _, _, _]) rfl rfl rfl rfl ?_
  refine s_incz (p' := 44) (w := (nI 6)) (ls' := [_, _, _, _, _, _, _]) rfl rfl rfl (by decide +kernel) rfl rfl ?_
  refine s_goto (p' := 14) rfl rfl ?_
  refine s_ild (p' := 16) rfl rfl rfl ?_
  refine s_ild (p' := 18) rfl rfl rfl ?_
  refine s_icmp (p' := 21) false rfl (by decide +kernel) rfl ?_
  refine s_aldn (p' := 22) rfl rfl rfl ?_
  refine s_ild (p' := 24) rfl rfl rfl ?_
  refine s_ialz (p' := 25) (m := 6) (v := (nI 0)) rfl (rd_sn rfl (rd_sn rfl (rd_sn rfl (rd_sn rfl (rd_sn rfl (rd_sn rfl (rd_sn rfl (rd_sn rfl (rd_sn rfl (rd_sn rfl (rd_sn rfl (rd_sn rfl (rd_sn rfl (rd_sn rfl (rd_sn rfl (rd_sn rfl (rd_sn rfl H411))))))))))))))))) (by decide +kernel) rfl (by decide +kernel) rfl ?_
  refine s_ist (p' := 27) (ls' := [_, _, _, _, _, _, _]) rfl rfl rfl rfl ?_
  refine s_ildn (p' := 28) rfl rfl rfl ?_
  refine s_ild (p' := 30) rfl rfl rfl ?_
  refine s_ildn (p' := 31) rfl rfl rfl ?_
  refine s_icmp (p' := 38) true rfl (by decide +kernel) rfl ?_
  refine s_con (p' := 39) rfl rfl ?_
  refine s_bz (p' := 40) (z := (nI 0)) rfl rfl rfl (by decide +kernel) ?_
  refine s_istn (p' := 41) (ls' := [_, _, _, _, _, _, _]) rfl rfl rfl rfl ?_
  refine s_incz (p' := 44) (w := (nI 7)) (ls' := [_, _, _, _, _, _, _]) rfl rfl rfl (by decide +kernel) rfl rfl ?_
  refine s_goto (p' := 14) rfl rfl ?_
  refine s_ild (p' := 16) rfl rfl rfl ?_
  refine s_ild (p' := 18) rfl rfl rfl ?_
  refine s_icmp (p' := 21) false rfl (by decide +kernel) rfl ?_
  refine s_aldn (p' := 22) rfl rfl rfl ?_
  refine s_ild (p' := 24) rfl rfl rfl ?_
  refine s_ialz (p' := 25) (m := 7) (v := (nI 0)) rfl (rd_sn rfl (rd_sn rfl (rd_sn rfl (rd_sn rfl (rd_sn rfl (rd_sn rfl (rd_sn rfl (rd_sn rfl (rd_sn rfl (rd_sn rfl (rd_sn rfl (rd_sn rfl (rd_sn rfl (rd_sn rfl (rd_sn rfl (rd_sn rfl (rd_sn rfl H411))))))))))))))))) (by decide +kernel) rfl (by decide +kernel) rfl ?_
  refine s_ist (p' := 27) (ls' := [_, _, _, _, _, _, _]) rfl rfl rfl rfl ?_
  refine s_ildn (p' := 28) rfl rfl rfl ?_
  refine s_ild (p' := 30) rfl rfl rfl ?_
  refine s_ildn (p' := 31) rfl rfl rfl ?_
  refine s_icmp (p' := 38) true rfl (by decide +kernel) rfl ?_
  refine s_con (p' := 39) rfl rfl ?_
  refine s_bz (p' := 40) (z := (nI 0)) rfl rfl rfl (by decide +kernel) ?_
  refine s_istn (p' := 41) (ls' := [_, _, _, _, _, _, _]) rfl rfl rfl rfl ?_
  refine s_incz (p' := 44) (w := (nI 8)) (ls' := [_, _, _, _, _, _, _]) rfl rfl rfl (by decide +kernel) rfl rfl ?_
  refine s_goto (p' := 14) rfl rfl ?_
  refine s_ild (p' := 16) rfl rfl rfl ?_
  refine s_ild (p' := 18) rfl rfl rfl ?_
  refine s_icmp (p' := 47) true rfl (by decide +kernel) rfl ?_
  refine s_ildn (p' := 48) rfl rfl rfl ?_
  refine c_iret rfl rfl ?_
  refine s_icmp (p' := 32) true rfl (by decide +kernel) rfl ?_
  refine s_incz (p' := 35) (w := (nI 6)) (ls' := [_, _, _]) rfl rfl rfl (by decide +kernel) rfl rfl ?_
  refine s_goto (p' := 9) rfl rfl ?_
  refine s_ildn (p' := 10) rfl rfl rfl ?_
  refine s_bip (p' := 12) rfl rfl ?_
  refine s_icmp (p' := 15) false rfl (by decide +kernel) rfl ?_
  refine s_con (p' := 16) rfl rfl ?_
  refine s_ildn (p' := 17) rfl rfl rfl ?_
  refine s_bz (p' := 18) (z := (nI 8)) rfl rfl rfl (by decide +kernel) ?_
  refine s_aldn (p' := 19) rfl rfl rfl ?_
  refine s_ildn (p' := 20) rfl rfl rfl ?_
  refine c_call (p' := 23) (kc := 98) (ls0 := [_, _, _, _, _, _, _]) rfl rfl rfl rfl rfl (mj_rcv_is (rd_ss rfl (rd_sn rfl (rd_sn rfl (rd_sn rfl (rd_sn rfl (rd_sn rfl (rd_sn rfl (rd_sn rfl (rd_sn rfl (rd_sn rfl (rd_sn rfl (rd_sn rfl (rd_sn rfl (rd_sn rfl (rd_sn rfl (rd_sn rfl (rd_sn rfl H400)))))))))))))))))) rfl rfl rfl ?_
  refine s_con (p' := 1) rfl rfl ?_
  refine s_istn (p' := 2) (ls' := [_, _, _, _, _, _, _]) rfl rfl rfl rfl ?_
  refine s_aldn (p' := 3) rfl rfl rfl ?_
  refine s_gf (p' := 6) rfl (rd_ss rfl (rd_sn rfl (rd_sn rfl (rd_sn rfl (rd_sn rfl (rd_sn rfl (rd_sn rfl (rd_sn rfl (rd_sn rfl (rd_sn rfl (rd_sn rfl (rd_sn rfl (rd_sn rfl (rd_sn rfl (rd_sn rfl (rd_sn rfl (rd_sn rfl H400))))))))))))))))) rfl rfl ?_
  refine s_astn (p' := 7) (ls' := [_, _, _, _, _, _, _]) rfl rfl rfl rfl ?_
  refine s_aldn (p' := 8) rfl rfl rfl ?_
  refine s_lenz (p' := 9) rfl (mj_rdA_is (rd_sn rfl (rd_sn rfl (rd_sn rfl (rd_sn rfl (rd_sn rfl (rd_sn rfl (rd_sn rfl (rd_sn rfl (rd_sn rfl (rd_sn rfl (rd_sn rfl (rd_sn rfl (rd_sn rfl (rd_sn rfl (rd_sn rfl (rd_sn rfl (rd_sn rfl H411))))))))))))))))) (by decide)) rfl rfl ?_
  refine s_ist (p' := 11) (ls' := [_, _, _, _, _, _, _]) rfl rfl rfl rfl ?_
  refine s_con (p' := 12) rfl rfl ?_
  refine s_ist (p' := 14) (ls' := [_, _, _, _, _, _, _]) rfl rfl rfl rfl ?_
  refine s_ild (p' := 16) rfl rfl rfl ?_
  refine s_ild (p' := 18) rfl rfl rfl ?_
  refine s_icmp (p' := 21) false rfl (by decide +kernel) rfl ?_
  refine s_aldn (p' := 22) rfl rfl rfl ?_
  refine s_ild (p' := 24) rfl rfl rfl ?_
  refine s_ialz (p' := 25) (m := 0) (v := (nI 0)) rfl (rd_sn rfl (rd_sn rfl (rd_sn rfl (rd_sn rfl (rd_sn rfl (rd_sn rfl (rd_sn rfl (rd_sn rfl (rd_sn rfl (rd_sn rfl (rd_sn rfl (rd_sn rfl (rd_sn rfl (rd_sn rfl (rd_sn rfl (rd_sn rfl (rd_sn rfl H411))))))))))))))))) (by decide +kernel) rfl (by decide +kernel) rfl ?_
  refine s_ist (p' := 27) (ls' := [_, _, _, _, _, _, _]) rfl rfl rfl rfl ?_
  refine s_ildn (p' := 28) rfl rfl rfl ?_
  refine s_ild (p' := 30) rfl rfl rfl ?_
  refine s_ildn (p' := 31) rfl rfl rfl ?_
  refine s_icmp (p' := 38) true rfl (by decide +kernel) rfl ?_
  refine s_con (p' := 39) rfl rfl ?_
  refine s_bz (p' := 40) (z := (nI 0)) rfl rfl rfl (by decide +kernel) ?_
  refine s_istn (p' := 41) (ls' := [_, _, _, _, _, _, _]) rfl rfl rfl rfl ?_
  refine s_incz (p' := 44) (w := (nI 1)) (ls' := [_, _, _, _, _, _, _]) rfl rfl rfl (by decide +kernel) rfl rfl ?_
  refine s_goto (p' := 14) rfl rfl ?_
  refine s_ild (p' := 16) rfl rfl rfl ?_
  refine s_ild (p' := 18) rfl rfl rfl ?_
  refine s_icmp (p' := 21) false rfl (by decide +kernel) rfl ?_
  refine s_aldn (p' := 22) rfl rfl rfl ?_
  refine s_ild (p' := 24) rfl rfl rfl ?_
  refine s_ialz (p' := 25) (m := 1) (v := (nI 0)) rfl (rd_sn rfl (rd_sn rfl (rd_sn rfl (rd_sn rfl (rd_sn rfl (rd_sn rfl (rd_sn rfl (rd_sn rfl (rd_sn rfl (rd_sn rfl (rd_sn rfl (rd_sn rfl (rd_sn rfl (rd_sn rfl (rd_sn rfl (rd_sn rfl (rd_sn rfl H411))))))))))))))))) (by decide +kernel) rfl (by decide +kernel) rfl ?_
  refine s_ist (p' := 27) (ls' := [_, _, _, _, _, _, _]) rfl rfl rfl rfl ?_
  refine s_ildn (p' := 28) rfl rfl rfl ?_
  refine s_ild (p' := 30) rfl rfl rfl ?_
  refine s_ildn (p' := 31) rfl rfl rfl ?_
  refine s_icmp (p' := 38) true rfl (by decide +kernel) rfl ?_
  refine s_con (p' := 39) rfl rfl ?_
  refine s_bz (p' := 40) (z := (nI 0)) rfl rfl rfl (by decide +kernel) ?_
  refine s_istn (p' := 41) (ls' := [_, _, _, _, _, _, _]) rfl rfl rfl rfl ?_
  refine s_incz (p' := 44) (w := (nI 2)) (ls' := [_, _, _, _, _, _, _]) rfl rfl rfl (by decide +kernel) rfl rfl ?_
  refine s_goto (p' := 14) rfl rfl ?_
  refine s_ild (p' := 16) rfl rfl rfl ?_
  refine s_ild (p' := 18) rfl rfl rfl ?_
  refine s_icmp (p' := 21) false rfl (by decide +kernel) rfl ?_
  refine s_aldn (p' := 22) rfl rfl rfl ?_
  refine s_ild (p' := 24) rfl rfl rfl ?_
  refine s_ialz (p' := 25) (m := 2) (v := (nI 0)) rfl (rd_sn rfl (rd_sn rfl (rd_sn rfl (rd_sn rfl (rd_sn rfl (rd_sn rfl (rd_sn rfl (rd_sn rfl (rd_sn rfl (rd_sn rfl (rd_sn rfl (rd_sn rfl (rd_sn rfl (rd_sn rfl (rd_sn rfl (rd_sn rfl (rd_sn rfl H411))))))))))))))))) (by decide +kernel) rfl (by decide +kernel) rfl ?_
  refine s_ist (p' := 27) (ls' := [_, _, _, _, _, _, _]) rfl rfl rfl rfl ?_
  refine s_ildn (p' := 28) rfl rfl rfl ?_
  refine s_ild (p' := 30) rfl rfl rfl ?_
  refine s_ildn (p' := 31) rfl rfl rfl ?_
  refine s_icmp (p' := 38) true rfl (by decide +kernel) rfl ?_
  refine s_con (p' := 39) rfl rfl ?_
  refine s_bz (p' := 40) (z := (nI 0)) rfl rfl rfl (by decide +kernel) ?_
  refine s_istn (p' := 41) (ls' := [_, _, _, _, _, _, _]) rfl rfl rfl rfl ?_
  refine s_incz (p' := 44) (w := (nI 3)) (ls' := [_, _, _, _, _, _, _]) rfl rfl rfl (by decide +kernel) rfl rfl ?_
  refine s_goto (p' := 14) rfl rfl ?_
  refine s_ild (p' := 16) rfl rfl rfl ?_
  refine s_ild (p' := 18) rfl rfl rfl ?_
  refine s_icmp (p' := 21) false rfl (by decide +kernel) rfl ?_
  refine s_aldn (p' := 22) rfl rfl rfl ?_
  refine s_ild (p' := 24) rfl rfl rfl ?_
  refine s_ialz (p' := 25) (m := 3) (v := (nI 0)) rfl (rd_sn rfl (rd_sn rfl (rd_sn rfl (rd_sn rfl (rd_sn rfl (rd_sn rfl (rd_sn rfl (rd_sn rfl (rd_sn rfl (rd_sn rfl (rd_sn rfl (rd_sn rfl (rd_sn rfl (rd_sn rfl (rd_sn rfl (rd_sn rfl (rd_sn rfl H411))))))))))))))))) (by decide +kernel) rfl (by decide +kernel) rfl ?_
  refine s_ist (p' := 27) (ls' := [_, _, _, _, _, _, _]) rfl rfl rfl rfl ?_
  refine s_ildn (p' := 28) rfl rfl rfl ?_
  refine s_ild (p' := 30) rfl rfl rfl ?_
  refine s_ildn (p' := 31) rfl rfl rfl ?_
  refine s_icmp (p' := 38) true rfl (by decide +kernel) rfl ?_
  refine s_con (p' := 39) rfl rfl ?_
  refine s_bz (p' := 40) (z := (nI 0)) rfl rfl rfl (by decide +kernel) ?_
  refine s_istn (p' := 41) (ls' := [_, _, _, _, _, _, _]) rfl rfl rfl rfl ?_
  refine s_incz (p' := 44) (w := (nI 4)) (ls' := [_, _, _, _, _, _, _]) rfl rfl rfl (by decide +kernel) rfl rfl ?_
  refine s_goto (p' := 14) rfl rfl ?_
  refine s_ild (p' := 16) rfl rfl rfl ?_
  refine s_ild (p' := 18) rfl rfl rfl ?_
  refine s_icmp (p' := 21) false rfl (by decide +kernel) rfl ?_
  refine s_aldn (p' := 22) rfl rfl rfl ?_
  refine s_ild (p' := 24) rfl rfl rfl ?_
  refine s_ialz (p' := 25) (m := 4) (v := (nI 0)) rfl (rd_sn rfl (rd_sn rfl (rd_sn rfl (rd_sn rfl (rd_sn rfl (rd_sn rfl (rd_sn rfl (rd_sn rfl (rd_sn rfl (rd_sn rfl (rd_sn rfl (rd_sn rfl (rd_sn rfl (rd_sn rfl (rd_sn rfl (rd_sn rfl (rd_sn rfl H411))))))))))))))))) (by decide +kernel) rfl (by decide +kernel) rfl ?_
  refine s_ist (p' := 27) (ls' := [_, _, _, _, _, _, _]) rfl rfl rfl rfl ?_
  refine s_ildn (p' := 28) rfl rfl rfl ?_
  refine s_ild (p' := 30) rfl rfl rfl ?_
  refine s_ildn (p' := 31) rfl rfl rfl ?_
  refine s_icmp (p' := 38) true rfl (by decide +kernel) rfl ?_
  refine s_con (p' := 39) rfl rfl ?_
  refine s_bz (p' := 40) (z := (nI 0)) rfl rfl rfl (by decide +kernel) ?_
  refine s_istn (p' := 41) (ls' := [_, _, _, _, _, _, _]) rfl rfl rfl rfl ?_
  refine s_incz (p' := 44) (w := (nI 5)) (ls' := [_, _, _, _, _, _, _]) rfl rfl rfl (by decide +kernel) rfl rfl ?_
  refine s_goto (p' := 14) rfl rfl ?_
  refine s_ild (p' := 16) rfl rfl rfl ?_
  refine s_ild (p' := 18) rfl rfl rfl ?_
  refine s_icmp (p' := 21) false rfl (by decide +kernel) rfl ?_
  refine s_aldn (p' := 22) rfl rfl rfl ?_
  refine s_ild (p' := 24) rfl rfl rfl ?_
  refine s_ialz (p' := 25) (m := 5) (v := (nI 0)) rfl (rd_sn rfl (rd_sn rfl (rd_sn rfl (rd_sn rfl (rd_sn rfl (rd_sn rfl (rd_sn rfl (rd_sn rfl (rd_sn rfl (rd_sn rfl (rd_sn rfl (rd_sn rfl (rd_sn rfl (rd_sn rfl (rd_sn rfl (rd_sn rfl (rd_sn rfl H411))))))))))))))))) (by decide +kernel) rfl (by decide +kernel) rfl ?_
  refine s_ist (p' := 27) (ls' := [_, _, _, _, _, _, _]) rfl rfl rfl rfl ?_
  refine s_ildn (p' := 28) rfl rfl rfl ?_
  refine s_ild (p' := 30) rfl rfl rfl ?_
  refine s_ildn (p' := 31) rfl rfl rfl ?_
  refine s_icmp (p' := 38) true rfl (by decide +kernel) rfl ?_
  refine s_con (p' := 39) rfl rfl ?_
  refine s_bz (p' := 40) (z := (nI 0)) rfl rfl rfl (by decide +kernel) ?_
  refine s_istn (p' := 41) (ls' := [_, _, _, _, _, _, _]) rfl rfl rfl rfl ?_
  refine s_incz (p' := 44) (w := (nI 6)) (ls' := [_, _, _, _, _, _, _]) rfl rfl rfl (by decide +kernel) rfl rfl ?_
  refine s_goto (p' := 14) rfl rfl ?_
  refine s_ild (p' := 16) rfl rfl rfl ?_
  refine s_ild (p' := 18) rfl rfl rfl ?_
  refine s_icmp (p' := 21) false rfl (by decide +kernel) rfl ?_
  refine s_aldn (p' := 22) rfl rfl rfl ?_
  refine s_ild (p' := 24) rfl rfl rfl ?_
  refine s_ialz (p' := 25) (m := 6) (v := (nI 0)) rfl (rd_sn rfl (rd_sn rfl (rd_sn rfl (rd_sn rfl (rd_sn rfl (rd_sn rfl (rd_sn rfl (rd_sn rfl (rd_sn rfl (rd_sn rfl (rd_sn rfl (rd_sn rfl (rd_sn rfl (rd_sn rfl (rd_sn rfl (rd_sn rfl (rd_sn rfl H411))))))))))))))))) (by decide +kernel) rfl (by decide +kernel) rfl ?_
  refine s_ist (p' := 27) (ls' := [_, _, _, _, _, _, _]) rfl rfl rfl rfl ?_
  refine s_ildn (p' := 28) rfl rfl rfl ?_
  refine s_ild (p' := 30) rfl rfl rfl ?_
  refine s_ildn (p' := 31) rfl rfl rfl ?_
  refine s_icmp (p' := 38) true rfl (by decide +kernel) rfl ?_
  refine s_con (p' := 39) rfl rfl ?_
  refine s_bz (p' := 40) (z := (nI 0)) rfl rfl rfl (by decide +kernel) ?_
  refine s_istn (p' := 41) (ls' := [_, _, _, _, _, _, _]) rfl rfl rfl rfl ?_
  refine s_incz (p' := 44) (w := (nI 7)) (ls' := [_, _, _, _, _, _, _]) rfl rfl rfl (by decide +kernel) rfl rfl ?_
  refine s_goto (p' := 14) rfl rfl ?_
  refine s_ild (p' := 16) rfl rfl rfl ?_
  refine s_ild (p' := 18) rfl rfl rfl ?_
  refine s_icmp (p' := 21) false rfl (by decide +kernel) rfl ?_
  refine s_aldn (p' := 22) rfl rfl rfl ?_
  refine s_ild (p' := 24) rfl rfl rfl ?_
  refine s_ialz (p' := 25) (m := 7) (v := (nI 0)) rfl (rd_sn rfl (rd_sn rfl (rd_sn rfl (rd_sn rfl (rd_sn rfl (rd_sn rfl (rd_sn rfl (rd_sn rfl (rd_sn rfl (rd_sn rfl (rd_sn rfl (rd_sn rfl (rd_sn rfl (rd_sn rfl (rd_sn rfl (rd_sn rfl (rd_sn rfl H411))))))))))))))))) (by decide +kernel) rfl (by decide +kernel) rfl ?_
  refine s_ist (p' := 27) (ls' := [_, _, _, _, _, _, _]) rfl rfl rfl rfl ?_
  refine s_ildn (p' := 28) rfl rfl rfl ?_
  refine s_ild (p' := 30) rfl rfl rfl ?_
  refine s_ildn (p' := 31) rfl rfl rfl ?_
  refine s_icmp (p' := 38) true rfl (by decide +kernel) rfl ?_
  refine s_con (p' := 39) rfl rfl ?_
  refine s_bz (p' := 40) (z := (nI 0)) rfl rfl rfl (by decide +kernel) ?_
  refine s_istn (p' := 41) (ls' := [_, _, _, _, _, _, _]) rfl rfl rfl rfl ?_
  refine s_incz (p' := 44) (w := (nI 8)) (ls' := [_, _, _, _, _, _, _]) rfl rfl rfl (by decide +kernel) rfl rfl ?_
  refine s_goto (p' := 14) rfl rfl ?_
  refine s_ild (p' := 16) rfl rfl rfl ?_
  refine s_ild (p' := 18) rfl rfl rfl ?_
  refine s_icmp (p' := 47) true rfl (by decide +kernel) rfl ?_
  refine s_ildn (p' := 48) rfl rfl rfl ?_
  refine c_iret rfl rfl ?_
  refine s_icmp (p' := 32) true rfl (by decide +kernel) rfl ?_
  refine s_incz (p' := 35) (w := (nI 7)) (ls' := [_, _, _]) rfl rfl rfl (by decide +kernel) rfl rfl ?_
  refine s_goto (p' := 9) rfl rfl ?_
  refine s_ildn (p' := 10) rfl rfl rfl ?_
  refine s_bip (p' := 12) rfl rfl ?_
  refine s_icmp (p' := 15) false rfl (by decide +kernel) rfl ?_
  refine s_con (p' := 16) rfl rfl ?_
  refine s_ildn (p' := 17) rfl rfl rfl ?_
  refine s_bz (p' := 18) (z := (nI 8)) rfl rfl rfl (by decide +kernel) ?_
  refine s_aldn (p' := 19) rfl rfl rfl ?_
  refine s_ildn (p' := 20) rfl rfl rfl ?_
  refine c_call (p' := 23) (kc := 98) (ls0 := [_, _, _, _, _, _, _]) rfl rfl rfl rfl rfl (mj_rcv_is (rd_ss rfl (rd_sn rfl (rd_sn rfl (rd_sn rfl (rd_sn rfl (rd_sn rfl (rd_sn rfl (rd_sn rfl (rd_sn rfl (rd_sn rfl (rd_sn rfl (rd_sn rfl (rd_sn rfl (rd_sn rfl (rd_sn rfl (rd_sn rfl (rd_sn rfl H400)))))))))))))))))) rfl rfl rfl ?_
  refine s_con (p' := 1) rfl rfl ?_
  refine s_istn (p' := 2) (ls' := [_, _, _, _, _, _, _]) rfl rfl rfl rfl ?_
  refine s_aldn (p' := 3) rfl rfl rfl ?_
  refine s_gf (p' := 6) rfl (rd_ss rfl (rd_sn rfl (rd_sn rfl (rd_sn rfl (rd_sn rfl (rd_sn rfl (rd_sn rfl (rd_sn rfl (rd_sn rfl (rd_sn rfl (rd_sn rfl (rd_sn rfl (rd_sn rfl (rd_sn rfl (rd_sn rfl (rd_sn rfl (rd_sn rfl H400))))))))))))))))) rfl rfl ?_
  refine s_astn (p' := 7) (ls' := [_, _, _, _, _, _, _]) rfl rfl rfl rfl ?_
  refine s_aldn (p' := 8) rfl rfl rfl ?_
  refine s_lenz (p' := 9) rfl (mj_rdA_is (rd_sn rfl (rd_sn rfl (rd_sn rfl (rd_sn rfl (rd_sn rfl (rd_sn rfl (rd_sn rfl (rd_sn rfl (rd_sn rfl (rd_sn rfl (rd_sn rfl (rd_sn rfl (rd_sn rfl (rd_sn rfl (rd_sn rfl (rd_sn rfl (rd_sn rfl H411))))))))))))))))) (by decide)) rfl rfl ?_
  refine s_ist (p' := 11) (ls' := [_, _, _, _, _, _, _]) rfl rfl rfl rfl ?_
  refine s_con (p' := 12) rfl rfl ?_
  refine s_ist (p' := 14) (ls' := [_, _, _, _, _, _, _]) rfl rfl rfl rfl ?_
  refine s_ild (p' := 16) rfl rfl rfl ?_
  refine s_ild (p' := 18) rfl rfl rfl ?_
  refine s_icmp (p' := 21) false rfl (by decide +kernel) rfl ?_
  refine s_aldn (p' := 22) rfl rfl rfl ?_
  refine s_ild (p' := 24) rfl rfl rfl ?_
  refine s_ialz (p' := 25) (m := 0) (v := (nI 0)) rfl (rd_sn rfl (rd_sn rfl (rd_sn rfl (rd_sn rfl (rd_sn rfl (rd_sn rfl (rd_sn rfl (rd_sn rfl (rd_sn rfl (rd_sn rfl (rd_sn rfl (rd_sn rfl (rd_sn rfl (rd_sn rfl (rd_sn rfl (rd_sn rfl (rd_sn rfl H411))))))))))))))))) (by decide +kernel) rfl (by decide +kernel) rfl ?_
  refine s_ist (p' := 27) (ls' := [_, _, _, _, _, _, _]) rfl rfl rfl rfl ?_
  refine s_ildn (p' := 28) rfl rfl rfl ?_
  refine s_ild (p' := 30) rfl rfl rfl ?_
  refine s_ildn (p' := 31) rfl rfl rfl ?_
  refine s_icmp (p' := 38) true rfl (by decide +kernel) rfl ?_
  refine s_con (p' := 39) rfl rfl ?_
  refine s_bz (p' := 40) (z := (nI 0)) rfl rfl rfl (by decide +kernel) ?_
  refine s_istn (p' := 41) (ls' := [_, _, _, _, _, _, _]) rfl rfl rfl rfl ?_
  refine s_incz (p' := 44) (w := (nI 1)) (ls' := [_, _, _, _, _, _, _]) rfl rfl rfl (by decide +kernel) rfl rfl ?_
  refine s_goto (p' := 14) rfl rfl ?_
  refine s_ild (p' := 16) rfl rfl rfl ?_
  refine s_ild (p' := 18) rfl rfl rfl ?_
  refine s_icmp (p' := 21) false rfl (by decide +kernel) rfl ?_
  refine s_aldn (p' := 22) rfl rfl rfl ?_
  refine s_ild (p' := 24) rfl rfl rfl ?_
  refine s_ialz (p' := 25) (m := 1) (v := (nI 0)) rfl (rd_sn rfl (rd_sn rfl (rd_sn rfl (rd_sn rfl (rd_sn rfl (rd_sn rfl (rd_sn rfl (rd_sn rfl (rd_sn rfl (rd_sn rfl (rd_sn rfl (rd_sn rfl (rd_sn rfl (rd_sn rfl (rd_sn rfl (rd_sn rfl (rd_sn rfl H411))))))))))))))))) (by decide +kernel) rfl (by decide +kernel) rfl ?_
  refine s_ist (p' := 27) (ls' := [_, _, _, _, _, _, _]) rfl rfl rfl rfl ?_
  refine s_ildn (p' := 28) rfl rfl rfl ?_
  refine s_ild (p' := 30) rfl rfl rfl ?_
  refine s_ildn (p' := 31) rfl rfl rfl ?_
  refine s_icmp (p' := 38) true rfl (by decide +kernel) rfl ?_
  refine s_con (p' := 39) rfl rfl ?_
  refine s_bz (p' := 40) (z := (nI 0)) rfl rfl rfl (by decide +kernel) ?_
  refine s_istn (p' := 41) (ls' := [_, _, _, _, _, _, _]) rfl rfl rfl rfl ?_
  refine s_incz (p' := 44) (w := (nI 2)) (ls' := [_, _, _, _, _, _, _]) rfl rfl rfl (by decide +kernel) rfl rfl ?_
  refine s_goto (p' := 14) rfl rfl ?_
  refine s_ild (p' := 16) rfl rfl rfl ?_
  refine s_ild (p' := 18) rfl rfl rfl ?_
  refine s_icmp (p' := 21) false rfl (by decide +kernel) rfl ?_
  refine s_aldn (p' := 22) rfl rfl rfl ?_
  refine s_ild (p' := 24) rfl rfl rfl ?_
  refine s_ialz (p' := 25) (m := 2) (v := (nI 0)) rfl (rd_sn rfl (rd_sn rfl (rd_sn rfl (rd_sn rfl (rd_sn rfl (rd_sn rfl (rd_sn rfl (rd_sn rfl (rd_sn rfl (rd_sn rfl (rd_sn rfl (rd_sn rfl (rd_sn rfl (rd_sn rfl (rd_sn rfl (rd_sn rfl (rd_sn rfl H411))))))))))))))))) (by decide +kernel) rfl (by decide +kernel) rfl ?_
  refine s_ist (p' := 27) (ls' := [_, _, _, _, _, _, _]) rfl rfl rfl rfl ?_
  refine s_ildn (p' := 28) rfl rfl rfl ?_
  refine s_ild (p' := 30) rfl rfl rfl ?_
  refine s_ildn (p' := 31) rfl rfl rfl ?_
  refine s_icmp (p' := 38) true rfl (by decide +kernel) rfl ?_
  refine s_con (p' := 39) rfl rfl ?_
  refine s_bz (p' := 40) (z := (nI 0)) rfl rfl rfl (by decide +kernel) ?_
  refine s_istn (p' := 41) (ls' := [_, _, _, _, _, _, _]) rfl rfl rfl rfl ?_
  refine s_incz (p' := 44) (w := (nI 3)) (ls' := [_, _, _, _, _, _, _]) rfl rfl rfl (by decide +kernel) rfl rfl ?_
  refine s_goto (p' := 14) rfl rfl ?_
  refine s_ild (p' := 16) rfl rfl rfl ?_
  refine s_ild (p' := 18) rfl rfl rfl ?_
  refine s_icmp (p' := 21) false rfl (by decide +kernel) rfl ?_
  refine s_aldn (p' := 22) rfl rfl rfl ?_
  refine s_ild (p' := 24) rfl rfl rfl ?_
  refine s_ialz (p' := 25) (m := 3) (v := (nI 0)) rfl (rd_sn rfl (rd_sn rfl (rd_sn rfl (rd_sn rfl (rd_sn rfl (rd_sn rfl (rd_sn rfl (rd_sn rfl (rd_sn rfl (rd_sn rfl (rd_sn rfl (rd_sn rfl (rd_sn rfl (rd_sn rfl (rd_sn rfl (rd_sn rfl (rd_sn rfl H411))))))))))))))))) (by decide +kernel) rfl (by decide +kernel) rfl ?_
  refine s_ist (p' := 27) (ls' := [_, _, _, _, _, _, _]) rfl rfl rfl rfl ?_
  refine s_ildn (p' := 28) rfl rfl rfl ?_
  refine s_ild (p' := 30) rfl rfl rfl ?_
  refine s_ildn (p' := 31) rfl rfl rfl ?_
  refine s_icmp (p' := 38) true rfl (by decide +kernel) rfl ?_
  refine s_con (p' := 39) rfl rfl ?_
  refine s_bz (p' := 40) (z := (nI 0)) rfl rfl rfl (by decide +kernel) ?_
  refine s_istn (p' := 41) (ls' := [_, _, _, _, _, _, _]) rfl rfl rfl rfl ?_
  refine s_incz (p' := 44) (w := (nI 4)) (ls' := [_, _, _, _, _, _, _]) rfl rfl rfl (by decide +kernel) rfl rfl ?_
  refine s_goto (p' := 14) rfl rfl ?_
  refine s_ild (p' := 16) rfl rfl rfl ?_
  refine s_ild (p' := 18) rfl rfl rfl ?_
  refine s_icmp (p' := 21) false rfl (by decide +kernel) rfl ?_
  refine s_aldn (p' := 22) rfl rfl rfl ?_
  refine s_ild (p' := 24) rfl rfl rfl ?_
  refine s_ialz (p' := 25) (m := 4) (v := (nI 0)) rfl (rd_sn rfl (rd_sn rfl (rd_sn rfl (rd_sn rfl (rd_sn rfl (rd_sn rfl (rd_sn rfl (rd_sn rfl (rd_sn rfl (rd_sn rfl (rd_sn rfl (rd_sn rfl (rd_sn rfl (rd_sn rfl (rd_sn rfl (rd_sn rfl (rd_sn rfl H411))))))))))))))))) (by decide +kernel) rfl (by decide +kernel) rfl ?_
  refine s_ist (p' := 27) (ls' := [_, _, _, _, _, _, _]) rfl rfl rfl rfl ?_
  refine s_ildn (p' := 28) rfl rfl rfl ?_
  refine s_ild (p' := 30) rfl rfl rfl ?_
  refine s_ildn (p' := 31) rfl rfl rfl ?_
  refine s_icmp (p' := 38) true rfl (by decide +kernel) rfl ?_
  refine s_con (p' := 39) rfl rfl ?_
  refine s_bz (p' := 40) (z := (nI 0)) rfl rfl rfl (by decide +kernel) ?_
  refine s_istn (p' := 41) (ls' := [_, _, _, _, _, _, _]) rfl rfl rfl rfl ?_
  refine s_incz (p' := 44) (w := (nI 5)) (ls' := [_, _, _, _, _, _, _]) rfl rfl rfl (by decide +kernel) rfl rfl ?_
  refine s_goto (p' := 14) rfl rfl ?_
  refine s_ild (p' := 16) rfl rfl rfl ?_
  refine s_ild (p' := 18) rfl rfl rfl ?_
  refine s_icmp (p' := 21) false rfl (by decide +kernel) rfl ?_
  refine s_aldn (p' := 22) rfl rfl rfl ?_
  refine s_ild (p' := 24) rfl rfl rfl ?_
  refine s_ialz (p' := 25) (m := 5) (v := (nI 0)) rfl (rd_sn rfl (rd_sn rfl (rd_sn rfl (rd_sn rfl (rd_sn rfl (rd_sn rfl (rd_sn rfl (rd_sn rfl (rd_sn rfl (rd_sn rfl (rd_sn rfl (rd_sn rfl (rd_sn rfl (rd_sn rfl (rd_sn rfl (rd_sn rfl (rd_sn rfl H411))))))))))))))))) (by decide +kernel) rfl (by decide +kernel) rfl ?_
  refine s_ist (p' := 27) (ls' := [_, _, _, _, _, _, _]) rfl rfl rfl rfl ?_
  refine s_ildn (p' := 28) rfl rfl rfl ?_
  refine s_ild (p' := 30) rfl rfl rfl ?_
  refine s_ildn (p' := 31) rfl rfl rfl ?_
  refine s_icmp (p' := 38) true rfl (by decide +kernel) rfl ?_
  refine s_con (p' := 39) rfl rfl ?_
  refine s_bz (p' := 40) (z := (nI 0)) rfl rfl rfl (by decide +kernel) ?_
  refine s_istn (p' := 41) (ls' := [_, _, _, _, _, _, _]) rfl rfl rfl rfl ?_
  refine s_incz (p' := 44) (w := (nI 6)) (ls' := [_, _, _, _, _, _, _]) rfl rfl rfl (by decide +kernel) rfl rfl ?_
  refine s_goto (p' := 14) rfl rfl ?_
  refine s_ild (p' := 16) rfl rfl rfl ?_
  refine s_ild (p' := 18) rfl rfl rfl ?_
  refine s_icmp (p' := 21) false rfl (by decide +kernel) rfl ?_
  refine s_aldn (p' := 22) rfl rfl rfl ?_
  refine s_ild (p' := 24) rfl rfl rfl ?_
  refine s_ialz (p' := 25) (m := 6) (v := (nI 0)) rfl (rd_sn rfl (rd_sn rfl (rd_sn rfl (rd_sn rfl (rd_sn rfl (rd_sn rfl (rd_sn rfl (rd_sn rfl (rd_sn rfl (rd_sn rfl (rd_sn rfl (rd_sn rfl (rd_sn rfl (rd_sn rfl (rd_sn rfl (rd_sn rfl (rd_sn rfl H411))))))))))))))))) (by decide +kernel) rfl (by decide +kernel) rfl ?_
  refine s_ist (p' := 27) (ls' := [_, _, _, _, _, _, _]) rfl rfl rfl rfl ?_
  refine s_ildn (p' := 28) rfl rfl rfl ?_
  refine s_ild (p' := 30) rfl rfl rfl ?_
  refine s_ildn (p' := 31) rfl rfl rfl ?_
  refine s_icmp (p' := 38) true rfl (by decide +kernel) rfl ?_
  refine s_con (p' := 39) rfl rfl ?_
  refine s_bz (p' := 40) (z := (nI 0)) rfl rfl rfl (by decide +kernel) ?_
  refine s_istn (p' := 41) (ls' := [_, _, _, _, _, _, _]) rfl rfl rfl rfl ?_
  refine s_incz (p' := 44) (w := (nI 7)) (ls' := [_, _, _, _, _, _, _]) rfl rfl rfl (by decide +kernel) rfl rfl ?_
  refine s_goto (p' := 14) rfl rfl ?_
  refine s_ild (p' := 16) rfl rfl rfl ?_
  refine s_ild (p' := 18) rfl rfl rfl ?_
  refine s_icmp (p' := 21) false rfl (by decide +kernel) rfl ?_
  refine s_aldn (p' := 22) rfl rfl rfl ?_
  refine s_ild (p' := 24) rfl rfl rfl ?_
  refine s_ialz (p' := 25) (m := 7) (v := (nI 0)) rfl (rd_sn rfl (rd_sn rfl (rd_sn rfl (rd_sn rfl (rd_sn rfl (rd_sn rfl (rd_sn rfl (rd_sn rfl (rd_sn rfl (rd_sn rfl (rd_sn rfl (rd_sn rfl (rd_sn rfl (rd_sn rfl (rd_sn rfl (rd_sn rfl (rd_sn rfl H411))))))))))))))))) (by decide +kernel) rfl (by decide +kernel) rfl ?_
  refine s_ist (p' := 27) (ls' := [_, _, _, _, _, _, _]) rfl rfl rfl rfl ?_
  refine s_ildn (p' := 28) rfl rfl rfl ?_
  refine s_ild (p' := 30) rfl rfl rfl ?_
  refine s_ildn (p' := 31) rfl rfl rfl ?_
  refine s_icmp (p' := 38) true rfl (by decide +kernel) rfl ?_
  refine s_con (p' := 39) rfl rfl ?_
  refine s_bz (p' := 40) (z := (nI 0)) rfl rfl rfl (by decide +kernel) ?_
  refine s_istn (p' := 41) (ls' := [_, _, _, _, _, _, _]) rfl rfl rfl rfl ?_
  refine s_incz (p' := 44) (w := (nI 8)) (ls' := [_, _, _, _, _, _, _]) rfl rfl rfl (by decide +kernel) rfl rfl ?_
  refine s_goto (p' := 14) rfl rfl ?_
  refine s_ild (p' := 16) rfl rfl rfl ?_
  refine s_ild (p' := 18) rfl rfl rfl ?_
  refine s_icmp (p' := 47) true rfl (by decide +kernel) rfl ?_
  refine s_ildn (p' := 48) rfl rfl rfl ?_
  refine c_iret rfl rfl ?_
  refine s_icmp (p' := 32) true rfl (by decide +kernel) rfl ?_
  refine s_incz (p' := 35) (w := (nI 8)) (ls' := [_, _, _]) rfl rfl rfl (by decide +kernel) rfl rfl ?_
  refine s_goto (p' := 9) rfl rfl ?_
  refine s_ildn (p' := 10) rfl rfl rfl ?_
  refine s_bip (p' := 12) rfl rfl ?_
  refine s_icmp (p' := 38) true rfl (by decide +kernel) rfl ?_
  refine s_ildn (p' := 39) rfl rfl rfl ?_
  refine k_iret rfl rfl ?_
  refine l_icmp (p' := 2541) true rfl rfl (by decide +kernel) rfl ?_
  refine l_incz (p' := 2544) (w := (nI 4)) (ls' := [_, _, _, _, _, _, _, _, _, _]) rfl rfl rfl rfl (by decide +kernel) rfl rfl ?_
  refine l_goto (p' := 28) rfl rfl rfl ?_
  refine l_ild (p' := 30) rfl rfl rfl rfl ?_
  refine l_alds (p' := 31) rfl rfl rfl rfl ?_
  refine l_lens (p' := 32) rfl rfl rfl ?_
  refine l_con (p' := 33) rfl rfl rfl ?_
  refine l_bz (p' := 34) (z := (nI 0)) rfl rfl rfl rfl rfl (by decide +kernel) ?_
  refine l_icmp (p' := 2547) true rfl rfl (by decide +kernel) rfl ?_
  refine l_con (p' := 2548) rfl rfl rfl ?_
  refine l_end rfl rfl ?_
  exact ⟨Nat.le_trans (Nat.le_of_eq (len_s (len_s (len_s (len_s (len_s (len_s (len_s (len_s (len_s (len_s (len_s (len_s (len_s (len_s (len_s (len_s (len_s HL)))))))))))))))))) (Nat.le_of_ble_eq_true rfl), Nat.le_trans (sz_s rfl (rd_sn rfl (rd_sn rfl (rd_sn rfl (rd_sn rfl (rd_sn rfl (rd_sn rfl (rd_sn rfl (rd_sn rfl (rd_sn rfl (rd_sn rfl (rd_sn rfl (rd_sn rfl (rd_sn rfl (rd_sn rfl (rd_sn rfl (rd_sn rfl H400)))))))))))))))) rfl (sz_sA rfl (rd_ss rfl (rd_ss rfl (rd_ss rfl (rd_ss rfl (rd_ss rfl (rd_ss rfl (rd_ss rfl (rd_ss rfl (rd_ss rfl (rd_ss rfl (rd_ss rfl (rd_ss rfl (rd_ss rfl (rd_ss rfl (rd_ss rfl H399))))))))))))))) (sz_sA rfl (rd_ss rfl (rd_ss rfl (rd_ss rfl (rd_ss rfl (rd_ss rfl (rd_ss rfl (rd_ss rfl (rd_ss rfl (rd_ss rfl (rd_ss rfl (rd_ss rfl (rd_ss rfl (rd_ss rfl (rd_ss rfl H399)))))))))))))) (sz_sA rfl (rd_ss rfl (rd_ss rfl (rd_ss rfl (rd_ss rfl (rd_ss rfl (rd_ss rfl (rd_ss rfl (rd_ss rfl (rd_ss rfl (rd_ss rfl (rd_ss rfl (rd_ss rfl (rd_ss rfl H399))))))))))))) (sz_sA rfl (rd_ss rfl (rd_ss rfl (rd_ss rfl (rd_ss rfl (rd_ss rfl (rd_ss rfl (rd_ss rfl (rd_ss rfl (rd_ss rfl (rd_ss rfl (rd_ss rfl (rd_ss rfl H399)))))))))))) (sz_sA rfl (rd_ss rfl (rd_ss rfl (rd_ss rfl (rd_ss rfl (rd_ss rfl (rd_ss rfl (rd_ss rfl (rd_ss rfl (rd_ss rfl (rd_ss rfl (rd_ss rfl H399))))))))))) (sz_sA rfl (rd_ss rfl (rd_ss rfl (rd_ss rfl (rd_ss rfl (rd_ss rfl (rd_ss rfl (rd_ss rfl (rd_ss rfl (rd_ss rfl (rd_ss rfl H399)))))))))) (sz_sA rfl (rd_ss rfl (rd_ss rfl (rd_ss rfl (rd_ss rfl (rd_ss rfl (rd_ss rfl (rd_ss rfl (rd_ss rfl (rd_ss rfl H399))))))))) (sz_sA rfl (rd_ss rfl (rd_ss rfl (rd_ss rfl (rd_ss rfl (rd_ss rfl (rd_ss rfl (rd_ss rfl (rd_ss rfl H399)))))))) (sz_sA rfl (rd_ss rfl (rd_ss rfl (rd_ss rfl (rd_ss rfl (rd_ss rfl (rd_ss rfl (rd_ss rfl H399))))))) (sz_sA rfl (rd_ss rfl (rd_ss rfl (rd_ss rfl (rd_ss rfl (rd_ss rfl (rd_ss rfl H399)))))) (sz_sA rfl (rd_ss rfl (rd_ss rfl (rd_ss rfl (rd_ss rfl (rd_ss rfl H399))))) (sz_sA rfl (rd_ss rfl (rd_ss rfl (rd_ss rfl (rd_ss rfl H399)))) (sz_sA rfl (rd_ss rfl (rd_ss rfl (rd_ss rfl H399))) (sz_sA rfl (rd_ss rfl (rd_ss rfl H399)) (sz_sA rfl (rd_ss rfl H399) (sz_sA rfl H399 HZ))))))))))))))))) (Nat.le_of_ble_eq_true rfl)⟩
theorem p1_43 {xs : Nat → Int32} {h : mj_H} (hk : xs 0 &&& nI 63 = nI 43)   (HL : h.length = 414) (HZ : mj_sz h ≤ 20000) (H0 : mj_rd h 0 = some (.inr (0, [.ref 1, .ref 38, .ref 299, .ref 336, .ref 373, .ref 375, .ref 378, .ref 381, .ref 387, .ref 393, .null, .null, .ref 397, .ref 398, .ref 399, .long (lN 0), .long (lN 0)]))) (H397 : mj_rd h 397 = some (.inl (0, (8, .inl (fun _ => 0))))) (H399 : mj_rd h 399 = some (.inl (0, (8, .inl (fun _ => 0))))) (H400 : mj_rd h 400 = some (.inr (17, [.int (nI 0), .ref 401, .ref 402, .ref 1000300, .long (lN 0), .long (lN 0), .ref 410, .null, .null, .null, .ref 411]))) (H411 : mj_rd h 411 = some (.inl (0, (8, .inl (fun _ => 0))))) : mj_fin 4 xs h := by
  unfold mj_fin
  refine l_ild (p' := 30) rfl rfl rfl rfl ?_
  refine l_alds (p' := 31) rfl rfl rfl rfl ?_
  refine l_lens (p' := 32) rfl rfl rfl ?_
  refine l_con (p' := 33) rfl rfl rfl ?_
  refine l_bz (p' := 34) (z := (nI 0)) rfl rfl rfl rfl rfl (by decide +kernel) ?_
  refine l_icmp (p' := 37) false rfl rfl (by decide +kernel) rfl ?_
  refine l_alds (p' := 38) rfl rfl rfl rfl ?_
  refine l_ild (p' := 40) rfl rfl rfl rfl ?_
  refine l_ialz (p' := 41) (m := 0) (z := (xs 0)) rfl rfl (by decide +kernel) rfl rfl rfl ?_
  refine l_bip (p' := 43) rfl rfl rfl ?_
  refine l_bz (p' := 44) (z := (nI 43)) rfl rfl rfl rfl rfl hk ?_
  refine l_sp (p' := 2269) (ls' := _) rfl rfl rfl rfl rfl ?_
  refine l_aldn (p' := 2270) rfl rfl rfl rfl ?_
  refine l_call (p' := 2273) (kc := 99) (ls0 := [_, _, _]) rfl rfl rfl rfl rfl rfl (mj_rcv_is H0) rfl rfl rfl ?_
  refine s_aldn (p' := 1) rfl rfl rfl ?_
  refine c_call (p' := 4) (kc := 98) (ls0 := [_, _, _]) rfl rfl rfl rfl rfl (mj_rcv_is H0) rfl rfl rfl ?_
  refine s_aldn (p' := 1) rfl rfl rfl ?_
  refine s_gf (p' := 4) rfl H0 rfl rfl ?_
  refine s_con (p' := 5) rfl rfl ?_
  refine c_call (p' := 8) (kc := 97) (ls0 := [_, _, _, _]) rfl rfl rfl rfl rfl rfl rfl rfl rfl ?_
  refine s_con (p' := 1) rfl rfl ?_
  refine s_istn (p' := 2) (ls' := [_, _, _, _]) rfl rfl rfl rfl ?_
  refine s_aldn (p' := 3) rfl rfl rfl ?_
  refine s_lenz (p' := 4) rfl (mj_rdA_is H399 (by decide)) rfl rfl ?_
  refine s_istn (p' := 5) (ls' := [_, _, _, _]) rfl rfl rfl rfl ?_
  refine s_ildn (p' := 6) rfl rfl rfl ?_
  refine s_ildn (p' := 7) rfl rfl rfl ?_
  refine s_icmp (p' := 10) false rfl (by decide +kernel) rfl ?_
  refine s_aldn (p' := 11) rfl rfl rfl ?_
  refine s_ildn (p' := 12) rfl rfl rfl ?_
  refine s_ildn (p' := 13) rfl rfl rfl ?_
  refine s_iasz (p' := 14) (m := 0) rfl rfl H399 (by decide +kernel) rfl rfl rfl ?_
  refine s_incz (p' := 17) (w := (nI 1)) (ls' := [_, _, _, _]) rfl rfl rfl (by decide +kernel) rfl rfl ?_
  refine s_goto (p' := 5) rfl rfl ?_
  refine s_ildn (p' := 6) rfl rfl rfl ?_
  refine s_ildn (p' := 7) rfl rfl rfl ?_
  refine s_icmp (p' := 10) false rfl (by decide +kernel) rfl ?_
  refine s_aldn (p' := 11) rfl rfl rfl ?_
  refine s_ildn (p' := 12) rfl rfl rfl ?_
  refine s_ildn (p' := 13) rfl rfl rfl ?_
  refine s_iasz (p' := 14) (m := 1) rfl rfl (rd_ss rfl H399) (by decide +kernel) rfl rfl rfl ?_
  refine s_incz (p' := 17) (w := (nI 2)) (ls' := [_, _, _, _]) rfl rfl rfl (by decide +kernel) rfl rfl ?_
  refine s_goto (p' := 5) rfl rfl ?_
  refine s_ildn (p' := 6) rfl rfl rfl ?_
  refine s_ildn (p' := 7) rfl rfl rfl ?_
  refine s_icmp (p' := 10) false rfl (by decide +kernel) rfl ?_
  refine s_aldn (p' := 11) rfl rfl rfl ?_
  refine s_ildn (p' := 12) rfl rfl rfl ?_
  refine s_ildn (p' := 13) rfl rfl rfl ?_
  refine s_iasz (p' := 14) (m := 2) rfl rfl (rd_ss rfl (rd_ss rfl H399)) (by decide +kernel) rfl rfl rfl ?_
  refine s_incz (p' := 17) (w := (nI 3)) (ls' := [_, _, _, _]) rfl rfl rfl (by decide +kernel) rfl rfl ?_
  refine s_goto (p' := 5) rfl rfl ?_
  refine s_ildn (p' := 6) rfl rfl rfl ?_
  refine s_ildn (p' := 7) rfl rfl rfl ?_
  refine s_icmp (p' := 10) false rfl (by decide +kernel) rfl ?_
  refine s_aldn (p' := 11) rfl rfl rfl ?_
  refine s_ildn (p' := 12) rfl rfl rfl ?_
  refine s_ildn (p' := 13) rfl rfl rfl ?_
  refine s_iasz (p' := 14) (m := 3) rfl rfl (rd_ss rfl (rd_ss rfl (rd_ss rfl H399))) (by decide +kernel) rfl rfl rfl ?_
  refine s_incz (p' := 17) (w := (nI 4)) (ls' := [_, _, _, _]) rfl rfl rfl (by decide +kernel) rfl rfl ?_
  refine s_goto (p' := 5) rfl rfl ?_
  refine s_ildn (p' := 6) rfl rfl rfl ?_
  refine s_ildn (p' := 7) rfl rfl rfl ?_
  refine s_icmp (p' := 10) false rfl (by decide +kernel) rfl ?_
  refine s_aldn (p' := 11) rfl rfl rfl ?_
  refine s_ildn (p' := 12) rfl rfl rfl ?_
  refine s_ildn (p' := 13) rfl rfl rfl ?_
  refine s_iasz (p' := 14) (m := 4) rfl rfl (rd_ss rfl (rd_ss rfl (rd_ss rfl (rd_ss rfl H399)))) (by decide +kernel) rfl rfl rfl ?_
  refine s_incz (p' := 17) (w := (nI 5)) (ls' := [_, _, _, _]) rfl rfl rfl (by decide +kernel) rfl rfl ?_
  refine s_goto (p' := 5) rfl rfl ?_
  refine s_ildn (p' := 6) rfl rfl rfl ?_
  refine s_ildn (p' := 7) rfl rfl rfl ?_
  refine s_icmp (p' := 10) false rfl (by decide +kernel) rfl ?_
  refine s_aldn (p' := 11) rfl rfl rfl ?_
  refine s_ildn (p' := 12) rfl rfl rfl ?_
  refine s_ildn (p' := 13) rfl rfl rfl ?_
  refine s_iasz (p' := 14) (m := 5) rfl rfl (rd_ss rfl (rd_ss rfl (rd_ss rfl (rd_ss rfl (rd_ss rfl H399))))) (by decide +kernel) rfl rfl rfl ?_
  refine s_incz (p' := 17) (w := (nI 6)) (ls' := [_, _, _, _]) rfl rfl rfl (by decide +kernel) rfl rfl ?_
  refine s_goto (p' := 5) rfl rfl ?_
  refine s_ildn (p' := 6) rfl rfl rfl ?_
  refine s_ildn (p' := 7) rfl rfl rfl ?_
  refine s_icmp (p' := 10) false rfl (by decide +kernel) rfl ?_
  refine s_aldn (p' := 11) rfl rfl rfl ?_
  refine s_ildn (p' := 12) rfl rfl rfl ?_
  refine s_ildn (p' := 13) rfl rfl rfl ?_
  refine s_iasz (p' := 14) (m := 6) rfl rfl (rd_ss rfl (rd_ss rfl (rd_ss rfl (rd_ss rfl (rd_ss rfl (rd_ss rfl H399)))))) (by decide +kernel) rfl rfl rfl ?_
  refine s_incz (p' := 17) (w := (nI 7)) (ls' := [_, _, _, _]) rfl rfl rfl (by decide +kernel) rfl rfl ?_
  refine s_goto (p' := 5) rfl rfl ?_
  refine s_ildn (p' := 6) rfl rfl rfl ?_
  refine s_ildn (p' := 7) rfl rfl rfl ?_
  refine s_icmp (p' := 10) false rfl (by decide +kernel) rfl ?_
  refine s_aldn (p' := 11) rfl rfl rfl ?_
  refine s_ildn (p' := 12) rfl rfl rfl ?_
  refine s_ildn (p' := 13) rfl rfl rfl ?_
  refine s_iasz (p' := 14) (m := 7) rfl rfl (rd_ss rfl (rd_ss rfl (rd_ss rfl (rd_ss rfl (rd_ss rfl (rd_ss rfl (rd_ss rfl H399))))))) (by decide +kernel) rfl rfl rfl ?_
  refine s_incz (p' := 17) (w := (nI 8)) (ls' := [_, _, _, _]) rfl rfl rfl (by decide +kernel) rfl rfl ?_
  refine s_goto (p' := 5) rfl rfl ?_
  refine s_ildn (p' := 6) rfl rfl rfl ?_
  refine s_ildn (p' := 7) rfl rfl rfl ?_
  refine s_icmp (p' := 20) true rfl (by decide +kernel) rfl ?_
  refine c_ret rfl ?_
  refine s_con (p' := 9) rfl rfl ?_
  refine s_istn (p' := 10) (ls' := [_, _, _]) rfl rfl rfl rfl ?_
  refine s_ildn (p' := 11) rfl rfl rfl ?_
  refine s_aldn (p' := 12) rfl rfl rfl ?_
  refine s_gf (p' := 15) rfl (rd_sn rfl (rd_sn rfl (rd_sn rfl (rd_sn rfl (rd_sn rfl (rd_sn rfl (rd_sn rfl (rd_sn rfl H0)))))))) rfl rfl ?_
  refine s_lenz (p' := 16) rfl (mj_rdA_is (rd_sn rfl (rd_sn rfl (rd_sn rfl (rd_sn rfl (rd_sn rfl (rd_sn rfl (rd_sn rfl (rd_sn rfl H397)))))))) (by decide)) rfl rfl ?_
  refine s_icmp (p' := 19) false rfl (by decide +kernel) rfl ?_
  refine s_aldn (p' := 20) rfl rfl rfl ?_
  refine s_gf (p' := 23) rfl (rd_sn rfl (rd_sn rfl (rd_sn rfl (rd_sn rfl (rd_sn rfl (rd_sn rfl (rd_sn rfl (rd_sn rfl H0)))))))) rfl rfl ?_
  refine s_ildn (p' := 24) rfl rfl rfl ?_
  refine s_ialz (p' := 25) (m := 0) (v := (nI 0)) rfl (rd_sn rfl (rd_sn rfl (rd_sn rfl (rd_sn rfl (rd_sn rfl (rd_sn rfl (rd_sn rfl (rd_sn rfl H397)))))))) (by decide +kernel) rfl (by decide +kernel) rfl ?_
  refine s_istn (p' := 26) (ls' := [_, _, _]) rfl rfl rfl rfl ?_
  refine s_ildn (p' := 27) rfl rfl rfl ?_
  refine c_call (p' := 30) (kc := 97) (ls0 := [_]) rfl rfl rfl rfl rfl rfl rfl rfl rfl ?_
  refine s_ildn (p' := 1) rfl rfl rfl ?_
  refine s_if (p' := 4) false rfl (by decide +kernel) rfl ?_
  refine s_ildn (p' := 5) rfl rfl rfl ?_
  refine s_bip (p' := 7) rfl rfl ?_
  refine s_icmp (p' := 10) false rfl (by decide +kernel) rfl ?_
  refine s_con (p' := 11) rfl rfl ?_
  refine s_goto (p' := 15) rfl rfl ?_
  refine c_iret rfl (by decide +kernel) ?_
  refine s_if (p' := 33) false rfl (by decide +kernel) rfl ?_
  refine s_aldn (p' := 34) rfl rfl rfl ?_
  refine s_gf (p' := 37) rfl (rd_sn rfl (rd_sn rfl (rd_sn rfl (rd_sn rfl (rd_sn rfl (rd_sn rfl (rd_sn rfl (rd_sn rfl H0)))))))) rfl rfl ?_
  refine s_ildn (p' := 38) rfl rfl rfl ?_
  refine s_sp (p' := 39) (ls' := _) rfl rfl rfl ?_
  refine s_ialz (p' := 40) (m := 0) (v := (nI 0)) rfl (rd_ss rfl (rd_ss rfl (rd_ss rfl (rd_ss rfl (rd_ss rfl (rd_ss rfl (rd_ss rfl (rd_ss rfl H399)))))))) (by decide +kernel) rfl (by decide +kernel) rfl ?_
  refine s_con (p' := 41) rfl rfl ?_
  refine s_bz (p' := 42) (z := (nI 1)) rfl rfl rfl (by decide +kernel) ?_
  refine s_iasz (p' := 43) (m := 0) rfl rfl (rd_ss rfl (rd_ss rfl (rd_ss rfl (rd_ss rfl (rd_ss rfl (rd_ss rfl (rd_ss rfl (rd_ss rfl H399)))))))) (by decide +kernel) rfl rfl rfl ?_
  refine s_incz (p' := 46) (w := (nI 1)) (ls' := [_, _, _]) rfl rfl rfl (by decide +kernel) rfl rfl ?_
  refine s_goto (p' := 10) rfl rfl ?_
  refine s_ildn (p' := 11) rfl rfl rfl ?_
  refine s_aldn (p' := 12) rfl rfl rfl ?_
  refine s_gf (p' := 15) rfl (rd_sn rfl (rd_sn rfl (rd_sn rfl (rd_sn rfl (rd_sn rfl (rd_sn rfl (rd_sn rfl (rd_sn rfl (rd_sn rfl H0))))))))) rfl rfl ?_
  refine s_lenz (p' := 16) rfl (mj_rdA_is (rd_sn rfl (rd_sn rfl (rd_sn rfl (rd_sn rfl (rd_sn rfl (rd_sn rfl (rd_sn rfl (rd_sn rfl (rd_sn rfl H397))))))))) (by decide)) rfl rfl ?_
  refine s_icmp (p' := 19) false rfl (by decide +kernel) rfl ?_
  refine s_aldn (p' := 20) rfl rfl rfl ?_
  refine s_gf (p' := 23) rfl (rd_sn rfl (rd_sn rfl (rd_sn rfl (rd_sn rfl (rd_sn rfl (rd_sn rfl (rd_sn rfl (rd_sn rfl (rd_sn rfl H0))))))))) rfl rfl ?_
  refine s_ildn (p' := 24) rfl rfl rfl ?_
  refine s_ialz (p' := 25) (m := 1) (v := (nI 0)) rfl (rd_sn rfl (rd_sn rfl (rd_sn rfl (rd_sn rfl (rd_sn rfl (rd_sn rfl (rd_sn rfl (rd_sn rfl (rd_sn rfl H397))))))))) (by decide +kernel) rfl (by decide +kernel) rfl ?_
  refine s_istn (p' := 26) (ls' := [_, _, _]) rfl rfl rfl rfl ?_
  refine s_ildn (p' := 27) rfl rfl rfl ?_
  refine c_call (p' := 30) (kc := 97) (ls0 := [_]) rfl rfl rfl rfl rfl rfl rfl rfl rfl ?_
  refine s_ildn (p' := 1) rfl rfl rfl ?_
  refine s_if (p' := 4) false rfl (by decide +kernel) rfl ?_
  refine s_ildn (p' := 5) rfl rfl rfl ?_
  refine s_bip (p' := 7) rfl rfl ?_
  refine s_icmp (p' := 10) false rfl (by decide +kernel) rfl ?_
  refine s_con (p' := 11) rfl rfl ?_
  refine s_goto (p' := 15) rfl rfl ?_
  refine c_iret rfl (by decide +kernel) ?_
  refine s_if (p' := 33) false rfl (by decide +kernel) rfl ?_
  refine s_aldn (p' := 34) rfl rfl rfl ?_
  refine s_gf (p' := 37) rfl (rd_sn rfl (rd_sn rfl (rd_sn rfl (rd_sn rfl (rd_sn rfl (rd_sn rfl (rd_sn rfl (rd_sn rfl (rd_sn rfl H0))))))))) rfl rfl ?_
  refine s_ildn (p' := 38) rfl rfl rfl ?_
  refine s_sp (p' := 39) (ls' := _) rfl rfl rfl ?_
  refine s_ialz (p' := 40) (m := 0) (v := (nI 1)) rfl (rd_ss rfl (rd_ss rfl (rd_ss rfl (rd_ss rfl (rd_ss rfl (rd_ss rfl (rd_ss rfl (rd_ss rfl (rd_ss rfl H399))))))))) (by decide +kernel) rfl (by decide +kernel) rfl ?_
  refine s_con (p' := 41) rfl rfl ?_
  refine s_bz (p' := 42) (z := (nI 2)) rfl rfl rfl (by decide +kernel) ?_
  refine s_iasz (p' := 43) (m := 0) rfl rfl (rd_ss rfl (rd_ss rfl (rd_ss rfl (rd_ss rfl (rd_ss rfl (rd_ss rfl (rd_ss rfl (rd_ss rfl (rd_ss rfl H399))))))))) (by decide +kernel) rfl rfl rfl ?_
  refine s_incz (p' := 46) (w := (nI 2)) (ls' := [_, _, _]) rfl rfl rfl (by decide +kernel) rfl rfl ?_
  refine s_goto (p' := 10) rfl rfl ?_
  refine s_ildn (p' := 11) rfl rfl rfl ?_
  refine s_aldn (p' := 12) rfl rfl rfl ?_
  refine s_gf (p' := 15) rfl (rd_sn rfl (rd_sn rfl (rd_sn rfl (rd_sn rfl (rd_sn rfl (rd_sn rfl (rd_sn rfl (rd_sn rfl (rd_sn rfl (rd_sn rfl H0)))))))))) rfl rfl ?_
  refine s_lenz (p' := 16) rfl (mj_rdA_is (rd_sn rfl (rd_sn rfl (rd_sn rfl (rd_sn rfl (rd_sn rfl (rd_sn rfl (rd_sn rfl (rd_sn rfl (rd_sn rfl (rd_sn rfl H397)))))))))) (by decide)) rfl rfl ?_
  refine s_icmp (p' := 19) false rfl (by decide +kernel) rfl ?_
  refine s_aldn (p' := 20) rfl rfl rfl ?_
  refine s_gf (p' := 23) rfl (rd_sn rfl (rd_sn rfl (rd_sn rfl (rd_sn rfl (rd_sn rfl (rd_sn rfl (rd_sn rfl (rd_sn rfl (rd_sn rfl (rd_sn rfl H0)))))))))) rfl rfl ?_
  refine s_ildn (p' := 24) rfl rfl rfl ?_
  refine s_ialz (p' := 25) (m := 2) (v := (nI 0)) rfl (rd_sn rfl (rd_sn rfl (rd_sn rfl (rd_sn rfl (rd_sn rfl (rd_sn rfl (rd_sn rfl (rd_sn rfl (rd_sn rfl (rd_sn rfl H397)))))))))) (by decide +kernel) rfl (by decide +kernel) rfl ?_
  refine s_istn (p' := 26) (ls' := [_, _, _]) rfl rfl rfl rfl ?_
  refine s_ildn (p' := 27) rfl rfl rfl ?_
  refine c_call (p' := 30) (kc := 97) (ls0 := [_]) rfl rfl rfl rfl rfl rfl rfl rfl rfl ?_
  refine s_ildn (p' := 1) rfl rfl rfl ?_
  refine s_if (p' := 4) false rfl (by decide +kernel) rfl ?_
  refine s_ildn (p' := 5) rfl rfl rfl ?_
  refine s_bip (p' := 7) rfl rfl ?_
  refine s_icmp (p' := 10) false rfl (by decide +kernel) rfl ?_
  refine s_con (p' := 11) rfl rfl ?_
  refine s_goto (p' := 15) rfl rfl ?_
  refine c_iret rfl (by decide +kernel) ?_
  refine s_if (p' := 33) false rfl (by decide +kernel) rfl ?_
  refine s_aldn (p' := 34) rfl rfl rfl ?_
  refine s_gf (p' := 37) rfl (rd_sn rfl (rd_sn rfl (rd_sn rfl (rd_sn rfl (rd_sn rfl (rd_sn rfl (rd_sn rfl (rd_sn rfl (rd_sn rfl (rd_sn rfl H0)))))))))) rfl rfl ?_
  refine s_ildn (p' := 38) rfl rfl rfl ?_
  refine s_sp (p' := 39) (ls' := _) rfl rfl rfl ?_
  refine s_ialz (p' := 40) (m := 0) (v := (nI 2)) rfl (rd_ss rfl (rd_ss rfl (rd_ss rfl (rd_ss rfl (rd_ss rfl (rd_ss rfl (rd_ss rfl (rd_ss rfl (rd_ss rfl (rd_ss rfl H399)))))))))) (by decide +kernel) rfl (by decide +kernel) rfl ?_
  refine s_con (p' := 41) rfl rfl ?_
  refine s_bz (p' := 42) (z := (nI 3)) rfl rfl rfl (by decide +kernel) ?_
  refine s_iasz (p' := 43) (m := 0) rfl rfl (rd_ss rfl (rd_ss rfl (rd_ss rfl (rd_ss rfl (rd_ss rfl (rd_ss rfl (rd_ss rfl (rd_ss rfl (rd_ss rfl (rd_ss rfl H399)))))))))) (by decide +kernel) rfl rfl rfl ?_
  refine s_incz (p' := 46) (w := (nI 3)) (ls' := [_, _, _]) rfl rfl rfl (by decide +kernel) rfl rfl ?_
  refine s_goto (p' := 10) rfl rfl ?_
  refine s_ildn (p' := 11) rfl rfl rfl ?_
  refine s_aldn (p' := 12) rfl rfl rfl ?_
  refine s_gf (p' := 15) rfl (rd_sn rfl (rd_sn rfl (rd_sn rfl (rd_sn rfl (rd_sn rfl (rd_sn rfl (rd_sn rfl (rd_sn rfl (rd_sn rfl (rd_sn rfl (rd_sn rfl H0))))))))))) rfl rfl ?_
  refine s_lenz (p' := 16) rfl (mj_rdA_is (rd_sn rfl (rd_sn rfl (rd_sn rfl (rd_sn rfl (rd_sn rfl (rd_sn rfl (rd_sn rfl (rd_sn rfl (rd_sn rfl (rd_sn rfl (rd_sn rfl H397))))))))))) (by decide)) rfl rfl ?_
  refine s_icmp (p' := 19) false rfl (by decide +kernel) rfl ?_
  refine s_aldn (p' := 20) rfl rfl rfl ?_
  refine s_gf (p' := 23) rfl (rd_sn rfl (rd_sn rfl (rd_sn rfl (rd_sn rfl (rd_sn rfl (rd_sn rfl (rd_sn rfl (rd_sn rfl (rd_sn rfl (rd_sn rfl (rd_sn rfl H0))))))))))) rfl rfl ?_
  refine s_ildn (p' := 24) rfl rfl rfl ?_
  refine s_ialz (p' := 25) (m := 3) (v := (nI 0)) rfl (rd_sn rfl (rd_sn rfl (rd_sn rfl (rd_sn rfl (rd_sn rfl (rd_sn rfl (rd_sn rfl (rd_sn rfl (rd_sn rfl (rd_sn rfl (rd_sn rfl H397))))))))))) (by decide +kernel) rfl (by decide +kernel) rfl ?_
  refine s_istn (p' := 26) (ls' := [_, _, _]) rfl rfl rfl rfl ?_
  refine s_ildn (p' := 27) rfl rfl rfl ?_
  refine c_call (p' := 30) (kc := 97) (ls0 := [_]) rfl rfl rfl rfl rfl rfl rfl rfl rfl ?_
  refine s_ildn (p' := 1) rfl rfl rfl ?_
  refine s_if (p' := 4) false rfl (by decide +kernel) rfl ?_
  refine s_ildn (p' := 5) rfl rfl rfl ?_
  refine s_bip (p' := 7) rfl rfl ?_
  refine s_icmp (p' := 10) false rfl (by decide +kernel) rfl ?_
  refine s_con (p' := 11) rfl rfl ?_
  refine s_goto (p' := 15) rfl rfl ?_
  refine c_iret rfl (by decide +kernel) ?_
  refine s_if (p' := 33) false rfl (by decide +kernel) rfl ?_
  refine s_aldn (p' := 34) rfl rfl rfl ?_
  refine s_gf (p' := 37) rfl (rd_sn rfl (rd_sn rfl (rd_sn rfl (rd_sn rfl (rd_sn rfl (rd_sn rfl (rd_sn rfl (rd_sn rfl (rd_sn rfl (rd_sn rfl (rd_sn rfl H0))))))))))) rfl rfl ?_
  refine s_ildn (p' := 38) rfl rfl rfl ?_
  refine s_sp (p' := 39) (ls' := _) rfl rfl rfl ?_
  refine s_ialz (p' := 40) (m := 0) (v := (nI 3)) rfl (rd_ss rfl (rd_ss rfl (rd_ss rfl (rd_ss rfl (rd_ss rfl (rd_ss rfl (rd_ss rfl (rd_ss rfl (rd_ss rfl (rd_ss rfl (rd_ss rfl H399))))))))))) (by decide +kernel) rfl (by decide +kernel) rfl ?_
  refine s_con (p' := 41) rfl rfl ?_
  refine s_bz (p' := 42) (z := (nI 4)) rfl rfl rfl (by decide +kernel) ?_
  refine s_iasz (p' := 43) (m := 0) rfl rfl (rd_ss rfl (rd_ss rfl (rd_ss rfl (rd_ss rfl (rd_ss rfl (rd_ss rfl (rd_ss rfl (rd_ss rfl (rd_ss rfl (rd_ss rfl (rd_ss rfl H399))))))))))) (by decide +kernel) rfl rfl rfl ?_
  refine s_incz (p' := 46) (w := (nI 4)) (ls' := [_, _, _]) rfl rfl rfl (by decide +kernel) rfl rfl ?_
  refine s_goto (p' := 10) rfl rfl ?_
  refine s_ildn (p' := 11) rfl rfl rfl ?_
  refine s_aldn (p' := 12) rfl rfl rfl ?_
  refine s_gf (p' := 15) rfl (rd_sn rfl (rd_sn rfl (rd_sn rfl (rd_sn rfl (rd_sn rfl (rd_sn rfl (rd_sn rfl (rd_sn rfl (rd_sn rfl (rd_sn rfl (rd_sn rfl (rd_sn rfl H0)))))))))))) rfl rfl ?_
  refine s_lenz (p' := 16) rfl (mj_rdA_is (rd_sn rfl (rd_sn rfl (rd_sn rfl (rd_sn rfl (rd_sn rfl (rd_sn rfl (rd_sn rfl (rd_sn rfl (rd_sn rfl (rd_sn rfl (rd_sn rfl (rd_sn rfl H397)))))))))))) (by decide)) rfl rfl ?_
  refine s_icmp (p' := 19) false rfl (by decide +kernel) rfl ?_
  refine s_aldn (p' := 20) rfl rfl rfl ?_
  refine s_gf (p' := 23) rfl (rd_sn rfl (rd_sn rfl (rd_sn rfl (rd_sn rfl (rd_sn rfl (rd_sn rfl (rd_sn rfl (rd_sn rfl (rd_sn rfl (rd_sn rfl (rd_sn rfl (rd_sn rfl H0)))))))))))) rfl rfl ?_
  refine s_ildn (p' := 24) rfl rfl rfl ?_
  refine s_ialz (p' := 25) (m := 4) (v := (nI 0)) rfl (rd_sn rfl (rd_sn rfl (rd_sn rfl (rd_sn rfl (rd_sn rfl (rd_sn rfl (rd_sn rfl (rd_sn rfl (rd_sn rfl (rd_sn rfl (rd_sn rfl (rd_sn rfl H397)))))))))))) (by decide +kernel) rfl (by decide +kernel) rfl ?_
  refine s_istn (p' := 26) (ls' := [_, _, _]) rfl rfl rfl rfl ?_
  refine s_ildn (p' := 27) rfl rfl rfl ?_
  refine c_call (p' := 30) (kc := 97) (ls0 := [_]) rfl rfl rfl rfl rfl rfl rfl rfl rfl ?_
  refine s_ildn (p' := 1) rfl rfl rfl ?_
  refine s_if (p' := 4) false rfl (by decide +kernel) rfl ?_
  refine s_ildn (p' := 5) rfl rfl rfl ?_
  refine s_bip (p' := 7) rfl rfl ?_
  refine s_icmp (p' := 10) false rfl (by decide +kernel) rfl ?_
  refine s_con (p' := 11) rfl rfl ?_
  refine s_goto (p' := 15) rfl rfl ?_
  refine c_iret rfl (by decide +kernel) ?_
  refine s_if (p' := 33) false rfl (by decide +kernel) rfl ?_
  refine s_aldn (p' := 34) rfl rfl rfl ?_
  refine s_gf (p' := 37) rfl (rd_sn rfl (rd_sn rfl (rd_sn rfl (rd_sn rfl (rd_sn rfl (rd_sn rfl (rd_sn rfl (rd_sn rfl (rd_sn rfl (rd_sn rfl (rd_sn rfl (rd_sn rfl H0)))))))))))) rfl rfl ?_
  refine s_ildn (p' := 38) rfl rfl rfl ?_
  refine s_sp (p' := 39) (ls' := _) rfl rfl rfl ?_
  refine s_ialz (p' := 40) (m := 0) (v := (nI 4)) rfl (rd_ss rfl (rd_ss rfl (rd_ss rfl (rd_ss rfl (rd_ss rfl (rd_ss rfl (rd_ss rfl (rd_ss rfl (rd_ss rfl (rd_ss rfl (rd_ss rfl (rd_ss rfl H399)))))))))))) (by decide +kernel) rfl (by decide +kernel) rfl ?_
  refine s_con (p' := 41) rfl rfl ?_
  refine s_bz (p' := 42) (z := (nI 5)) rfl rfl rfl (by decide +kernel) ?_
  refine s_iasz (p' := 43) (m := 0) rfl rfl (rd_ss rfl (rd_ss rfl (rd_ss rfl (rd_ss rfl (rd_ss rfl (rd_ss rfl (rd_ss rfl (rd_ss rfl (rd_ss rfl (rd_ss rfl (rd_ss rfl (rd_ss rfl H399)))))))))))) (by decide +kernel) rfl rfl rfl ?_
  refine s_incz (p' := 46) (w := (nI 5)) (ls' := [_, _, _]) rfl rfl rfl (by decide +kernel) rfl rfl ?_
  refine s_goto (p' := 10) rfl rfl ?_
  refine s_ildn (p' := 11) rfl rfl rfl ?_
  refine s_aldn (p' := 12) rfl rfl rfl ?_
  refine s_gf (p' := 15) rfl (rd_sn rfl (rd_sn rfl (rd_sn rfl (rd_sn rfl (rd_sn rfl (rd_sn rfl (rd_sn rfl (rd_sn rfl (rd_sn rfl (rd_sn rfl (rd_sn rfl (rd_sn rfl (rd_sn rfl H0))))))))))))) rfl rfl ?_
  refine s_lenz (p' := 16) rfl (mj_rdA_is (rd_sn rfl (rd_sn rfl (rd_sn rfl (rd_sn rfl (rd_sn rfl (rd_sn rfl (rd_sn rfl (rd_sn rfl (rd_sn rfl (rd_sn rfl (rd_sn rfl (rd_sn rfl (rd_sn rfl H397))))))))))))) (by decide)) rfl rfl ?_
  refine s_icmp (p' := 19) false rfl (by decide +kernel) rfl ?_
  refine s_aldn (p' := 20) rfl rfl rfl ?_
  refine s_gf (p' := 23) rfl (rd_sn rfl (rd_sn rfl (rd_sn rfl (rd_sn rfl (rd_sn rfl (rd_sn rfl (rd_sn rfl (rd_sn rfl (rd_sn rfl (rd_sn rfl (rd_sn rfl (rd_sn rfl (rd_sn rfl H0))))))))))))) rfl rfl ?_
  refine s_ildn (p' := 24) rfl rfl rfl ?_
  refine s_ialz (p' := 25) (m := 5) (v := (nI 0)) rfl (rd_sn rfl (rd_sn rfl (rd_sn rfl (rd_sn rfl (rd_sn rfl (rd_sn rfl (rd_sn rfl (rd_sn rfl (rd_sn rfl (rd_sn rfl (rd_sn rfl (rd_sn rfl (rd_sn rfl H397))))))))))))) (by decide +kernel) rfl (by decide +kernel) rfl ?_
  refine s_istn (p' := 26) (ls' := [_, _, _]) rfl rfl rfl rfl ?_
  refine s_ildn (p' := 27) rfl rfl rfl ?_
  refine c_call (p' := 30) (kc := 97) (ls0 := [_]) rfl rfl rfl rfl rfl rfl rfl rfl rfl ?_
  refine s_ildn (p' := 1) rfl rfl rfl ?_
  refine s_if (p' := 4) false rfl (by decide +kernel) rfl ?_
  refine s_ildn (p' := 5) rfl rfl rfl ?_
  refine s_bip (p' := 7) rfl rfl ?_
  refine s_icmp (p' := 10) false rfl (by decide +kernel) rfl ?_
  refine s_con (p' := 11) rfl rfl ?_
  refine s_goto (p' := 15) rfl rfl ?_
  refine c_iret rfl (by decide +kernel) ?_
  refine s_if (p' := 33) false rfl (by decide +kernel) rfl ?_
  refine s_aldn (p' := 34) rfl rfl rfl ?_
  refine s_gf (p' := 37) rfl (rd_sn rfl (rd_sn rfl (rd_sn rfl (rd_sn rfl (rd_sn rfl (rd_sn rfl (rd_sn rfl (rd_sn rfl (rd_sn rfl (rd_sn rfl (rd_sn rfl (rd_sn rfl (rd_sn rfl H0))))))))))))) rfl rfl ?_
  refine s_ildn (p' := 38) rfl rfl rfl ?_
  refine s_sp (p' := 39) (ls' := _) rfl rfl rfl ?_
  refine s_ialz (p' := 40) (m := 0) (v := (nI 5)) rfl (rd_ss rfl (rd_ss rfl (rd_ss rfl (rd_ss rfl (rd_ss rfl (rd_ss rfl (rd_ss rfl (rd_ss rfl (rd_ss rfl (rd_ss rfl (rd_ss rfl (rd_ss rfl (rd_ss rfl H399))))))))))))) (by decide +kernel) rfl (by decide +kernel) rfl ?_
  refine s_con (p' := 41) rfl rfl ?_
  refine s_bz (p' := 42) (z := (nI 6)) rfl rfl rfl (by decide +kernel) ?_
  refine s_iasz (p' := 43) (m := 0) rfl rfl (rd_ss rfl (rd_ss rfl (rd_ss rfl (rd_ss rfl (rd_ss rfl (rd_ss rfl (rd_ss rfl (rd_ss rfl (rd_ss rfl (rd_ss rfl (rd_ss rfl (rd_ss rfl (rd_ss rfl H399))))))))))))) (by decide +kernel) rfl rfl rfl ?_
  refine s_incz (p' := 46) (w := (nI 6)) (ls' := [_, _, _]) rfl rfl rfl (by decide +kernel) rfl rfl ?_
  refine s_goto (p' := 10) rfl rfl ?_
  refine s_ildn (p' := 11) rfl rfl rfl ?_
  refine s_aldn (p' := 12) rfl rfl rfl ?_
  refine s_gf (p' := 15) rfl (rd_sn rfl (rd_sn rfl (rd_sn rfl (rd_sn rfl (rd_sn rfl (rd_sn rfl (rd_sn rfl (rd_sn rfl (rd_sn rfl (rd_sn rfl (rd_sn rfl (rd_sn rfl (rd_sn rfl (rd_sn rfl H0)))))))))))))) rfl rfl ?_
  refine s_lenz (p' := 16) rfl (mj_rdA_is (rd_sn rfl (rd_sn rfl (rd_sn rfl (rd_sn rfl (rd_sn rfl (rd_sn rfl (rd_sn rfl (rd_sn rfl (rd_sn rfl (rd_sn rfl (rd_sn rfl (rd_sn rfl (rd_sn rfl (rd_sn rfl H397)))))))))))))) (by decide)) rfl rfl ?_
  refine s_icmp (p' := 19) false rfl (by decide +kernel) rfl ?_
  refine s_aldn (p' := 20) rfl rfl rfl ?_
  refine s_gf (p' := 23) rfl (rd_sn rfl (rd_sn rfl (rd_sn rfl (rd_sn rfl (rd_sn rfl (rd_sn rfl (rd_sn rfl (rd_sn rfl (rd_sn rfl (rd_sn rfl (rd_sn rfl (rd_sn rfl (rd_sn rfl (rd_sn rfl H0)))))))))))))) rfl rfl ?_
  refine s_ildn (p' := 24) rfl rfl rfl ?_
  refine s_ialz (p' := 25) (m := 6) (v := (nI 0)) rfl (rd_sn rfl (rd_sn rfl (rd_sn rfl (rd_sn rfl (rd_sn rfl (rd_sn rfl (rd_sn rfl (rd_sn rfl (rd_sn rfl (rd_sn rfl (rd_sn rfl (rd_sn rfl (rd_sn rfl (rd_sn rfl H397)))))))))))))) (by decide +kernel) rfl (by decide +kernel) rfl ?_
  refine s_istn (p' := 26) (ls' := [_, _, _]) rfl rfl rfl rfl ?_
  refine s_ildn (p' := 27) rfl rfl rfl ?_
  refine c_call (p' := 30) (kc := 97) (ls0 := [_]) rfl rfl rfl rfl rfl rfl rfl rfl rfl ?_
  refine s_ildn (p' := 1) rfl rfl rfl ?_
  refine s_if (p' := 4) false rfl (by decide +kernel) rfl ?_
  refine s_ildn (p' := 5) rfl rfl rfl ?_
  refine s_bip (p' := 7) rfl rfl ?_
  refine s_icmp (p' := 10) false rfl (by decide +kernel) rfl ?_
  refine s_con (p' := 11) rfl rfl ?_
  refine s_goto (p' := 15) rfl rfl ?_
  refine c_iret rfl (by decide +kernel) ?_
  refine s_if (p' := 33) false rfl (by decide +kernel) rfl ?_
  refine s_aldn (p' := 34) rfl rfl rfl ?_
  refine s_gf (p' := 37) rfl (rd_sn rfl (rd_sn rfl (rd_sn rfl (rd_sn rfl (rd_sn rfl (rd_sn rfl (rd_sn rfl (rd_sn rfl (rd_sn rfl (rd_sn rfl (rd_sn rfl (rd_sn rfl (rd_sn rfl (rd_sn rfl H0)))))))))))))) rfl rfl ?_
  refine s_ildn (p' := 38) rfl rfl rfl ?_
  refine s_sp (p' := 39) (ls' := _) rfl rfl rfl ?_
  refine s_ialz (p' := 40) (m := 0) (v := (nI 6)) rfl (rd_ss rfl (rd_ss rfl (rd_ss rfl (rd_ss rfl (rd_ss rfl (rd_ss rfl (rd_ss rfl (rd_ss rfl (rd_ss rfl (rd_ss rfl (rd_ss rfl (rd_ss rfl (rd_ss rfl (rd_ss rfl H399)))))))))))))) (by decide +kernel) rfl (by decide +kernel) rfl ?_
  refine s_con (p' := 41) rfl rfl ?_
  refine s_bz (p' := 42) (z := (nI 7)) rfl rfl rfl (by decide +kernel) ?_
  refine s_iasz (p' := 43) (m := 0) rfl rfl (rd_ss rfl (rd_ss rfl (rd_ss rfl (rd_ss rfl (rd_ss rfl (rd_ss rfl (rd_ss rfl (rd_ss rfl (rd_ss rfl (rd_ss rfl (rd_ss rfl (rd_ss rfl (rd_ss rfl (rd_ss rfl H399)))))))))))))) (by decide +kernel) rfl rfl rfl ?_
  refine s_incz (p' := 46) (w := (nI 7)) (ls' := [_, _, _]) rfl rfl rfl (by decide +kernel) rfl rfl ?_
  refine s_goto (p' := 10) rfl rfl ?_
  refine s_ildn (p' := 11) rfl rfl rfl ?_
  refine s_aldn (p' := 12) rfl rfl rfl ?_
  refine s_gf (p' := 15) rfl (rd_sn rfl (rd_sn rfl (rd_sn rfl (rd_sn rfl (rd_sn rfl (rd_sn rfl (rd_sn rfl (rd_sn rfl (rd_sn rfl (rd_sn rfl (rd_sn rfl (rd_sn rfl (rd_sn rfl (rd_sn rfl (rd_sn rfl H0))))))))))))))) rfl rfl ?_
  refine s_lenz (p' := 16) rfl (mj_rdA_is (rd_sn rfl (rd_sn rfl (rd_sn rfl (rd_sn rfl (rd_sn rfl (rd_sn rfl (rd_sn rfl (rd_sn rfl (rd_sn rfl (rd_sn rfl (rd_sn rfl (rd_sn rfl (rd_sn rfl (rd_sn rfl (rd_sn rfl H397))))))))))))))) (by decide)) rfl rfl ?_
  refine s_icmp (p' := 19) false rfl (by decide +kernel) rfl ?_
  refine s_aldn (p' := 20) rfl rfl rfl ?_
  refine s_gf (p' := 23) rfl (rd_sn rfl (rd_sn rfl (rd_sn rfl (rd_sn rfl (rd_sn rfl (rd_sn rfl (rd_sn rfl (rd_sn rfl (rd_sn rfl (rd_sn rfl (rd_sn rfl (rd_sn rfl (rd_sn rfl (rd_sn rfl (rd_sn rfl H0))))))))))))))) rfl rfl ?_
  refine s_ildn (p' := 24) rfl rfl rfl ?_
  refine s_ialz (p' := 25) (m := 7) (v := (nI 0)) rfl (rd_sn rfl (rd_sn rfl (rd_sn rfl (rd_sn rfl (rd_sn rfl (rd_sn rfl (rd_sn rfl (rd_sn rfl (rd_sn rfl (rd_sn rfl (rd_sn rfl (rd_sn rfl (rd_sn rfl (rd_sn rfl (rd_sn rfl H397))))))))))))))) (by decide +kernel) rfl (by decide +kernel) rfl ?_
  refine s_istn (p' := 26) (ls' := [_, _, _]) rfl rfl rfl rfl ?_
  refine s_ildn (p' := 27) rfl rfl rfl ?_
  refine c_call (p' := 30) (kc := 97) (ls0 := [_]) rfl rfl rfl rfl rfl rfl rfl rfl rfl ?_
  refine s_ildn (p' := 1) rfl rfl rfl ?_
  refine s_if (p' := 4) false rfl (by decide +kernel) rfl ?_
  refine s_ildn (p' := 5) rfl rfl rfl ?_
  refine s_bip (p' := 7) rfl rfl ?_
  refine s_icmp (p' := 10) false rfl (by decide +kernel) rfl ?_
  refine s_con (p' := 11) rfl rfl ?_
  refine s_goto (p' := 15) rfl rfl ?_
  refine c_iret rfl (by decide +kernel) ?_
  refine s_if (p' := 33) false rfl (by decide +kernel) rfl ?_
  refine s_aldn (p' := 34) rfl rfl rfl ?_
  refine s_gf (p' := 37) rfl (rd_sn rfl (rd_sn rfl (rd_sn rfl (rd_sn rfl (rd_sn rfl (rd_sn rfl (rd_sn rfl (rd_sn rfl (rd_sn rfl (rd_sn rfl (rd_sn rfl (rd_sn rfl (rd_sn rfl (rd_sn rfl (rd_sn rfl H0))))))))))))))) rfl rfl ?_
  refine s_ildn (p' := 38) rfl rfl rfl ?_
  refine s_sp (p' := 39) (ls' := _) rfl rfl rfl ?_
  refine s_ialz (p' := 40) (m := 0) (v := (nI 7)) rfl (rd_ss rfl (rd_ss rfl (rd_ss rfl (rd_ss rfl (rd_ss rfl (rd_ss rfl (rd_ss rfl (rd_ss rfl (rd_ss rfl (rd_ss rfl (rd_ss rfl (rd_ss rfl (rd_ss rfl (rd_ss rfl (rd_ss rfl H399))))))))))))))) (by decide +kernel) rfl (by decide +kernel) rfl ?_
  refine s_con (p' := 41) rfl rfl ?_
  refine s_bz (p' := 42) (z := (nI 8)) rfl rfl rfl (by decide +kernel) ?_
  refine s_iasz (p' := 43) (m := 0) rfl rfl (rd_ss rfl (rd_ss rfl (rd_ss rfl (rd_ss rfl (rd_ss rfl (rd_ss rfl (rd_ss rfl (rd_ss rfl (rd_ss rfl (rd_ss rfl (rd_ss rfl (rd_ss rfl (rd_ss rfl (rd_ss rfl (rd_ss rfl H399))))))))))))))) (by decide +kernel) rfl rfl rfl ?_
  refine s_incz (p' := 46) (w := (nI 8)) (ls' := [_, _, _]) rfl rfl rfl (by decide +kernel) rfl rfl ?_
  refine s_goto (p' := 10) rfl rfl ?_
  refine s_ildn (p' := 11) rfl rfl rfl ?_
  refine s_aldn (p' := 12) rfl rfl rfl ?_
  refine s_gf (p' := 15) rfl (rd_sn rfl (rd_sn rfl (rd_sn rfl (rd_sn rfl (rd_sn rfl (rd_sn rfl (rd_sn rfl (rd_sn rfl (rd_sn rfl (rd_sn rfl (rd_sn rfl (rd_sn rfl (rd_sn rfl (rd_sn rfl (rd_sn rfl (rd_sn rfl H0)))))))))))))))) rfl rfl ?_
  refine s_lenz (p' := 16) rfl (mj_rdA_is (rd_sn rfl (rd_sn rfl (rd_sn rfl (rd_sn rfl (rd_sn rfl (rd_sn rfl (rd_sn rfl (rd_sn rfl (rd_sn rfl (rd_sn rfl (rd_sn rfl (rd_sn rfl (rd_sn rfl (rd_sn rfl (rd_sn rfl (rd_sn rfl H397)))))))))))))))) (by decide)) rfl rfl ?_
  refine s_icmp (p' := 49) true rfl (by decide +kernel) rfl ?_
  refine c_ret rfl ?_
  refine s_con (p' := 5) rfl rfl ?_
  refine s_istn (p' := 6) (ls' := [_, _, _]) rfl rfl rfl rfl ?_
  refine s_con (p' := 7) rfl rfl ?_
  refine s_istn (p' := 8) (ls' := [_, _, _]) rfl rfl rfl rfl ?_
  refine s_ildn (p' := 9) rfl rfl rfl ?_
  refine s_aldn (p' := 10) rfl rfl rfl ?_
  refine s_gf (p' := 13) rfl (rd_sn rfl (rd_sn rfl (rd_sn rfl (rd_sn rfl (rd_sn rfl (rd_sn rfl (rd_sn rfl (rd_sn rfl (rd_sn rfl (rd_sn rfl (rd_sn rfl (rd_sn rfl (rd_sn rfl (rd_sn rfl (rd_sn rfl (rd_sn rfl H0)))))))))))))))) rfl rfl ?_
  refine s_lenz (p' := 14) rfl (mj_rdA_is (rd_ss rfl (rd_ss rfl (rd_ss rfl (rd_ss rfl (rd_ss rfl (rd_ss rfl (rd_ss rfl (rd_ss rfl (rd_ss rfl (rd_ss rfl (rd_ss rfl (rd_ss rfl (rd_ss rfl (rd_ss rfl (rd_ss rfl (rd_ss rfl H399)))))))))))))))) (by decide)) rfl rfl ?_
  refine s_icmp (p' := 17) false rfl (by decide +kernel) rfl ?_
  refine s_aldn (p' := 18) rfl rfl rfl ?_
  refine s_gf (p' := 21) rfl (rd_sn rfl (rd_sn rfl (rd_sn rfl (rd_sn rfl (rd_sn rfl (rd_sn rfl (rd_sn rfl (rd_sn rfl (rd_sn rfl (rd_sn rfl (rd_sn rfl (rd_sn rfl (rd_sn rfl (rd_sn rfl (rd_sn rfl (rd_sn rfl H0)))))))))))))))) rfl rfl ?_
  refine s_ildn (p' := 22) rfl rfl rfl ?_
  refine s_ialz (p' := 23) (m := 0) (v := (nI 8)) rfl (rd_ss rfl (rd_ss rfl (rd_ss rfl (rd_ss rfl (rd_ss rfl (rd_ss rfl (rd_ss rfl (rd_ss rfl (rd_ss rfl (rd_ss rfl (rd_ss rfl (rd_ss rfl (rd_ss rfl (rd_ss rfl (rd_ss rfl (rd_ss rfl H399)))))))))))))))) (by decide +kernel) rfl (by decide +kernel) rfl ?_
  refine s_if (p' := 29) true rfl (by decide +kernel) rfl ?_
  refine s_incz (p' := 32) (w := (nI 1)) (ls' := [_, _, _]) rfl rfl rfl (by decide +kernel) rfl rfl ?_
  refine s_goto (p' := 8) rfl rfl ?_
  refine s_ildn (p' := 9) rfl rfl rfl ?_
  refine s_aldn (p' := 10) rfl rfl rfl ?_
  refine s_gf (p' := 13) rfl (rd_sn rfl (rd_sn rfl (rd_sn rfl (rd_sn rfl (rd_sn rfl (rd_sn rfl (rd_sn rfl (rd_sn rfl (rd_sn rfl (rd_sn rfl (rd_sn rfl (rd_sn rfl (rd_sn rfl (rd_sn rfl (rd_sn rfl (rd_sn rfl H0)))))))))))))))) rfl rfl ?_
  refine s_lenz (p' := 14) rfl (mj_rdA_is (rd_ss rfl (rd_ss rfl (rd_ss rfl (rd_ss rfl (rd_ss rfl (rd_ss rfl (rd_ss rfl (rd_ss rfl (rd_ss rfl (rd_ss rfl (rd_ss rfl (rd_ss rfl (rd_ss rfl (rd_ss rfl (rd_ss rfl (rd_ss rfl H399)))))))))))))))) (by decide)) rfl rfl ?_
  refine s_icmp (p' := 17) false rfl (by decide +kernel) rfl ?_
  refine s_aldn (p' := 18) rfl rfl rfl ?_
  refine s_gf (p' := 21) rfl (rd_sn rfl (rd_sn rfl (rd_sn rfl (rd_sn rfl (rd_sn rfl (rd_sn rfl (rd_sn rfl (rd_sn rfl (rd_sn rfl (rd_sn rfl (rd_sn rfl (rd_sn rfl (rd_sn rfl (rd_sn rfl (rd_sn rfl (rd_sn rfl H0)))))))))))))))) rfl rfl ?_
  refine s_ildn (p' := 22) rfl rfl rfl ?_
  refine s_ialz (p' := 23) (m := 1) (v := (nI 0)) rfl (rd_ss rfl (rd_ss rfl (rd_ss rfl (rd_ss rfl (rd_ss rfl (rd_ss rfl (rd_ss rfl (rd_ss rfl (rd_ss rfl (rd_ss rfl (rd_ss rfl (rd_ss rfl (rd_ss rfl (rd_ss rfl (rd_ss rfl (rd_ss rfl H399)))))))))))))))) (by decide +kernel) rfl (by decide +kernel) rfl ?_
  refine s_if (p' := 26) false rfl (by decide +kernel) rfl ?_
  refine s_incz (p' := 29) (w := (nI 1)) (ls' := [_, _, _]) rfl rfl rfl (by decide +kernel) rfl rfl ?_
  refine s_incz (p' := 32) (w := (nI 2)) (ls' := [_, _, _]) rfl rfl rfl (by decide +kernel) rfl rfl ?_
  refine s_goto (p' := 8) rfl rfl ?_
  refine s_ildn (p' := 9) rfl rfl rfl ?_
  refine s_aldn (p' := 10) rfl rfl rfl ?_
  refine s_gf (p' := 13) rfl (rd_sn rfl (rd_sn rfl (rd_sn rfl (rd_sn rfl (rd_sn rfl (rd_sn rfl (rd_sn rfl (rd_sn rfl (rd_sn rfl (rd_sn rfl (rd_sn rfl (rd_sn rfl (rd_sn rfl (rd_sn rfl (rd_sn rfl (rd_sn rfl H0)))))))))))))))) rfl rfl ?_
  refine s_lenz (p' := 14) rfl (mj_rdA_is (rd_ss rfl (rd_ss rfl (rd_ss rfl (rd_ss rfl (rd_ss rfl (rd_ss rfl (rd_ss rfl (rd_ss rfl (rd_ss rfl (rd_ss rfl (rd_ss rfl (rd_ss rfl (rd_ss rfl (rd_ss rfl (rd_ss rfl (rd_ss rfl H399)))))))))))))))) (by decide)) rfl rfl ?_
  refine s_icmp (p' := 17) false rfl (by decide +kernel) rfl ?_
  refine s_aldn (p' := 18) rfl rfl rfl ?_
  refine s_gf (p' := 21) rfl (rd_sn rfl (rd_sn rfl (rd_sn rfl (rd_sn rfl (rd_sn rfl (rd_sn rfl (rd_sn rfl (rd_sn rfl (rd_sn rfl (rd_sn rfl (rd_sn rfl (rd_sn rfl (rd_sn rfl (rd_sn rfl (rd_sn rfl (rd_sn rfl H0)))))))))))))))) rfl rfl ?_
  refine s_ildn (p' := 22) rfl rfl rfl ?_
  refine s_ialz (p' := 23) (m := 2) (v := (nI 0)) rfl (rd_ss rfl (rd_ss rfl (rd_ss rfl (rd_ss rfl (rd_ss rfl (rd_ss rfl (rd_ss rfl (rd_ss rfl (rd_ss rfl (rd_ss rfl (rd_ss rfl (rd_ss rfl (rd_ss rfl (rd_ss rfl (rd_ss rfl (rd_ss rfl H399)))))))))))))))) (by decide +kernel) rfl (by decide +kernel) rfl ?_
  refine s_if (p' := 26) false rfl (by decide +kernel) rfl ?_
  refine s_incz (p' := 29) (w := (nI 2)) (ls' := [_, _, _]) rfl rfl rfl (by decide +kernel) rfl rfl ?_
  refine s_incz (p' := 32) (w := (nI 3)) (ls' := [_, _, _]) rfl rfl rfl (by decide +kernel) rfl rfl ?_
  refine s_goto (p' := 8) rfl rfl ?_
  refine s_ildn (p' := 9) rfl rfl rfl ?_
  refine s_aldn (p' := 10) rfl rfl rfl ?_
  refine s_gf (p' := 13) rfl (rd_sn rfl (rd_sn rfl (rd_sn rfl (rd_sn rfl (rd_sn rfl (rd_sn rfl (rd_sn rfl (rd_sn rfl (rd_sn rfl (rd_sn rfl (rd_sn rfl (rd_sn rfl (rd_sn rfl (rd_sn rfl (rd_sn rfl (rd_sn rfl H0)))))))))))))))) rfl rfl ?_
  refine s_lenz (p' := 14) rfl (mj_rdA_is (rd_ss rfl (rd_ss rfl (rd_ss rfl (rd_ss rfl (rd_ss rfl (rd_ss rfl (rd_ss rfl (rd_ss rfl (rd_ss rfl (rd_ss rfl (rd_ss rfl (rd_ss rfl (rd_ss rfl (rd_ss rfl (rd_ss rfl (rd_ss rfl H399)))))))))))))))) (by decide)) rfl rfl ?_
  refine s_icmp (p' := 17) false rfl (by decide +kernel) rfl ?_
  refine s_aldn (p' := 18) rfl rfl rfl ?_
  refine s_gf (p' := 21) rfl (rd_sn rfl (rd_sn rfl (rd_sn rfl (rd_sn rfl (rd_sn rfl (rd_sn rfl (rd_sn rfl (rd_sn rfl (rd_sn rfl (rd_sn rfl (rd_sn rfl (rd_sn rfl (rd_sn rfl (rd_sn rfl (rd_sn rfl (rd_sn rfl H0)))))))))))))))) rfl rfl ?_
  refine s_ildn (p' := 22) rfl rfl rfl ?_
  refine s_ialz (p' := 23) (m := 3) (v := (nI 0)) rfl (rd_ss rfl (rd_ss rfl (rd_ss rfl (rd_ss rfl (rd_ss rfl (rd_ss rfl (rd_ss rfl (rd_ss rfl (rd_ss rfl (rd_ss rfl (rd_ss rfl (rd_ss rfl (rd_ss rfl (rd_ss rfl (rd_ss rfl (rd_ss rfl H399)))))))))))))))) (by decide +kernel) rfl (by decide +kernel) rfl ?_
  refine s_if (p' := 26) false rfl (by decide +kernel) rfl ?_
  refine s_incz (p' := 29) (w := (nI 3)) (ls' := [_, _, _]) rfl rfl rfl (by decide +kernel) rfl rfl ?_
  refine s_incz (p' := 32) (w := (nI 4)) (ls' := [_, _, _]) rfl rfl rfl (by decide +kernel) rfl rfl ?_
  refine s_goto (p' := 8) rfl rfl ?_
  refine s_ildn (p' := 9) rfl rfl rfl ?_
  refine s_aldn (p' := 10) rfl rfl rfl ?_
  refine s_gf (p' := 13) rfl (rd_sn rfl (rd_sn rfl (rd_sn rfl (rd_sn rfl (rd_sn rfl (rd_sn rfl (rd_sn rfl (rd_sn rfl (rd_sn rfl (rd_sn rfl (rd_sn rfl (rd_sn rfl (rd_sn rfl (rd_sn rfl (rd_sn rfl (rd_sn rfl H0)))))))))))))))) rfl rfl ?_
  refine s_lenz (p' := 14) rfl (mj_rdA_is (rd_ss rfl (rd_ss rfl (rd_ss rfl (rd_ss rfl (rd_ss rfl (rd_ss rfl (rd_ss rfl (rd_ss rfl (rd_ss rfl (rd_ss rfl (rd_ss rfl (rd_ss rfl (rd_ss rfl (rd_ss rfl (rd_ss rfl (rd_ss rfl H399)))))))))))))))) (by decide)) rfl rfl ?_
  refine s_icmp (p' := 17) false rfl (by decide +kernel) rfl ?_
  refine s_aldn (p' := 18) rfl rfl rfl ?_
  refine s_gf (p' := 21) rfl (rd_sn rfl (rd_sn rfl (rd_sn rfl (rd_sn rfl (rd_sn rfl (rd_sn rfl (rd_sn rfl (rd_sn rfl (rd_sn rfl (rd_sn rfl (rd_sn rfl (rd_sn rfl (rd_sn rfl (rd_sn rfl (rd_sn rfl (rd_sn rfl H0)))))))))))))))) rfl rfl ?_
  refine s_ildn (p' := 22) rfl rfl rfl ?_
  refine s_ialz (p' := 23) (m := 4) (v := (nI 0)) rfl (rd_ss rfl (rd_ss rfl (rd_ss rfl (rd_ss rfl (rd_ss rfl (rd_ss rfl (rd_ss rfl (rd_ss rfl (rd_ss rfl (rd_ss rfl (rd_ss rfl (rd_ss rfl (rd_ss rfl (rd_ss rfl (rd_ss rfl (rd_ss rfl H399)))))))))))))))) (by decide +kernel) rfl (by decide +kernel) rfl ?_
  refine s_if (p' := 26) false rfl (by decide +kernel) rfl ?_
  refine s_incz (p' := 29) (w := (nI 4)) (ls' := [_, _, _]) rfl rfl rfl (by decide +kernel) rfl rfl ?_
  refine s_incz (p' := 32) (w := (nI 5)) (ls' := [_, _, _]) rfl rfl rfl (by decide +kernel) rfl rfl ?_
  refine s_goto (p' := 8) rfl rfl ?_
  refine s_ildn (p' := 9) rfl rfl rfl ?_
  refine s_aldn (p' := 10) rfl rfl rfl ?_
  refine s_gf (p' := 13) rfl (rd_sn rfl (rd_sn rfl (rd_sn rfl (rd_sn rfl (rd_sn rfl (rd_sn rfl (rd_sn rfl (rd_sn rfl (rd_sn rfl (rd_sn rfl (rd_sn rfl (rd_sn rfl (rd_sn rfl (rd_sn rfl (rd_sn rfl (rd_sn rfl H0)))))))))))))))) rfl rfl ?_
  refine s_lenz (p' := 14) rfl (mj_rdA_is (rd_ss rfl (rd_ss rfl (rd_ss rfl (rd_ss rfl (rd_ss rfl (rd_ss rfl (rd_ss rfl (rd_ss rfl (rd_ss rfl (rd_ss rfl (rd_ss rfl (rd_ss rfl (rd_ss rfl (rd_ss rfl (rd_ss rfl (rd_ss rfl H399)))))))))))))))) (by decide)) rfl rfl ?_
  refine s_icmp (p' := 17) false rfl (by decide +kernel) rfl ?_
  refine s_aldn (p' := 18) rfl rfl rfl ?_
  refine s_gf (p' := 21) rfl (rd_sn rfl (rd_sn rfl (rd_sn rfl (rd_sn rfl (rd_sn rfl (rd_sn rfl (rd_sn rfl (rd_sn rfl (rd_sn rfl (rd_sn rfl (rd_sn rfl (rd_sn rfl (rd_sn rfl (rd_sn rfl (rd_sn rfl (rd_sn rfl H0)))))))))))))))) rfl rfl ?_
  refine s_ildn (p' := 22) rfl rfl rfl ?_
  refine s_ialz (p' := 23) (m := 5) (v := (nI 0)) rfl (rd_ss rfl (rd_ss rfl (rd_ss rfl (rd_ss rfl (rd_ss rfl (rd_ss rfl (rd_ss rfl (rd_ss rfl (rd_ss rfl (rd_ss rfl (rd_ss rfl (rd_ss rfl (rd_ss rfl (rd_ss rfl (rd_ss rfl (rd_ss rfl H399)))))))))))))))) (by decide +kernel) rfl (by decide +kernel) rfl ?_
  refine s_if (p' := 26) false rfl (by decide +kernel) rfl ?_
  refine s_incz (p' := 29) (w := (nI 5)) (ls' := [_, _, _]) rfl rfl rfl (by decide +kernel) rfl rfl ?_
  refine s_incz (p' := 32) (w := (nI 6)) (ls' := [_, _, _]) rfl rfl rfl (by decide +kernel) rfl rfl ?_
  refine s_goto (p' := 8) rfl rfl ?_
  refine s_ildn (p' := 9) rfl rfl rfl ?_
  refine s_aldn (p' := 10) rfl rfl rfl ?_
  refine s_gf (p' := 13) rfl (rd_sn rfl (rd_sn rfl (rd_sn rfl (rd_sn rfl (rd_sn rfl (rd_sn rfl (rd_sn rfl (rd_sn rfl (rd_sn rfl (rd_sn rfl (rd_sn rfl (rd_sn rfl (rd_sn rfl (rd_sn rfl (rd_sn rfl (rd_sn rfl H0)))))))))))))))) rfl rfl ?_
  refine s_lenz (p' := 14) rfl (mj_rdA_is (rd_ss rfl (rd_ss rfl (rd_ss rfl (rd_ss rfl (rd_ss rfl (rd_ss rfl (rd_ss rfl (rd_ss rfl (rd_ss rfl (rd_ss rfl (rd_ss rfl (rd_ss rfl (rd_ss rfl (rd_ss rfl (rd_ss rfl (rd_ss rfl H399)))))))))))))))) (by decide)) rfl rfl ?_
  refine s_icmp (p' := 17) false rfl (by decide +kernel) rfl ?_
  refine s_aldn (p' := 18) rfl rfl rfl ?_
  refine s_gf (p' := 21) rfl (rd_sn rfl (rd_sn rfl (rd_sn rfl (rd_sn rfl (rd_sn rfl (rd_sn rfl (rd_sn rfl (rd_sn rfl (rd_sn rfl (rd_sn rfl (rd_sn rfl (rd_sn rfl (rd_sn rfl (rd_sn rfl (rd_sn rfl (rd_sn rfl H0)))))))))))))))) rfl rfl ?_
  refine s_ildn (p' := 22) rfl rfl rfl ?_
  refine s_ialz (p' := 23) (m := 6) (v := (nI 0)) rfl (rd_ss rfl (rd_ss rfl (rd_ss rfl (rd_ss rfl (rd_ss rfl (rd_ss rfl (rd_ss rfl (rd_ss rfl (rd_ss rfl (rd_ss rfl (rd_ss rfl (rd_ss rfl (rd_ss rfl (rd_ss rfl (rd_ss rfl (rd_ss rfl H399)))))))))))))))) (by decide +kernel) rfl (by decide +kernel) rfl ?_
  refine s_if (p' := 26) false rfl (by decide +kernel) rfl ?_
  refine s_incz (p' := 29) (w := (nI 6)) (ls' := [_, _, _]) rfl rfl rfl (by decide +kernel) rfl rfl ?_
  refine s_incz (p' := 32) (w := (nI 7)) (ls' := [_, _, _]) rfl rfl rfl (by decide +kernel) rfl rfl ?_
  refine s_goto (p' := 8) rfl rfl ?_
  refine s_ildn (p' := 9) rfl rfl rfl ?_
  refine s_aldn (p' := 10) rfl rfl rfl ?_
  refine s_gf (p' := 13) rfl (rd_sn rfl (rd_sn rfl (rd_sn rfl (rd_sn rfl (rd_sn rfl (rd_sn rfl (rd_sn rfl (rd_sn rfl (rd_sn rfl (rd_sn rfl (rd_sn rfl (rd_sn rfl (rd_sn rfl (rd_sn rfl (rd_sn rfl (rd_sn rfl H0)))))))))))))))) rfl rfl ?_
  refine s_lenz (p' := 14) rfl (mj_rdA_is (rd_ss rfl (rd_ss rfl (rd_ss rfl (rd_ss rfl (rd_ss rfl (rd_ss rfl (rd_ss rfl (rd_ss rfl (rd_ss rfl (rd_ss rfl (rd_ss rfl (rd_ss rfl (rd_ss rfl (rd_ss rfl (rd_ss rfl (rd_ss rfl H399)))))))))))))))) (by decide)) rfl rfl ?_
  refine s_icmp (p' := 17) false rfl (by decide +kernel) rfl ?_
  refine s_aldn (p' := 18) rfl rfl rfl ?_
  refine s_gf (p' := 21) rfl (rd_sn rfl (rd_sn rfl (rd_sn rfl (rd_sn rfl (rd_sn rfl (rd_sn rfl (rd_sn rfl (rd_sn rfl (rd_sn rfl (rd_sn rfl (rd_sn rfl (rd_sn rfl (rd_sn rfl (rd_sn rfl (rd_sn rfl (rd_sn rfl H0)))))))))))))))) rfl rfl ?_
  refine s_ildn (p' := 22) rfl rfl rfl ?_
  refine s_ialz (p' := 23) (m := 7) (v := (nI 0)) rfl (rd_ss rfl (rd_ss rfl (rd_ss rfl (rd_ss rfl (rd_ss rfl (rd_ss rfl (rd_ss rfl (rd_ss rfl (rd_ss rfl (rd_ss rfl (rd_ss rfl (rd_ss rfl (rd_ss rfl (rd_ss rfl (rd_ss rfl (rd_ss rfl H399)))))))))))))))) (by decide +kernel) rfl (by decide +kernel) rfl ?_
  refine s_if (p' := 26) false rfl (by decide +kernel) rfl ?_
  refine s_incz (p' := 29) (w := (nI 7)) (ls' := [_, _, _]) rfl rfl rfl (by decide +kernel) rfl rfl ?_
  refine s_incz (p' := 32) (w := (nI 8)) (ls' := [_, _, _]) rfl rfl rfl (by decide +kernel) rfl rfl ?_
  refine s_goto (p' := 8) rfl rfl ?_
  refine s_ildn (p' := 9) rfl rfl rfl ?_
  refine s_aldn (p' := 10) rfl rfl rfl ?_
  refine s_gf (p' := 13) rfl (rd_sn rfl (rd_sn rfl (rd_sn rfl (rd_sn rfl (rd_sn rfl (rd_sn rfl (rd_sn rfl (rd_sn rfl (rd_sn rfl (rd_sn rfl (rd_sn rfl (rd_sn rfl (rd_sn rfl (rd_sn rfl (rd_sn rfl (rd_sn rfl H0)))))))))))))))) rfl rfl ?_
  refine s_lenz (p' := 14) rfl (mj_rdA_is (rd_ss rfl (rd_ss rfl (rd_ss rfl (rd_ss rfl (rd_ss rfl (rd_ss rfl (rd_ss rfl (rd_ss rfl (rd_ss rfl (rd_ss rfl (rd_ss rfl (rd_ss rfl (rd_ss rfl (rd_ss rfl (rd_ss rfl (rd_ss rfl H399)))))))))))))))) (by decide)) rfl rfl ?_
  refine s_icmp (p' := 35) true rfl (by decide +kernel) rfl ?_
  refine s_ildn (p' := 36) rfl rfl rfl ?_
  refine s_bzF (p' := 37) (z := (UInt32.ofNat 1088421888)) rfl rfl rfl (by decide +kernel) ?_
  refine s_sh (p' := 40) (ls' := _) (st' := .float (UInt32.ofNat 1090519040) :: _) (h' := _) rfl rfl rfl rfl ?_
  refine s_fdivz (p' := 41) (z := (UInt32.ofNat 1063256064)) rfl (by decide +kernel) (by decide +kernel) rfl ?_
  refine k_fret rfl ?_
  refine l_f2dz (p' := 2274) (z := (UInt64.ofNat 4606056518893174784)) rfl rfl (by decide +kernel) (by decide +kernel) rfl ?_
  refine l_sp (p' := 2276) (ls' := [_, _, _, _, _, _, _, _, _, _]) rfl rfl rfl rfl rfl ?_
  refine l_aldn (p' := 2277) rfl rfl rfl rfl ?_
  refine l_call (p' := 2280) (kc := 99) (ls0 := [_, _, _]) rfl rfl rfl rfl rfl rfl (mj_rcv_is (rd_sn rfl (rd_sn rfl (rd_sn rfl (rd_sn rfl (rd_sn rfl (rd_sn rfl (rd_sn rfl (rd_sn rfl (rd_sn rfl (rd_sn rfl (rd_sn rfl (rd_sn rfl (rd_sn rfl (rd_sn rfl (rd_sn rfl (rd_sn rfl H400))))))))))))))))) rfl rfl rfl ?_
  refine s_aldn (p' := 1) rfl rfl rfl ?_
  refine s_con (p' := 2) rfl rfl ?_
  refine s_pfz (p' := 5) (fs' := [_, _, _, _, _, _, _, _, _, _, _]) rfl rfl (rd_sn rfl (rd_sn rfl (rd_sn rfl (rd_sn rfl (rd_sn rfl (rd_sn rfl (rd_sn rfl (rd_sn rfl (rd_sn rfl (rd_sn rfl (rd_sn rfl (rd_sn rfl (rd_sn rfl (rd_sn rfl (rd_sn rfl (rd_sn rfl H400)))))))))))))))) rfl rfl rfl rfl ?_
  refine s_con (p' := 6) rfl rfl ?_
  refine s_istn (p' := 7) (ls' := [_, _, _]) rfl rfl rfl rfl ?_
  refine s_con (p' := 8) rfl rfl ?_
  refine s_istn (p' := 9) (ls' := [_, _, _]) rfl rfl rfl rfl ?_
  refine s_ildn (p' := 10) rfl rfl rfl ?_
  refine s_bip (p' := 12) rfl rfl ?_
  refine s_icmp (p' := 15) false rfl (by decide +kernel) rfl ?_
  refine s_ildn (p' := 16) rfl rfl rfl ?_
  refine s_aldn (p' := 17) rfl rfl rfl ?_
  refine s_ildn (p' := 18) rfl rfl rfl ?_
  refine c_call (p' := 21) (kc := 98) (ls0 := [_, _, _, _, _, _, _]) rfl rfl rfl rfl rfl (mj_rcv_is (rd_ss rfl (rd_sn rfl (rd_sn rfl (rd_sn rfl (rd_sn rfl (rd_sn rfl (rd_sn rfl (rd_sn rfl (rd_sn rfl (rd_sn rfl (rd_sn rfl (rd_sn rfl (rd_sn rfl (rd_sn rfl (rd_sn rfl (rd_sn rfl (rd_sn rfl H400)))))))))))))))))) rfl rfl rfl ?_
  refine s_con (p' := 1) rfl rfl ?_
  refine s_istn (p' := 2) (ls' := [_, _, _, _, _, _, _]) rfl rfl rfl rfl ?_
  refine s_aldn (p' := 3) rfl rfl rfl ?_
  refine s_gf (p' := 6) rfl (rd_ss rfl (rd_sn rfl (rd_sn rfl (rd_sn rfl (rd_sn rfl (rd_sn rfl (rd_sn rfl (rd_sn rfl (rd_sn rfl (rd_sn rfl (rd_sn rfl (rd_sn rfl (rd_sn rfl (rd_sn rfl (rd_sn rfl (rd_sn rfl (rd_sn rfl H400))))))))))))))))) rfl rfl ?_
  refine s_astn (p' := 7) (ls' := [_, _, _, _, _, _, _]) rfl rfl rfl rfl ?_
  refine s_aldn (p' := 8) rfl rfl rfl ?_
  refine s_lenz (p' := 9) rfl (mj_rdA_is (rd_sn rfl (rd_sn rfl (rd_sn rfl (rd_sn rfl (rd_sn rfl (rd_sn rfl (rd_sn rfl (rd_sn rfl (rd_sn rfl (rd_sn rfl (rd_sn rfl (rd_sn rfl (rd_sn rfl (rd_sn rfl (rd_sn rfl (rd_sn rfl (rd_sn rfl H411))))))))))))))))) (by decide)) rfl rfl ?_
  refine s_ist (p' := 11) (ls' := [_, _, _, _, _, _, _]) rfl rfl rfl rfl ?_
  refine s_con (p' := 12) rfl rfl ?_
  refine s_ist (p' := 14) (ls' := [_, _, _, _, _, _, _]) rfl rfl rfl rfl ?_
  refine s_ild (p' := 16) rfl rfl rfl ?_
  refine s_ild (p' := 18) rfl rfl rfl ?_
  refine s_icmp (p' := 21) false rfl (by decide +kernel) rfl ?_
  refine s_aldn (p' := 22) rfl rfl rfl ?_
  refine s_ild (p' := 24) rfl rfl rfl ?_
  refine s_ialz (p' := 25) (m := 0) (v := (nI 0)) rfl (rd_sn rfl (rd_sn rfl (rd_sn rfl (rd_sn rfl (rd_sn rfl (rd_sn rfl (rd_sn rfl (rd_sn rfl (rd_sn rfl (rd_sn rfl (rd_sn rfl (rd_sn rfl (rd_sn rfl (rd_sn rfl (rd_sn rfl (rd_sn rfl (rd_sn rfl H411))))))))))))))))) (by decide +kernel) rfl (by decide +kernel) rfl ?_
  refine s_ist (p' := 27) (ls' := [_, _, _, _, _, _, _]) rfl rfl rfl rfl ?_
  refine s_ildn (p' := 28) rfl rfl rfl ?_
  refine s_ild (p' := 30) rfl rfl rfl ?_
  refine s_ildn (p' := 31) rfl rfl rfl ?_
  refine s_icmp (p' := 34) false rfl (by decide +kernel) rfl ?_
  refine s_con (p' := 35) rfl rfl ?_
  refine s_goto (p' := 39) rfl rfl ?_
  refine s_bz (p' := 40) (z := (nI 1)) rfl rfl rfl (by decide +kernel) ?_
  refine s_istn (p' := 41) (ls' := [_, _, _, _, _, _, _]) rfl rfl rfl rfl ?_
  refine s_incz (p' := 44) (w := (nI 1)) (ls' := [_, _, _, _, _, _, _]) rfl rfl rfl (by decide +kernel) rfl rfl ?_
  refine s_goto (p' := 14) rfl rfl ?_
  refine s_ild (p' := 16) rfl rfl rfl ?_
  refine s_ild (p' := 18) rfl rfl rfl ?_
  refine s_icmp (p' := 21) false rfl (by decide +kernel) rfl ?_
  refine s_aldn (p' := 22) rfl rfl rfl ?_
  refine s_ild (p' := 24) rfl rfl rfl ?_
  refine s_ialz (p' := 25) (m := 1) (v := (nI 0)) rfl (rd_sn rfl (rd_sn rfl (rd_sn rfl (rd_sn rfl (rd_sn rfl (rd_sn rfl (rd_sn rfl (rd_sn rfl (rd_sn rfl (rd_sn rfl (rd_sn rfl (rd_sn rfl (rd_sn rfl (rd_sn rfl (rd_sn rfl (rd_sn rfl (rd_sn rfl H411))))))))))))))))) (by decide +kernel) rfl (by decide +kernel) rfl ?_
  refine s_ist (p' := 27) (ls' := [_, _, _, _, _, _, _]) rfl rfl rfl rfl ?_
  refine s_ildn (p' := 28) rfl rfl rfl ?_
  refine s_ild (p' := 30) rfl rfl rfl ?_
  refine s_ildn (p' := 31) rfl rfl rfl ?_
  refine s_icmp (p' := 34) false rfl (by decide +kernel) rfl ?_
  refine s_con (p' := 35) rfl rfl ?_
  refine s_goto (p' := 39) rfl rfl ?_
  refine s_bz (p' := 40) (z := (nI 2)) rfl rfl rfl (by decide +kernel) ?_
  refine s_istn (p' := 41) (ls' := [_, _, _, _, _, _, _]) rfl rfl rfl rfl ?_
  refine s_incz (p' := 44) (w := (nI 2)) (ls' := [_, _, _, _, _, _, _]) rfl rfl rfl (by decide +kernel) rfl rfl ?_
  refine s_goto (p' := 14) rfl rfl ?_
  refine s_ild (p' := 16) rfl rfl rfl ?_
  refine s_ild (p' := 18) rfl rfl rfl ?_
  refine s_icmp (p' := 21) false rfl (by decide +kernel) rfl ?_
  refine s_aldn (p' := 22) rfl rfl rfl ?_
  refine s_ild (p' := 24) rfl rfl rfl ?_
  refine s_ialz (p' := 25) (m := 2) (v := (nI 0)) rfl (rd_sn rfl (rd_sn rfl (rd_sn rfl (rd_sn rfl (rd_sn rfl (rd_sn rfl (rd_sn rfl (rd_sn rfl (rd_sn rfl (rd_sn rfl (rd_sn rfl (rd_sn rfl (rd_sn rfl (rd_sn rfl (rd_sn rfl (rd_sn rfl (rd_sn rfl H411))))))))))))))))) (by decide +kernel) rfl (by decide +kernel) rfl ?_
  refine s_ist (p' := 27) (ls' := [_, _, _, _, _, _, _]) rfl rfl rfl rfl ?_
  refine s_ildn (p' := 28) rfl rfl rfl ?_
  refine s_ild (p' := 30) rfl rfl rfl ?_
  refine s_ildn (p' := 31) rfl rfl rfl ?_
  refine s_icmp (p' := 34) false rfl (by decide +kernel) rfl ?_
  refine s_con (p' := 35) rfl rfl ?_
  refine s_goto (p' := 39) rfl rfl ?_
  refine s_bz (p' := 40) (z := (nI 3)) rfl rfl rfl (by decide +kernel) ?_
  refine s_istn (p' := 41) (ls' := [_, _, _, _, _, _, _]) rfl rfl rfl rfl ?_
  refine s_incz (p' := 44) (w := (nI 3)) (ls' := [_, _, _, _, _, _, _]) rfl rfl rfl (by decide +kernel) rfl rfl ?_
  refine s_goto (p' := 14) rfl rfl ?_
  refine s_ild (p' := 16) rfl rfl rfl ?_
  refine s_ild (p' := 18) rfl rfl rfl ?_
  refine s_icmp (p' := 21) false rfl (by decide +kernel) rfl ?_
  refine s_aldn (p' := 22) rfl rfl rfl ?_
  refine s_ild (p' := 24) rfl rfl rfl ?_
  refine s_ialz (p' := 25) (m := 3) (v := (nI 0)) rfl (rd_sn rfl (rd_sn rfl (rd_sn rfl (rd_sn rfl (rd_sn rfl (rd_sn rfl (rd_sn rfl (rd_sn rfl (rd_sn rfl (rd_sn rfl (rd_sn rfl (rd_sn rfl (rd_sn rfl (rd_sn rfl (rd_sn rfl (rd_sn rfl (rd_sn rfl H411))))))))))))))))) (by decide +kernel) rfl (by decide +kernel) rfl ?_
  refine s_ist (p' := 27) (ls' := [_, _, _, _, _, _, _]) rfl rfl rfl rfl ?_
  refine s_ildn (p' := 28) rfl rfl rfl ?_
  refine s_ild (p' := 30) rfl rfl rfl ?_
  refine s_ildn (p' := 31) rfl rfl rfl ?_
  refine s_icmp (p' := 34) false rfl (by decide +kernel) rfl ?_
  refine s_con (p' := 35) rfl rfl ?_
  refine s_goto (p' := 39) rfl rfl ?_
  refine s_bz (p' := 40) (z := (nI 4)) rfl rfl rfl (by decide +kernel) ?_
  refine s_istn (p' := 41) (ls' := [_, _, _, _, _, _, _]) rfl rfl rfl rfl ?_
  refine s_incz (p' := 44) (w := (nI 4)) (ls' := [_, _, _, _, _, _, _]) rfl rfl rfl (by decide +kernel) rfl rfl ?_
  refine s_goto (p' := 14) rfl rfl ?_
  refine s_ild (p' := 16) rfl rfl rfl ?_
  refine s_ild (p' := 18) rfl rfl rfl ?_
  refine s_icmp (p' := 21) false rfl (by decide +kernel) rfl ?_
  refine s_aldn (p' := 22) rfl rfl rfl ?_
  refine s_ild (p' := 24) rfl rfl rfl ?_
  refine s_ialz (p' := 25) (m := 4) (v := (nI 0)) rfl (rd_sn rfl (rd_sn rfl (rd_sn rfl (rd_sn rfl (rd_sn rfl (rd_sn rfl (rd_sn rfl (rd_sn rfl (rd_sn rfl (rd_sn rfl (rd_sn rfl (rd_sn rfl (rd_sn rfl (rd_sn rfl (rd_sn rfl (rd_sn rfl (rd_sn rfl H411))))))))))))))))) (by decide +kernel) rfl (by decide +kernel) rfl ?_
  refine s_ist (p' := 27) (ls' := [_, _, _, _, _, _, _]) rfl rfl rfl rfl ?_
  refine s_ildn (p' := 28) rfl rfl rfl ?_
  refine s_ild (p' := 30) rfl rfl rfl ?_
  refine s_ildn (p' := 31) rfl rfl rfl ?_
  refine s_icmp (p' := 34) false rfl (by decide +kernel) rfl ?_
  refine s_con (p' := 35) rfl rfl ?_
  refine s_goto (p' := 39) rfl rfl ?_
  refine s_bz (p' := 40) (z := (nI 5)) rfl rfl rfl (by decide +kernel) ?_
  refine s_istn (p' := 41) (ls' := [_, _, _, _, _, _, _]) rfl rfl rfl rfl ?_
  refine s_incz (p' := 44) (w := (nI 5)) (ls' := [_, _, _, _, _, _, _]) rfl rfl rfl (by decide +kernel) rfl rfl ?_
  refine s_goto (p' := 14) rfl rfl ?_
  refine s_ild (p' := 16) rfl rfl rfl ?_
  refine s_ild (p' := 18) rfl rfl rfl ?_
  refine s_icmp (p' := 21) false rfl (by decide +kernel) rfl ?_
  refine s_aldn (p' := 22) rfl rfl rfl ?_
  refine s_ild (p' := 24) rfl rfl rfl ?_
  refine s_ialz (p' := 25) (m := 5) (v := (nI 0)) rfl (rd_sn rfl (rd_sn rfl (rd_sn rfl (rd_sn rfl (rd_sn rfl (rd_sn rfl (rd_sn rfl (rd_sn rfl (rd_sn rfl (rd_sn rfl (rd_sn rfl (rd_sn rfl (rd_sn rfl (rd_sn rfl (rd_sn rfl (rd_sn rfl (rd_sn rfl H411))))))))))))))))) (by decide +kernel) rfl (by decide +kernel) rfl ?_
  refine s_ist (p' := 27) (ls' := [_, _, _, _, _, _, _]) rfl rfl rfl rfl ?_
  refine s_ildn (p' := 28) rfl rfl rfl ?_
  refine s_ild (p' := 30) rfl rfl rfl ?_
  refine s_ildn (p' := 31) rfl rfl rfl ?_
  refine s_icmp (p' := 34) false rfl (by decide +kernel) rfl ?_
  refine s_con (p' := 35) rfl rfl ?_
  refine s_goto (p' := 39) rfl rfl ?_
  refine s_bz (p' := 40) (z := (nI 6)) rfl rfl rfl (by decide +kernel) ?_
  refine s_istn (p' := 41) (ls' := [_, _, _, _, _, _, _]) rfl rfl rfl rfl ?_
  refine s_incz (p' := 44) (w := (nI 6)) (ls' := [_, _, _, _, _, _, _]) rfl rfl rfl (by decide +kernel) rfl rfl ?_
  refine s_goto (p' := 14) rfl rfl ?_
  refine s_ild (p' := 16) rfl rfl rfl ?_
  refine s_ild (p' := 18) rfl rfl rfl ?_
  refine s_icmp (p' := 21) false rfl (by decide +kernel) rfl ?_
  refine s_aldn (p' := 22) rfl rfl rfl ?_
  refine s_ild (p' := 24) rfl rfl rfl ?_
  refine s_ialz (p' := 25) (m := 6) (v := (nI 0)) rfl (rd_sn rfl (rd_sn rfl (rd_sn rfl (rd_sn rfl (rd_sn rfl (rd_sn rfl (rd_sn rfl (rd_sn rfl (rd_sn rfl (rd_sn rfl (rd_sn rfl (rd_sn rfl (rd_sn rfl (rd_sn rfl (rd_sn rfl (rd_sn rfl (rd_sn rfl H411))))))))))))))))) (by decide +kernel) rfl (by decide +kernel) rfl ?_
  refine s_ist (p' := 27) (ls' := [_, _, _, _, _, _, _]) rfl rfl rfl rfl ?_
  refine s_ildn (p' := 28) rfl rfl rfl ?_
  refine s_ild (p' := 30) rfl rfl rfl ?_
  refine s_ildn (p' := 31) rfl rfl rfl ?_
  refine s_icmp (p' := 34) false rfl (by decide +kernel) rfl ?_
  refine s_con (p' := 35) rfl rfl ?_
  refine s_goto (p' := 39) rfl rfl ?_
  refine s_bz (p' := 40) (z := (nI 7)) rfl rfl rfl (by decide +kernel) ?_
  refine s_istn (p' := 41) (ls' := [_, _, _, _, _, _, _]) rfl rfl rfl rfl ?_
  refine s_incz (p' := 44) (w := (nI 7)) (ls' := [_, _, _, _, _, _, _]) rfl rfl rfl (by decide +kernel) rfl rfl ?_
  refine s_goto (p' := 14) rfl rfl ?_
  refine s_ild (p' := 16) rfl rfl rfl ?_
  refine s_ild (p' := 18) rfl rfl rfl ?_
  refine s_icmp (p' := 21) false rfl (by decide +kernel) rfl ?_
  refine s_aldn (p' := 22) rfl rfl rfl ?_
  refine s_ild (p' := 24) rfl rfl rfl ?_
  refine s_ialz (p' := 25) (m := 7) (v := (nI 0)) rfl (rd_sn rfl (rd_sn rfl (rd_sn rfl (rd_sn rfl (rd_sn rfl (rd_sn rfl (rd_sn rfl (rd_sn rfl (rd_sn rfl (rd_sn rfl (rd_sn rfl (rd_sn rfl (rd_sn rfl (rd_sn rfl (rd_sn rfl (rd_sn rfl (rd_sn rfl H411))))))))))))))))) (by decide +kernel) rfl (by decide +kernel) rfl ?_
  refine s_ist (p' := 27) (ls' := [_, _, _, _, _, _, _]) rfl rfl rfl rfl ?_
  refine s_ildn (p' := 28) rfl rfl rfl ?_
  refine s_ild (p' := 30) rfl rfl rfl ?_
  refine s_ildn (p' := 31) rfl rfl rfl ?_
  refine s_icmp (p' := 34) false rfl (by decide +kernel) rfl ?_
  refine s_con (p' := 35) rfl rfl ?_
  refine s_goto (p' := 39) rfl rfl ?_
  refine s_bz (p' := 40) (z := (nI 8)) rfl rfl rfl (by decide +kernel) ?_
  refine s_istn (p' := 41) (ls' := [_, _, _, _, _, _, _]) rfl rfl rfl rfl ?_
  refine s_incz (p' := 44) (w := (nI 8)) (ls' := [_, _, _, _, _, _, _]) rfl rfl rfl (by decide +kernel) rfl rfl ?_
  refine s_goto (p' := 14) rfl rfl ?_
  refine s_ild (p' := 16) rfl rfl rfl ?_
  refine s_ild (p' := 18) rfl rfl rfl ?_
  refine s_icmp (p' := 47) true rfl (by decide +kernel) rfl ?_
  refine s_ildn (p' := 48) rfl rfl rfl ?_
  refine c_iret rfl rfl ?_
  refine s_if (p' := 28) true rfl (by decide +kernel) rfl ?_
  refine s_con (p' := 29) rfl rfl ?_
  refine s_bz (p' := 30) (z := (nI 0)) rfl rfl rfl (by decide +kernel) ?_
  refine s_istn (p' := 31) (ls' := [_, _, _]) rfl rfl rfl rfl ?_
  refine s_incz (p' := 34) (w := (nI 1)) (ls' := [_, _, _]) rfl rfl rfl (by decide +kernel) rfl rfl ?_
  refine s_goto (p' := 9) rfl rfl ?_
  refine s_ildn (p' := 10) rfl rfl rfl ?_
  refine s_bip (p' := 12) rfl rfl ?_
  refine s_icmp (p' := 15) false rfl (by decide +kernel) rfl ?_
  refine s_ildn (p' := 16) rfl rfl rfl ?_
  refine s_aldn (p' := 17) rfl rfl rfl ?_
  refine s_ildn (p' := 18) rfl rfl rfl ?_
  refine c_call (p' := 21) (kc := 98) (ls0 := [_, _, _, _, _, _, _]) rfl rfl rfl rfl rfl (mj_rcv_is (rd_ss rfl (rd_sn rfl (rd_sn rfl (rd_sn rfl (rd_sn rfl (rd_sn rfl (rd_sn rfl (rd_sn rfl (rd_sn rfl (rd_sn rfl (rd_sn rfl (rd_sn rfl (rd_sn rfl (rd_sn rfl (rd_sn rfl (rd_sn rfl (rd_sn rfl H400)))))))))))))))))) rfl rfl rfl ?_
  refine s_con (p' := 1) rfl rfl ?_
  refine s_istn (p' := 2) (ls' := [_, _, _, _, _, _, _]) rfl rfl rfl rfl ?_
  refine s_aldn (p' := 3) rfl rfl rfl ?_
  refine s_gf (p' := 6) rfl (rd_ss rfl (rd_sn rfl (rd_sn rfl (rd_sn rfl (rd_sn rfl (rd_sn rfl (rd_sn rfl (rd_sn rfl (rd_sn rfl (rd_sn rfl (rd_sn rfl (rd_sn rfl (rd_sn rfl (rd_sn rfl (rd_sn rfl (rd_sn rfl (rd_sn rfl H400))))))))))))))))) rfl rfl ?_
  refine s_astn (p' := 7) (ls' := [_, _, _, _, _, _, _]) rfl rfl rfl rfl ?_
  refine s_aldn (p' := 8) rfl rfl rfl ?_
  refine s_lenz (p' := 9) rfl (mj_rdA_is (rd_sn rfl (rd_sn rfl (rd_sn rfl (rd_sn rfl (rd_sn rfl (rd_sn rfl (rd_sn rfl (rd_sn rfl (rd_sn rfl (rd_sn rfl (rd_sn rfl (rd_sn rfl (rd_sn rfl (rd_sn rfl (rd_sn rfl (rd_sn rfl (rd_sn rfl H411))))))))))))))))) (by decide)) rfl rfl ?_
  refine s_ist (p' := 11) (ls' := [_, _, _, _, _, _, _]) rfl rfl rfl rfl ?_
  refine s_con (p' := 12) rfl rfl ?_
  refine s_ist (p' := 14) (ls' := [_, _, _, _, _, _, _]) rfl rfl rfl rfl ?_
  refine s_ild (p' := 16) rfl rfl rfl ?_
  refine s_ild (p' := 18) rfl rfl rfl ?_
  refine s_icmp (p' := 21) false rfl (by decide +kernel) rfl ?_
  refine s_aldn (p' := 22) rfl rfl rfl ?_
  refine s_ild (p' := 24) rfl rfl rfl ?_
  refine s_ialz (p' := 25) (m := 0) (v := (nI 0)) rfl (rd_sn rfl (rd_sn rfl (rd_sn rfl (rd_sn rfl (rd_sn rfl (rd_sn rfl (rd_sn rfl (rd_sn rfl (rd_sn rfl (rd_sn rfl (rd_sn rfl (rd_sn rfl (rd_sn rfl (rd_sn rfl (rd_sn rfl (rd_sn rfl (rd_sn rfl H411))))))))))))))))) (by decide +kernel) rfl (by decide +kernel) rfl ?_
  refine s_ist (p' := 27) (ls' := [_, _, _, _, _, _, _]) rfl rfl rfl rfl ?_
  refine s_ildn (p' := 28) rfl rfl rfl ?_
  refine s_ild (p' := 30) rfl rfl rfl ?_
  refine s_ildn (p' := 31) rfl rfl rfl ?_
  refine s_icmp (p' := 38) true rfl (by decide +kernel) rfl ?_
  refine s_con (p' := 39) rfl rfl ?_
  refine s_bz (p' := 40) (z := (nI 0)) rfl rfl rfl (by decide +kernel) ?_
  refine s_istn (p' := 41) (ls' := [_, _, _, _, _, _, _]) rfl rfl rfl rfl ?_
  refine s_incz (p' := 44) (w := (nI 1)) (ls' := [_, _, _, _, _, _, _]) rfl rfl rfl (by decide +kernel) rfl rfl ?_
  refine s_goto (p' := 14) rfl rfl ?_
  refine s_ild (p' := 16) rfl rfl rfl ?_
  refine s_ild (p' := 18) rfl rfl rfl ?_
  refine s_icmp (p' := 21) false rfl (by decide +kernel) rfl ?_
  refine s_aldn (p' := 22) rfl rfl rfl ?_
  refine s_ild (p' := 24) rfl rfl rfl ?_
  refine s_ialz (p' := 25) (m := 1) (v := (nI 0)) rfl (rd_sn rfl (rd_sn rfl (rd_sn rfl (rd_sn rfl (rd_sn rfl (rd_sn rfl (rd_sn rfl (rd_sn rfl (rd_sn rfl (rd_sn rfl (rd_sn rfl (rd_sn rfl (rd_sn rfl (rd_sn rfl (rd_sn rfl (rd_sn rfl (rd_sn rfl H411))))))))))))))))) (by decide +kernel) rfl (by decide +kernel) rfl ?_
  refine s_ist (p' := 27) (ls' := [_, _, _, _, _, _, _]) rfl rfl rfl rfl ?_
  refine s_ildn (p' := 28) rfl rfl rfl ?_
  refine s_ild (p' := 30) rfl rfl rfl ?_
  refine s_ildn (p' := 31) rfl rfl rfl ?_
  refine s_icmp (p' := 38) true rfl (by decide +kernel) rfl ?_
  refine s_con (p' := 39) rfl rfl ?_
  refine s_bz (p' := 40) (z := (nI 0)) rfl rfl rfl (by decide +kernel) ?_
  refine s_istn (p' := 41) (ls' := [_, _, _, _, _, _, _]) rfl rfl rfl rfl ?_
  refine s_incz (p' := 44) (w := (nI 2)) (ls' := [_, _, _, _, _, _, _]) rfl rfl rfl (by decide +kernel) rfl rfl ?_
  refine s_goto (p' := 14) rfl rfl ?_
  refine s_ild (p' := 16) rfl rfl rfl ?_
  refine s_ild (p' := 18) rfl rfl rfl ?_
  refine s_icmp (p' := 21) false rfl (by decide +kernel) rfl ?_
  refine s_aldn (p' := 22) rfl rfl rfl ?_
  refine s_ild (p' := 24) rfl rfl rfl ?_
  refine s_ialz (p' := 25) (m := 2) (v := (nI 0)) rfl (rd_sn rfl (rd_sn rfl (rd_sn rfl (rd_sn rfl (rd_sn rfl (rd_sn rfl (rd_sn rfl (rd_sn rfl (rd_sn rfl (rd_sn rfl (rd_sn rfl (rd_sn rfl (rd_sn rfl (rd_sn rfl (rd_sn rfl (rd_sn rfl (rd_sn rfl H411))))))))))))))))) (by decide +kernel) rfl (by decide +kernel) rfl ?_
  refine s_ist (p' := 27) (ls' := [_, _, _, _, _, _, _]) rfl rfl rfl rfl ?_
  refine s_ildn (p' := 28) rfl rfl rfl ?_
  refine s_ild (p' := 30) rfl rfl rfl ?_
  refine s_ildn (p' := 31) rfl rfl rfl ?_
  refine s_icmp (p' := 38) true rfl (by decide +kernel) rfl ?_
  refine s_con (p' := 39) rfl rfl ?_
  refine s_bz (p' := 40) (z := (nI 0)) rfl rfl rfl (by decide +kernel) ?_
  refine s_istn (p' := 41) (ls' := [_, _, _, _, _, _, _]) rfl rfl rfl rfl ?_
  refine s_incz (p' := 44) (w := (nI 3)) (ls' := [_, _, _, _, _, _, _]) rfl rfl rfl (by decide +kernel) rfl rfl ?_
  refine s_goto (p' := 14) rfl rfl ?_
  refine s_ild (p' := 16) rfl rfl rfl ?_
  refine s_ild (p' := 18) rfl rfl rfl ?_
  refine s_icmp (p' := 21) false rfl (by decide +kernel) rfl ?_
  refine s_aldn (p' := 22) rfl rfl rfl ?_
  refine s_ild (p' := 24) rfl rfl rfl ?_
  refine s_ialz (p' := 25) (m := 3) (v := (nI 0)) rfl (rd_sn rfl (rd_sn rfl (rd_sn rfl (rd_sn rfl (rd_sn rfl (rd_sn rfl (rd_sn rfl (rd_sn rfl (rd_sn rfl (rd_sn rfl (rd_sn rfl (rd_sn rfl (rd_sn rfl (rd_sn rfl (rd_sn rfl (rd_sn rfl (rd_sn rfl H411))))))))))))))))) (by decide +kernel) rfl (by decide +kernel) rfl ?_
  refine s_ist (p' := 27) (ls' := [_, _, _, _, _, _, _]) rfl rfl rfl rfl ?_
  refine s_ildn (p' := 28) rfl rfl rfl ?_
  refine s_ild (p' := 30) rfl rfl rfl ?_
  refine s_ildn (p' := 31) rfl rfl rfl ?_
  refine s_icmp (p' := 38) true rfl (by decide +kernel) rfl ?_
  refine s_con (p' := 39) rfl rfl ?_
  refine s_bz (p' := 40) (z := (nI 0)) rfl rfl rfl (by decide +kernel) ?_
  refine s_istn (p' := 41) (ls' := [_, _, _, _, _, _, _]) rfl rfl rfl rfl ?_
  refine s_incz (p' := 44) (w := (nI 4)) (ls' := [_, _, _, _, _, _, _]) rfl rfl rfl (by decide +kernel) rfl rfl ?_
  refine s_goto (p' := 14) rfl rfl ?_
  refine s_ild (p' := 16) rfl rfl rfl ?_
  refine s_ild (p' := 18) rfl rfl rfl ?_
  refine s_icmp (p' := 21) false rfl (by decide +kernel) rfl ?_
  refine s_aldn (p' := 22) rfl rfl rfl ?_
  refine s_ild (p' := 24) rfl rfl rfl ?_
  refine s_ialz (p' := 25) (m := 4) (v := (nI 0)) rfl (rd_sn rfl (rd_sn rfl (rd_sn rfl (rd_sn rfl (rd_sn rfl (rd_sn rfl (rd_sn rfl (rd_sn rfl (rd_sn rfl (rd_sn rfl (rd_sn rfl (rd_sn rfl (rd_sn rfl (rd_sn rfl (rd_sn rfl (rd_sn rfl (rd_sn rfl H411))))))))))))))))) (by decide +kernel) rfl (by decide +kernel) rfl ?_
  refine s_ist (p' := 27) (ls' := [_, _, _, _, _, _, _]) rfl rfl rfl rfl ?_
  refine s_ildn (p' := 28) rfl rfl rfl ?_
  refine s_ild (p' := 30) rfl rfl rfl ?_
  refine s_ildn (p' := 31) rfl rfl rfl ?_
  refine s_icmp (p' := 38) true rfl (by decide +kernel) rfl ?_
  refine s_con (p' := 39) rfl rfl ?_
  refine s_bz (p' := 40) (z := (nI 0)) rfl rfl rfl (by decide +kernel) ?_
  refine s_istn (p' := 41) (ls' := [_, _, _, _, _, _, _]) rfl rfl rfl rfl ?_
  refine s_incz (p' := 44) (w := (nI 5)) (ls' := [_, _, _, _, _, _, _]) rfl rfl rfl (by decide +kernel) rfl rfl ?_
  refine s_goto (p' := 14) rfl rfl ?_
  refine s_ild (p' := 16) rfl rfl rfl ?_
  refine s_ild (p' := 18) rfl rfl rfl ?_
  refine s_icmp (p' := 21) false rfl (by decide +kernel) rfl ?_
  refine s_aldn (p' := 22) rfl rfl rfl ?_
  refine s_ild (p' := 24) rfl rfl rfl ?_
  refine s_ialz (p' := 25) (m := 5) (v := (nI 0)) rfl (rd_sn rfl (rd_sn rfl (rd_sn rfl (rd_sn rfl (rd_sn rfl (rd_sn rfl (rd_sn rfl (rd_sn rfl (rd_sn rfl (rd_sn rfl (rd_sn rfl (rd_sn rfl (rd_sn rfl (rd_sn rfl (rd_sn rfl (rd_sn rfl (rd_sn rfl H411))))))))))))))))) (by decide +kernel) rfl (by decide +kernel) rfl ?_
  refine s_ist (p' := 27) (ls' := [_, _, _, _, _, _, _]) rfl rfl rfl rfl ?_
  refine s_ildn (p' := 28) rfl rfl rfl ?_
  refine s_ild (p' := 30) rfl rfl rfl ?_
  refine s_ildn (p' := 31) rfl rfl rfl ?_
  refine s_icmp (p' := 38) true rfl (by decide +kernel) rfl ?_
  refine s_con (p' := 39) rfl rfl ?_
  refine s_bz (p' := 40) (z := (nI 0)) rfl rfl rfl (by decide +kernel) ?_
  refine s_istn (p' := 41) (ls' := [_, _, _, _, _, _, _]) rfl rfl rfl rfl ?_
  refine s_incz (p' := 44) (w := (nI 6)) (ls' := [_, _, _, _, _, _, _]) rfl rfl rfl (by decide +kernel) rfl rfl ?_
  refine s_goto (p' := 14) rfl rfl ?_
  refine s_ild (p' := 16) rfl rfl rfl ?_
  refine s_ild (p' := 18) rfl rfl rfl ?_
  refine s_icmp (p' := 21) false rfl (by decide +kernel) rfl ?_
  refine s_aldn (p' := 22) rfl rfl rfl ?_
  refine s_ild (p' := 24) rfl rfl rfl ?_
  refine s_ialz (p' := 25) (m := 6) (v := (nI 0)) rfl (rd_sn rfl (rd_sn rfl (rd_sn rfl (rd_sn rfl (rd_sn rfl (rd_sn rfl (rd_sn rfl (rd_sn rfl (rd_sn rfl (rd_sn rfl (rd_sn rfl (rd_sn rfl (rd_sn rfl (rd_sn rfl (rd_sn rfl (rd_sn rfl (rd_sn rfl H411))))))))))))))))) (by decide +kernel) rfl (by decide +kernel) rfl ?_
  refine s_ist (p' := 27) (ls' := [_, _, _, _, _, _, _]) rfl rfl rfl rfl ?_
  refine s_ildn (p' := 28) rfl rfl rfl ?_
  refine s_ild (p' := 30) rfl rfl rfl ?_
  refine s_ildn (p' := 31) rfl rfl rfl ?_
  refine s_icmp (p' := 38) true rfl (by decide +kernel) rfl ?_
  refine s_con (p' := 39) rfl rfl ?_
  refine s_bz (p' := 40) (z := (nI 0)) rfl rfl rfl (by decide +kernel) ?_
  refine s_istn (p' := 41) (ls' := [_, _, _, _, _, _, _]) rfl rfl rfl rfl ?_
  refine s_incz (p' := 44) (w := (nI 7)) (ls' := [_, _, _, _, _, _, _]) rfl rfl rfl (by decide +kernel) rfl rfl ?_
  refine s_goto (p' := 14) rfl rfl ?_
  refine s_ild (p' := 16) rfl rfl rfl ?_
  refine s_ild (p' := 18) rfl rfl rfl ?_
  refine s_icmp (p' := 21) false rfl (by decide +kernel) rfl ?_
  refine s_aldn (p' := 22) rfl rfl rfl ?_
  refine s_ild (p' := 24) rfl rfl rfl ?_
  refine s_ialz (p' := 25) (m := 7) (v := (nI 0)) rfl (rd_sn rfl (rd_sn rfl (rd_sn rfl (rd_sn rfl (rd_sn rfl (rd_sn rfl (rd_sn rfl (rd_sn rfl (rd_sn rfl (rd_sn rfl (rd_sn rfl (rd_sn rfl (rd_sn rfl (rd_sn rfl (rd_sn rfl (rd_sn rfl (rd_sn rfl H411))))))))))))))))) (by decide +kernel) rfl (by decide +kernel) rfl ?_
  refine s_ist (p' := 27) (ls' := [_, _, _, _, _, _, _]) rfl rfl rfl rfl ?_
  refine s_ildn (p' := 28) rfl rfl rfl ?_
  refine s_ild (p' := 30) rfl rfl rfl ?_
  refine s_ildn (p' := 31) rfl rfl rfl ?_
  refine s_icmp (p' := 38) true rfl (by decide +kernel) rfl ?_
  refine s_con (p' := 39) rfl rfl ?_
  refine s_bz (p' := 40) (z := (nI 0)) rfl rfl rfl (by decide +kernel) ?_
  refine s_istn (p' := 41) (ls' := [_, _, _, _, _, _, _]) rfl rfl rfl rfl ?_
  refine s_incz (p' := 44) (w := (nI 8)) (ls' := [_, _, _, _, _, _, _]) rfl rfl rfl (by decide +kernel) rfl rfl ?_
  refine s_goto (p' := 14) rfl rfl ?_
  refine s_ild (p' := 16) rfl rfl rfl ?_
  refine s_ild (p' := 18) rfl rfl rfl ?_
  refine s_icmp (p' := 47) true rfl (by decide +kernel) rfl ?_
  refine s_ildn (p' := 48) rfl rfl rfl ?_
  refine c_iret rfl rfl ?_
  refine s_if (p' := 24) false rfl (by decide +kernel) rfl ?_
  refine s_con (p' := 25) rfl rfl ?_
  refine s_goto (p' := 29) rfl rfl ?_
  refine s_bz (p' := 30) (z := (nI 1)) rfl rfl rfl (by decide +kernel) ?_
  refine s_istn (p' := 31) (ls' := [_, _, _]) rfl rfl rfl rfl ?_
  refine s_incz (p' := 34) (w := (nI 2)) (ls' := [_, _, _]) rfl rfl rfl (by decide +kernel) rfl rfl ?_
  refine s_goto (p' := 9) rfl rfl ?_
  refine s_ildn (p' := 10) rfl rfl rfl ?_
  refine s_bip (p' := 12) rfl rfl ?_
  refine s_icmp (p' := 15) false rfl (by decide +kernel) rfl ?_
  refine s_ildn (p' := 16) rfl rfl rfl ?_
  refine s_aldn (p' := 17) rfl rfl rfl ?_
  refine s_ildn (p' := 18) rfl rfl rfl ?_
  refine c_call (p' := 21) (kc := 98) (ls0 := [_, _, _, _, _, _, _]) rfl rfl rfl rfl rfl (mj_rcv_is (rd_ss rfl (rd_sn rfl (rd_sn rfl (rd_sn rfl (rd_sn rfl (rd_sn rfl (rd_sn rfl (rd_sn rfl (rd_sn rfl (rd_sn rfl (rd_sn rfl (rd_sn rfl (rd_sn rfl (rd_sn rfl (rd_sn rfl (rd_sn rfl (rd_sn rfl H400)))))))))))))))))) rfl rfl rfl ?_
  refine s_con (p' := 1) rfl rfl ?_
  refine s_istn (p' := 2) (ls' := [_, _, _, _, _, _, _]) rfl rfl rfl rfl ?_
  refine s_aldn (p' := 3) rfl rfl rfl ?_
  refine s_gf (p' := 6) rfl (rd_ss rfl (rd_sn rfl (rd_sn rfl (rd_sn rfl (rd_sn rfl (rd_sn rfl (rd_sn rfl (rd_sn rfl (rd_sn rfl (rd_sn rfl (rd_sn rfl (rd_sn rfl (rd_sn rfl (rd_sn rfl (rd_sn rfl (rd_sn rfl (rd_sn rfl H400))))))))))))))))) rfl rfl ?_
  refine s_astn (p' := 7) (ls' := [_, _, _, _, _, _, _]) rfl rfl rfl rfl ?_
  refine s_aldn (p' := 8) rfl rfl rfl ?_
  refine s_lenz (p' := 9) rfl (mj_rdA_is (rd_sn rfl (rd_sn rfl (rd_sn rfl (rd_sn rfl (rd_sn rfl (rd_sn rfl (rd_sn rfl (rd_sn rfl (rd_sn rfl (rd_sn rfl (rd_sn rfl (rd_sn rfl (rd_sn rfl (rd_sn rfl (rd_sn rfl (rd_sn rfl (rd_sn rfl H411))))))))))))))))) (by decide)) rfl rfl ?_
  refine s_ist (p' := 11) (ls' := [_, _, _, _, _, _, _]) rfl rfl rfl rfl ?_
  refine s_con (p' := 12) rfl rfl ?_
  refine s_ist (p' := 14) (ls' := [_, _, _, _, _, _, _]) rfl rfl rfl rfl ?_
  refine s_ild (p' := 16) rfl rfl rfl ?_
  refine s_ild (p' := 18) rfl rfl rfl ?_
  refine s_icmp (p' := 21) false rfl (by decide +kernel) rfl ?_
  refine s_aldn (p' := 22) rfl rfl rfl ?_
  refine s_ild (p' := 24) rfl rfl rfl ?_
  refine s_ialz (p' := 25) (m := 0) (v := (nI 0)) rfl (rd_sn rfl (rd_sn rfl (rd_sn rfl (rd_sn rfl (rd_sn rfl (rd_sn rfl (rd_sn rfl (rd_sn rfl (rd_sn rfl (rd_sn rfl (rd_sn rfl (rd_sn rfl (rd_sn rfl (rd_sn rfl (rd_sn rfl (rd_sn rfl (rd_sn rfl H411))))))))))))))))) (by decide +kernel) rfl (by decide +kernel) rfl ?_
  refine s_ist (p' := 27) (ls' := [_, _, _, _, _, _, _]) rfl rfl rfl rfl ?_
  refine s_ildn (p' := 28) rfl rfl rfl ?_
  refine s_ild (p' := 30) rfl rfl rfl ?_
  refine s_ildn (p' := 31) rfl rfl rfl ?_
  refine s_icmp (p' := 38) true rfl (by decide +kernel) rfl ?_
  refine s_con (p' := 39) rfl rfl ?_
  refine s_bz (p' := 40) (z := (nI 0)) rfl rfl rfl (by decide +kernel) ?_
  refine s_istn (p' := 41) (ls' := [_, _, _, _, _, _, _]) rfl rfl rfl rfl ?_
  refine s_incz (p' := 44) (w := (nI 1)) (ls' := [_, _, _, _, _, _, _]) rfl rfl rfl (by decide +kernel) rfl rfl ?_
  refine s_goto (p' := 14) rfl rfl ?_
  refine s_ild (p' := 16) rfl rfl rfl ?_
  refine s_ild (p' := 18) rfl rfl rfl ?_
  refine s_icmp (p' := 21) false rfl (by decide +kernel) rfl ?_
  refine s_aldn (p' := 22) rfl rfl rfl ?_
  refine s_ild (p' := 24) rfl rfl rfl ?_
  refine s_ialz (p' := 25) (m := 1) (v := (nI 0)) rfl (rd_sn rfl (rd_sn rfl (rd_sn rfl (rd_sn rfl (rd_sn rfl (rd_sn rfl (rd_sn rfl (rd_sn rfl (rd_sn rfl (rd_sn rfl (rd_sn rfl (rd_sn rfl (rd_sn rfl (rd_sn rfl (rd_sn rfl (rd_sn rfl (rd_sn rfl H411))))))))))))))))) (by decide +kernel) rfl (by decide +kernel) rfl ?_
  refine s_ist (p' := 27) (ls' := [_, _, _, _, _, _, _]) rfl rfl rfl rfl ?_
  refine s_ildn (p' := 28) rfl rfl rfl ?_
  refine s_ild (p' := 30) rfl rfl rfl ?_
  refine s_ildn (p' := 31) rfl rfl rfl ?_
  refine s_icmp (p' := 38) true rfl (by decide +kernel) rfl ?_
  refine s_con (p' := 39) rfl rfl ?_
  refine s_bz (p' := 40) (z := (nI 0)) rfl rfl rfl (by decide +kernel) ?_
  refine s_istn (p' := 41) (ls' := [_, _, _, _, _, _, _]) rfl rfl rfl rfl ?_
  refine s_incz (p' := 44) (w := (nI 2)) (ls' := [_, _, _, _, _, _, _]) rfl rfl rfl (by decide +kernel) rfl rfl ?_
  refine s_goto (p' := 14) rfl rfl ?_
  refine s_ild (p' := 16) rfl rfl rfl ?_
  refine s_ild (p' := 18) rfl rfl rfl ?_
  refine s_icmp (p' := 21) false rfl (by decide +kernel) rfl ?_
  refine s_aldn (p' := 22) rfl rfl rfl ?_
  refine s_ild (p' := 24) rfl rfl rfl ?_
  refine s_ialz (p' := 25) (m := 2) (v := (nI 0)) rfl (rd_sn rfl (rd_sn rfl (rd_sn rfl (rd_sn rfl (rd_sn rfl (rd_sn rfl (rd_sn rfl (rd_sn rfl (rd_sn rfl (rd_sn rfl (rd_sn rfl (rd_sn rfl (rd_sn rfl (rd_sn rfl (rd_sn rfl (rd_sn rfl (rd_sn rfl H411))))))))))))))))) (by decide +kernel) rfl (by decide +kernel) rfl ?_
  refine s_ist (p' := 27) (ls' := [_, _, _, _, _, _, _]) rfl rfl rfl rfl ?_
  refine s_ildn (p' := 28) rfl rfl rfl ?_
  refine s_ild (p' := 30) rfl rfl rfl ?_
  refine s_ildn (p' := 31) rfl rfl rfl ?_
  refine s_icmp (p' := 38) true rfl (by decide +kernel) rfl ?_
  refine s_con (p' := 39) rfl rfl ?_
  refine s_bz (p' := 40) (z := (nI 0)) rfl rfl rfl (by decide +kernel) ?_
  refine s_istn (p' := 41) (ls' := [_, _, _, _, _, _, _]) rfl rfl rfl rfl ?_
  refine s_incz (p' := 44) (w := (nI 3)) (ls' := [_, _, _, _, _, _, _]) rfl rfl rfl (by decide +kernel) rfl rfl ?_
  refine s_goto (p' := 14) rfl rfl ?_
  refine s_ild (p' := 16) rfl rfl rfl ?_
  refine s_ild (p' := 18) rfl rfl rfl ?_
  refine s_icmp (p' := 21) false rfl (by decide +kernel) rfl ?_
  refine s_aldn (p' := 22) rfl rfl rfl ?_
  refine s_ild (p' := 24) rfl rfl rfl ?_
  refine s_ialz (p' := 25) (m := 3) (v := (nI 0)) rfl (rd_sn rfl (rd_sn rfl (rd_sn rfl (rd_sn rfl (rd_sn rfl (rd_sn rfl (rd_sn rfl (rd_sn rfl (rd_sn rfl (rd_sn rfl (rd_sn rfl (rd_sn rfl (rd_sn rfl (rd_sn rfl (rd_sn rfl (rd_sn rfl (rd_sn rfl H411))))))))))))))))) (by decide +kernel) rfl (by decide +kernel) rfl ?_
  refine s_ist (p' := 27) (ls' := [_, _, _, _, _, _, _]) rfl rfl rfl rfl ?_
  refine s_ildn (p' := 28) rfl rfl rfl ?_
  refine s_ild (p' := 30) rfl rfl rfl ?_
  refine s_ildn (p' := 31) rfl rfl rfl ?_
  refine s_icmp (p' := 38) true rfl (by decide +kernel) rfl ?_
  refine s_con (p' := 39) rfl rfl ?_
  refine s_bz (p' := 40) (z := (nI 0)) rfl rfl rfl (by decide +kernel) ?_
  refine s_istn (p' := 41) (ls' := [_, _, _, _, _, _, _]) rfl rfl rfl rfl ?_
  refine s_incz (p' := 44) (w := (nI 4)) (ls' := [_, _, _, _, _, _, _]) rfl rfl rfl (by decide +kernel) rfl rfl ?_
  refine s_goto (p' := 14) rfl rfl ?_
  refine s_ild (p' := 16) rfl rfl rfl ?_
  refine s_ild (p' := 18) rfl rfl rfl ?_
  refine s_icmp (p' := 21) false rfl (by decide +kernel) rfl ?_
  refine s_aldn (p' := 22) rfl rfl rfl ?_
  refine s_ild (p' := 24) rfl rfl rfl ?_
  refine s_ialz (p' := 25) (m := 4) (v := (nI 0)) rfl (rd_sn rfl (rd_sn rfl (rd_sn rfl (rd_sn rfl (rd_sn rfl (rd_sn rfl (rd_sn rfl (rd_sn rfl (rd_sn rfl (rd_sn rfl (rd_sn rfl (rd_sn rfl (rd_sn rfl (rd_sn rfl (rd_sn rfl (rd_sn rfl (rd_sn rfl H411))))))))))))))))) (by decide +kernel) rfl (by decide +kernel) rfl ?_
  refine s_ist (p' := 27) (ls' := [_, _, _, _, _, _, _]) rfl rfl rfl rfl ?_
  refine s_ildn (p' := 28) rfl rfl rfl ?_
  refine s_ild (p' := 30) rfl rfl rfl ?_
  refine s_ildn (p' := 31) rfl rfl rfl ?_
  refine s_icmp (p' := 38) true rfl (by decide +kernel) rfl ?_
  refine s_con (p' := 39) rfl rfl ?_
  refine s_bz (p' := 40) (z := (nI 0)) rfl rfl rfl (by decide +kernel) ?_
  refine s_istn (p' := 41) (ls' := [_, _, _, _, _, _, _]) rfl rfl rfl rfl ?_
  refine s_incz (p' := 44) (w := (nI 5)) (ls' := [_, _, _, _, _, _, _]) rfl rfl rfl (by decide +kernel) rfl rfl ?_
  refine s_goto (p' := 14) rfl rfl ?_
  refine s_ild (p' := 16) rfl rfl rfl ?_
  refine s_ild (p' := 18) rfl rfl rfl ?_
  refine s_icmp (p' := 21) false rfl (by decide +kernel) rfl ?_
  refine s_aldn (p' := 22) rfl rfl rfl ?_
  refine s_ild (p' := 24) rfl rfl rfl ?_
  refine s_ialz (p' := 25) (m := 5) (v := (nI 0)) rfl (rd_sn rfl (rd_sn rfl (rd_sn rfl (rd_sn rfl (rd_sn rfl (rd_sn rfl (rd_sn rfl (rd_sn rfl (rd_sn rfl (rd_sn rfl (rd_sn rfl (rd_sn rfl (rd_sn rfl (rd_sn rfl (rd_sn rfl (rd_sn rfl (rd_sn rfl H411))))))))))))))))) (by decide +kernel) rfl (by decide +kernel) rfl ?_
  refine s_ist (p' := 27) (ls' := [_, _, _, _, _, _, _]) rfl rfl rfl rfl ?_
  refine s_ildn (p' := 28) rfl rfl rfl ?_
  refine s_ild (p' := 30) rfl rfl rfl ?_
  refine s_ildn (p' := 31) rfl rfl rfl ?_
  refine s_icmp (p' := 38) true rfl (by decide +kernel) rfl ?_
  refine s_con (p' := 39) rfl rfl ?_
  refine s_bz (p' := 40) (z := (nI 0)) rfl rfl rfl (by decide +kernel) ?_
  refine s_istn (p' := 41) (ls' := [_, _, _, _, _, _, _]) rfl rfl rfl rfl ?_
  refine s_incz (p' := 44) (w := (nI 6)) (ls' := [_, _, _, _, _, _, _]) rfl rfl rfl (by decide +kernel) rfl rfl ?_
  refine s_goto (p' := 14) rfl rfl ?_
  refine s_ild (p' := 16) rfl rfl rfl ?_
  refine s_ild (p' := 18) rfl rfl rfl ?_
  refine s_icmp (p' := 21) false rfl (by decide +kernel) rfl ?_
  refine s_aldn (p' := 22) rfl rfl rfl ?_
  refine s_ild (p' := 24) rfl rfl rfl ?_
  refine s_ialz (p' := 25) (m := 6) (v := (nI 0)) rfl (rd_sn rfl (rd_sn rfl (rd_sn rfl (rd_sn rfl (rd_sn rfl (rd_sn rfl (rd_sn rfl (rd_sn rfl (rd_sn rfl (rd_sn rfl (rd_sn rfl (rd_sn rfl (rd_sn rfl (rd_sn rfl (rd_sn rfl (rd_sn rfl (rd_sn rfl H411))))))))))))))))) (by decide +kernel) rfl (by decide +kernel) rfl ?_
  refine s_ist (p' := 27) (ls' := [_, _, _, _, _, _, _]) rfl rfl rfl rfl ?_
  refine s_ildn (p' := 28) rfl rfl rfl ?_
  refine s_ild (p' := 30) rfl rfl rfl ?_
  refine s_ildn (p' := 31) rfl rfl rfl ?_
  refine s_icmp (p' := 38) true rfl (by decide +kernel) rfl ?_
  refine s_con (p' := 39) rfl rfl ?_
  refine s_bz (p' := 40) (z := (nI 0)) rfl rfl rfl (by decide +kernel) ?_
  refine s_istn (p' := 41) (ls' := [_, _, _, _, _, _, _]) rfl rfl rfl rfl ?_
  refine s_incz (p' := 44) (w := (nI 7)) (ls' := [_, _, _, _, _, _, _]) rfl rfl rfl (by decide +kernel) rfl rfl ?_
  refine s_goto (p' := 14) rfl rfl ?_
  refine s_ild (p' := 16) rfl rfl rfl ?_
  refine s_ild (p' := 18) rfl rfl rfl ?_
  refine s_icmp (p' := 21) false rfl (by decide +kernel) rfl ?_
  refine s_aldn (p' := 22) rfl rfl rfl ?_
  refine s_ild (p' := 24) rfl rfl rfl ?_
  refine s_ialz (p' := 25) (m := 7) (v := (nI 0)) rfl (rd_sn rfl (rd_sn rfl (rd_sn rfl (rd_sn rfl (rd_sn rfl (rd_sn rfl (rd_sn rfl (rd_sn rfl (rd_sn rfl (rd_sn rfl (rd_sn rfl (rd_sn rfl (rd_sn rfl (rd_sn rfl (rd_sn rfl (rd_sn rfl (rd_sn rfl H411))))))))))))))))) (by decide +kernel) rfl (by decide +kernel) rfl ?_
  refine s_ist (p' := 27) (ls' := [_, _, _, _, _, _, _]) rfl rfl rfl rfl ?_
  refine s_ildn (p' := 28) rfl rfl rfl ?_
  refine s_ild (p' := 30) rfl rfl rfl ?_
  refine s_ildn (p' := 31) rfl rfl rfl ?_
  refine s_icmp (p' := 38) true rfl (by decide +kernel) rfl ?_
  refine s_con (p' := 39) rfl rfl ?_
  refine s_bz (p' := 40) (z := (nI 0)) rfl rfl rfl (by decide +kernel) ?_
  refine s_istn (p' := 41) (ls' := [_, _, _, _, _, _, _]) rfl rfl rfl rfl ?_
  refine s_incz (p' := 44) (w := (nI 8)) (ls' := [_, _, _, _, _, _, _]) rfl rfl rfl (by decide +kernel) rfl rfl ?_
  refine s_goto (p' := 14) rfl rfl ?_
  refine s_ild (p' := 16) rfl rfl rfl ?_
  refine s_ild (p' := 18) rfl rfl rfl ?_
  refine s_icmp (p' := 47) true rfl (by decide +kernel) rfl ?_
  refine s_ildn (p' := 48) rfl rfl rfl ?_
  refine c_iret rfl rfl ?_
  refine s_if (p' := 24) false rfl (by decide +kernel) rfl ?_
  refine s_con (p' := 25) rfl rfl ?_
  refine s_goto (p' := 29) rfl rfl ?_
  refine s_bz (p' := 30) (z := (nI 2)) rfl rfl rfl (by decide +kernel) ?_
  refine s_istn (p' := 31) (ls' := [_, _, _]) rfl rfl rfl rfl ?_
  refine s_incz (p' := 34) (w := (nI 3)) (ls' := [_, _, _]) rfl rfl rfl (by decide +kernel) rfl rfl ?_
  refine s_goto (p' := 9) rfl rfl ?_
  refine s_ildn (p' := 10) rfl rfl rfl ?_
  refine s_bip (p' := 12) rfl rfl ?_
  refine s_icmp (p' := 15) false rfl (by decide +kernel) rfl ?_
  refine s_ildn (p' := 16) rfl rfl rfl ?_
  refine s_aldn (p' := 17) rfl rfl rfl ?_
  refine s_ildn (p' := 18) rfl rfl rfl ?_
  refine c_call (p' := 21) (kc := 98) (ls0 := [_, _, _, _, _, _, _]) rfl rfl rfl rfl rfl (mj_rcv_is (rd_ss rfl (rd_sn rfl (rd_sn rfl (rd_sn rfl (rd_sn rfl (rd_sn rfl (rd_sn rfl (rd_sn rfl (rd_sn rfl (rd_sn rfl (rd_sn rfl (rd_sn rfl (rd_sn rfl (rd_sn rfl (rd_sn rfl (rd_sn rfl (rd_sn rfl H400)))))))))))))))))) rfl rfl rfl ?_
  refine s_con (p' := 1) rfl rfl ?_
  refine s_istn (p' := 2) (ls' := [_, _, _, _, _, _, _]) rfl rfl rfl rfl ?_
  refine s_aldn (p' := 3) rfl rfl rfl ?_
  refine s_gf (p' := 6) rfl (rd_ss rfl (rd_sn rfl (rd_sn rfl (rd_sn rfl (rd_sn rfl (rd_sn rfl (rd_sn rfl (rd_sn rfl (rd_sn rfl (rd_sn rfl (rd_sn rfl (rd_sn rfl (rd_sn rfl (rd_sn rfl (rd_sn rfl (rd_sn rfl (rd_sn rfl H400))))))))))))))))) rfl rfl ?_
  refine s_astn (p' := 7) (ls' := [_, _, _, _, _, _, _]) rfl rfl rfl rfl ?_
  refine s_aldn (p' := 8) rfl rfl rfl ?_
  refine s_lenz (p' := 9) rfl (mj_rdA_is (rd_sn rfl (rd_sn rfl (rd_sn rfl (rd_sn rfl (rd_sn rfl (rd_sn rfl (rd_sn rfl (rd_sn rfl (rd_sn rfl (rd_sn rfl (rd_sn rfl (rd_sn rfl (rd_sn rfl (rd_sn rfl (rd_sn rfl (rd_sn rfl (rd_sn rfl H411))))))))))))))))) (by decide)) rfl rfl ?_
  refine s_ist (p' := 11) (ls' := [_, _, _, _, _, _, _]) rfl rfl rfl rfl ?_
  refine s_con (p' := 12) rfl rfl ?_
  refine s_ist (p' := 14) (ls' := [_, _, _, _, _, _, _]) rfl rfl rfl rfl ?_
  refine s_ild (p' := 16) rfl rfl rfl ?_
  refine s_ild (p' := 18) rfl rfl rfl ?_
  refine s_icmp (p' := 21) false rfl (by decide +kernel) rfl ?_
  refine s_aldn (p' := 22) rfl rfl rfl ?_
  refine s_ild (p' := 24) rfl rfl rfl ?_
  refine s_ialz (p' := 25) (m := 0) (v := (nI 0)) rfl (rd_sn rfl (rd_sn rfl (rd_sn rfl (rd_sn rfl (rd_sn rfl (rd_sn rfl (rd_sn rfl (rd_sn rfl (rd_sn rfl (rd_sn rfl (rd_sn rfl (rd_sn rfl (rd_sn rfl (rd_sn rfl (rd_sn rfl (rd_sn rfl (rd_sn rfl H411))))))))))))))))) (by decide +kernel) rfl (by decide +kernel) rfl ?_
  refine s_ist (p' := 27) (ls' := [_, _, _, _, _, _, _]) rfl rfl rfl rfl ?_
  refine s_ildn (p' := 28) rfl rfl rfl ?_
  refine s_ild (p' := 30) rfl rfl rfl ?_
  refine s_ildn (p' := 31) rfl rfl rfl ?_
  refine s_icmp (p' := 38) true rfl (by decide +kernel) rfl ?_
  refine s_con (p' := 39) rfl rfl ?_
  refine s_bz (p' := 40) (z := (nI 0)) rfl rfl rfl (by decide +kernel) ?_
  refine s_istn (p' := 41) (ls' := [_, _, _, _, _, _, _]) rfl rfl rfl rfl ?_
  refine s_incz (p' := 44) (w := (nI 1)) (ls' := [_, _, _, _, _, _, _]) rfl rfl rfl (by decide +kernel) rfl rfl ?_
  refine s_goto (p' := 14) rfl rfl ?_
  refine s_ild (p' := 16) rfl rfl rfl ?_
  refine s_ild (p' := 18) rfl rfl rfl ?_
  refine s_icmp (p' := 21) false rfl (by decide +kernel) rfl ?_
  refine s_aldn (p' := 22) rfl rfl rfl ?_
  refine s_ild (p' := 24) rfl rfl rfl ?_
  refine s_ialz (p' := 25) (m := 1) (v := (nI 0)) rfl (rd_sn rfl (rd_sn rfl (rd_sn rfl (rd_sn rfl (rd_sn rfl (rd_sn rfl (rd_sn rfl (rd_sn rfl (rd_sn rfl (rd_sn rfl (rd_sn rfl (rd_sn rfl (rd_sn rfl (rd_sn rfl (rd_sn rfl (rd_sn rfl (rd_sn rfl H411))))))))))))))))) (by decide +kernel) rfl (by decide +kernel) rfl ?_
  refine s_ist (p' := 27) (ls' := [_, _, _, _, _, _, _]) rfl rfl rfl rfl ?_
  refine s_ildn (p' := 28) rfl rfl rfl ?_
  refine s_ild (p' := 30) rfl rfl rfl ?_
  refine s_ildn (p' := 31) rfl rfl rfl ?_
  refine s_icmp (p' := 38) true rfl (by decide +kernel) rfl ?_
  refine s_con (p' := 39) rfl rfl ?_
  refine s_bz (p' := 40) (z := (nI 0)) rfl rfl rfl (by decide +kernel) ?_
  refine s_istn (p' := 41) (ls' := [_, _, _, _, _, _, _]) rfl rfl rfl rfl ?_
  refine s_incz (p' := 44) (w := (nI 2)) (ls' := [_, _, _, _, _, _, _]) rfl rfl rfl (by decide +kernel) rfl rfl ?_
  refine s_goto (p' := 14) rfl rfl ?_
  refine s_ild (p' := 16) rfl rfl rfl ?_
  refine s_ild (p' := 18) rfl rfl rfl ?_
  refine s_icmp (p' := 21) false rfl (by decide +kernel) rfl ?_
  refine s_aldn (p' := 22) rfl rfl rfl ?_
  refine s_ild (p' := 24) rfl rfl rfl ?_
  refine s_ialz (p' := 25) (m := 2) (v := (nI 0)) rfl (rd_sn rfl (rd_sn rfl (rd_sn rfl (rd_sn rfl (rd_sn rfl (rd_sn rfl (rd_sn rfl (rd_sn rfl (rd_sn rfl (rd_sn rfl (rd_sn rfl (rd_sn rfl (rd_sn rfl (rd_sn rfl (rd_sn rfl (rd_sn rfl (rd_sn rfl H411))))))))))))))))) (by decide +kernel) rfl (by decide +kernel) rfl ?_
  refine s_ist (p' := 27) (ls' := [_, _, _, _, _, _, _]) rfl rfl rfl rfl ?_
  refine s_ildn (p' := 28) rfl rfl rfl ?_
  refine s_ild (p' := 30) rfl rfl rfl ?_
  refine s_ildn (p' := 31) rfl rfl rfl ?_
  refine s_icmp (p' := 38) true rfl (by decide +kernel) rfl ?_
  refine s_con (p' := 39) rfl rfl ?_
  refine s_bz (p' := 40) (z := (nI 0)) rfl rfl rfl (by decide +kernel) ?_
  refine s_istn (p' := 41) (ls' := [_, _, _, _, _, _, _]) rfl rfl rfl rfl ?_
  refine s_incz (p' := 44) (w := (nI 3)) (ls' := [_, _, _, _, _, _, _]) rfl rfl rfl (by decide +kernel) rfl rfl ?_
  refine s_goto (p' := 14) rfl rfl ?_
  refine s_ild (p' := 16) rfl rfl rfl ?_
  refine s_ild (p' := 18) rfl rfl rfl ?_
  refine s_icmp (p' := 21) false rfl (by decide +kernel) rfl ?_
  refine s_aldn (p' := 22) rfl rfl rfl ?_
  refine s_ild (p' := 24) rfl rfl rfl ?_
  refine s_ialz (p' := 25) (m := 3) (v := (nI 0)) rfl (rd_sn rfl (rd_sn rfl (rd_sn rfl (rd_sn rfl (rd_sn rfl (rd_sn rfl (rd_sn rfl (rd_sn rfl (rd_sn rfl (rd_sn rfl (rd_sn rfl (rd_sn rfl (rd_sn rfl (rd_sn rfl (rd_sn rfl (rd_sn rfl (rd_sn rfl H411))))))))))))))))) (by decide +kernel) rfl (by decide +kernel) rfl ?_
  refine s_ist (p' := 27) (ls' := [_, _, _, _, _, _, _]) rfl rfl rfl rfl ?_
  refine s_ildn (p' := 28) rfl rfl rfl ?_
  refine s_ild (p' := 30) rfl rfl rfl ?_
  refine s_ildn (p' := 31) rfl rfl rfl ?_
  refine s_icmp (p' := 38) true rfl (by decide +kernel) rfl ?_
  refine s_con (p' := 39) rfl rfl ?_
  refine s_bz (p' := 40) (z := (nI 0)) rfl rfl rfl (by decide +kernel) ?_
  refine s_istn (p' := 41) (ls' := [_, _, _, _, _, _, _]) rfl rfl rfl rfl ?_
  refine s_incz (p' := 44) (w := (nI 4)) (ls' := [_, _, _, _, _, _, _]) rfl rfl rfl (by decide +kernel) rfl rfl ?_
  refine s_goto (p' := 14) rfl rfl ?_
  refine s_ild (p' := 16) rfl rfl rfl ?_
  refine s_ild (p' := 18) rfl rfl rfl ?_
  refine s_icmp (p' := 21) false rfl (by decide +kernel) rfl ?_
  refine s_aldn (p' := 22) rfl rfl rfl ?_
  refine s_ild (p' := 24) rfl rfl rfl ?_
  refine s_ialz (p' := 25) (m := 4) (v := (nI 0)) rfl (rd_sn rfl (rd_sn rfl (rd_sn rfl (rd_sn rfl (rd_sn rfl (rd_sn rfl (rd_sn rfl (rd_sn rfl (rd_sn rfl (rd_sn rfl (rd_sn rfl (rd_sn rfl (rd_sn rfl (rd_sn rfl (rd_sn rfl (rd_sn rfl (rd_sn rfl H411))))))))))))))))) (by decide +kernel) rfl (by decide +kernel) rfl ?_
  refine s_ist (p' := 27) (ls' := [_, _, _, _, _, _, _]) rfl rfl rfl rfl ?_
  refine s_ildn (p' := 28) rfl rfl rfl ?_
  refine s_ild (p' := 30) rfl rfl rfl ?_
  refine s_ildn (p' := 31) rfl rfl rfl ?_
  refine s_icmp (p' := 38) true rfl (by decide +kernel) rfl ?_
  refine s_con (p' := 39) rfl rfl ?_
  refine s_bz (p' := 40) (z := (nI 0)) rfl rfl rfl (by decide +kernel) ?_
  refine s_istn (p' := 41) (ls' := [_, _, _, _, _, _, _]) rfl rfl rfl rfl ?_
  refine s_incz (p' := 44) (w := (nI 5)) (ls' := [_, _, _, _, _, _, _]) rfl rfl rfl (by decide +kernel) rfl rfl ?_
  refine s_goto (p' := 14) rfl rfl ?_
  refine s_ild (p' := 16) rfl rfl rfl ?_
  refine s_ild (p' := 18) rfl rfl rfl ?_
  refine s_icmp (p' := 21) false rfl (by decide +kernel) rfl ?_
  refine s_aldn (p' := 22) rfl rfl rfl ?_
  refine s_ild (p' := 24) rfl rfl rfl ?_
  refine s_ialz (p' := 25) (m := 5) (v := (nI 0)) rfl (rd_sn rfl (rd_sn rfl (rd_sn rfl (rd_sn rfl (rd_sn rfl (rd_sn rfl (rd_sn rfl (rd_sn rfl (rd_sn rfl (rd_sn rfl (rd_sn rfl (rd_sn rfl (rd_sn rfl (rd_sn rfl (rd_sn rfl (rd_sn rfl (rd_sn rfl H411))))))))))))))))) (by decide +kernel) rfl (by decide +kernel) rfl ?_
  refine s_ist (p' := 27) (ls' := [_, _, _, _, _, _, _]) rfl rfl rfl rfl ?_
  refine s_ildn (p' := 28) rfl rfl rfl ?_
  refine s_ild (p' := 30) rfl rfl rfl ?_
  refine s_ildn (p' := 31) rfl rfl rfl ?_
  refine s_icmp (p' := 38) true rfl (by decide +kernel) rfl ?_
  refine s_con (p' := 39) rfl rfl ?_
  refine s_bz (p' := 40) (z := (nI 0)) rfl rfl rfl (by decide +kernel) ?_
  refine s_istn (p' := 41) (ls' := [_, _, _, _, _, _, _]) rfl rfl rfl rfl ?_
  refine s_incz (p' := 44) (w := (nI 6)) (ls' := [_, _, _, _, _, _, _]) rfl rfl rfl (by decide +kernel) rfl rfl ?_
  refine s_goto (p' := 14) rfl rfl ?_
  refine s_ild (p' := 16) rfl rfl rfl ?_
  refine s_ild (p' := 18) rfl rfl rfl ?_
  refine s_icmp (p' := 21) false rfl (by decide +kernel) rfl ?_
  refine s_aldn (p' := 22) rfl rfl rfl ?_
  refine s_ild (p' := 24) rfl rfl rfl ?_
  refine s_ialz (p' := 25) (m := 6) (v := (nI 0)) rfl (rd_sn rfl (rd_sn rfl (rd_sn rfl (rd_sn rfl (rd_sn rfl (rd_sn rfl (rd_sn rfl (rd_sn rfl (rd_sn rfl (rd_sn rfl (rd_sn rfl (rd_sn rfl (rd_sn rfl (rd_sn rfl (rd_sn rfl (rd_sn rfl (rd_sn rfl H411))))))))))))))))) (by decide +kernel) rfl (by decide +kernel) rfl ?_
  refine s_ist (p' := 27) (ls' := [_, _, _, _, _, _, _]) rfl rfl rfl rfl ?_
  refine s_ildn (p' := 28) rfl rfl rfl ?_
  refine s_ild (p' := 30) rfl rfl rfl ?_
  refine s_ildn (p' := 31) rfl rfl rfl ?_
  refine s_icmp (p' := 38) true rfl (by decide +kernel) rfl ?_
  refine s_con (p' := 39) rfl rfl ?_
  refine s_bz (p' := 40) (z := (nI 0)) rfl rfl rfl (by decide +kernel) ?_
  refine s_istn (p' := 41) (ls' := [_, _, _, _, _, _, _]) rfl rfl rfl rfl ?_
  refine s_incz (p' := 44) (w := (nI 7)) (ls' := [_, _, _, _, _, _, _]) rfl rfl rfl (by decide +kernel) rfl rfl ?_
  refine s_goto (p' := 14) rfl rfl ?_
  refine s_ild (p' := 16) rfl rfl rfl ?_
  refine s_ild (p' := 18) rfl rfl rfl ?_
  refine s_icmp (p' := 21) false rfl (by decide +kernel) rfl ?_
  refine s_aldn (p' := 22) rfl rfl rfl ?_
  refine s_ild (p' := 24) rfl rfl rfl ?_
  refine s_ialz (p' := 25) (m := 7) (v := (nI 0)) rfl (rd_sn rfl (rd_sn rfl (rd_sn rfl (rd_sn rfl (rd_sn rfl (rd_sn rfl (rd_sn rfl (rd_sn rfl (rd_sn rfl (rd_sn rfl (rd_sn rfl (rd_sn rfl (rd_sn rfl (rd_sn rfl (rd_sn rfl (rd_sn rfl (rd_sn rfl H411))))))))))))))))) (by decide +kernel) rfl (by decide +kernel) rfl ?_
  refine s_ist (p' := 27) (ls' := [_, _, _, _, _, _, _]) rfl rfl rfl rfl ?_
  refine s_ildn (p' := 28) rfl rfl rfl ?_
  refine s_ild (p' := 30) rfl rfl rfl ?_
  refine s_ildn (p' := 31) rfl rfl rfl ?_
  refine s_icmp (p' := 38) true rfl (by decide +kernel) rfl ?_
  refine s_con (p' := 39) rfl rfl ?_
  refine s_bz (p' := 40) (z := (nI 0)) rfl rfl rfl (by decide +kernel) ?_
  refine s_istn (p' := 41) (ls' := [_, _, _, _, _, _, _]) rfl rfl rfl rfl ?_
  refine s_incz (p' := 44) (w := (nI 8)) (ls' := [_, _, _, _, _, _, _]) rfl rfl rfl (by decide +kernel) rfl rfl ?_
  refine s_goto (p' := 14) rfl rfl ?_
  refine s_ild (p' := 16) rfl rfl rfl ?_
  refine s_ild (p' := 18) rfl rfl rfl ?_
  refine s_icmp (p' := 47) true rfl (by decide +kernel) rfl ?_
  refine s_ildn (p' := 48) rfl rfl rfl ?_
  refine c_iret rfl rfl ?_
  refine s_if (p' := 24) false rfl (by decide +kernel) rfl ?_
  refine s_con (p' := 25) rfl rfl ?_
  refine s_goto (p' := 29) rfl rfl ?_
  refine s_bz (p' := 30) (z := (nI 3)) rfl rfl rfl (by decide +kernel) ?_
  refine s_istn (p' := 31) (ls' := [_, _, _]) rfl rfl rfl rfl ?_
  refine s_incz (p' := 34) (w := (nI 4)) (ls' := [_, _, _]) rfl rfl rfl (by decide +kernel) rfl rfl ?_
  refine s_goto (p' := 9) rfl rfl ?_
  refine s_ildn (p' := 10) rfl rfl rfl ?_
  refine s_bip (p' := 12) rfl rfl ?_
  refine s_icmp (p' := 15) false rfl (by decide +kernel) rfl ?_
  refine s_ildn (p' := 16) rfl rfl rfl ?_
  refine s_aldn (p' := 17) rfl rfl rfl ?_
  refine s_ildn (p' := 18) rfl rfl rfl ?_
  refine c_call (p' := 21) (kc := 98) (ls0 := [_, _, _, _, _, _, _]) rfl rfl rfl rfl rfl (mj_rcv_is (rd_ss rfl (rd_sn rfl (rd_sn rfl (rd_sn rfl (rd_sn rfl (rd_sn rfl (rd_sn rfl (rd_sn rfl (rd_sn rfl (rd_sn rfl (rd_sn rfl (rd_sn rfl (rd_sn rfl (rd_sn rfl (rd_sn rfl (rd_sn rfl (rd_sn rfl H400)))))))))))))))))) rfl rfl rfl ?_
  refine s_con (p' := 1) rfl rfl ?_
  refine s_istn (p' := 2) (ls' := [_, _, _, _, _, _, _]) rfl rfl rfl rfl ?_
  refine s_aldn (p' := 3) rfl rfl rfl ?_
  refine s_gf (p' := 6) rfl (rd_ss rfl (rd_sn rfl (rd_sn rfl (rd_sn rfl (rd_sn rfl (rd_sn rfl (rd_sn rfl (rd_sn rfl (rd_sn rfl (rd_sn rfl (rd_sn rfl (rd_sn rfl (rd_sn rfl (rd_sn rfl (rd_sn rfl (rd_sn rfl (rd_sn rfl H400))))))))))))))))) rfl rfl ?_
  refine s_astn (p' := 7) (ls' := [_, _, _, _, _, _, _]) rfl rfl rfl rfl ?_
  refine s_aldn (p' := 8) rfl rfl rfl ?_
  refine s_lenz (p' := 9) rfl (mj_rdA_is (rd_sn rfl (rd_sn rfl (rd_sn rfl (rd_sn rfl (rd_sn rfl (rd_sn rfl (rd_sn rfl (rd_sn rfl (rd_sn rfl (rd_sn rfl (rd_sn rfl (rd_sn rfl (rd_sn rfl (rd_sn rfl (rd_sn rfl (rd_sn rfl (rd_sn rfl H411))))))))))))))))) (by decide)) rfl rfl ?_
  refine s_ist (p' := 11) (ls' := [_, _, _, _, _, _, _]) rfl rfl rfl rfl ?_
  refine s_con (p' := 12) rfl rfl ?_
  refine s_ist (p' := 14) (ls' := [_, _, _, _, _, _, _]) rfl rfl rfl rfl ?_
  refine s_ild (p' := 16) rfl rfl rfl ?_
  refine s_ild (p' := 18) rfl rfl rfl ?_
  refine s_icmp (p' := 21) false rfl (by decide +kernel) rfl ?_
  refine s_aldn (p' := 22) rfl rfl rfl ?_
  refine s_ild (p' := 24) rfl rfl rfl ?_
  refine s_ialz (p' := 25) (m := 0) (v := (nI 0)) rfl (rd_sn rfl (rd_sn rfl (rd_sn rfl (rd_sn rfl (rd_sn rfl (rd_sn rfl (rd_sn rfl (rd_sn rfl (rd_sn rfl (rd_sn rfl (rd_sn rfl (rd_sn rfl (rd_sn rfl (rd_sn rfl (rd_sn rfl (rd_sn rfl (rd_sn rfl H411))))))))))))))))) (by decide +kernel) rfl (by decide +kernel) rfl ?_
  refine s_ist (p' := 27) (ls' := [_, _, _, _, _, _, _]) rfl rfl rfl rfl ?_
  refine s_ildn (p' := 28) rfl rfl rfl ?_
  refine s_ild (p' := 30) rfl rfl rfl ?_
  refine s_ildn (p' := 31) rfl rfl rfl ?_
  refine s_icmp (p' := 38) true rfl (by decide +kernel) rfl ?_
  refine s_con (p' := 39) rfl rfl ?_
  refine s_bz (p' := 40) (z := (nI 0)) rfl rfl rfl (by decide +kernel) ?_
  refine s_istn (p' := 41) (ls' := [_, _, _, _, _, _, _]) rfl rfl rfl rfl ?_
  refine s_incz (p' := 44) (w := (nI 1)) (ls' := [_, _, _, _, _, _, _]) rfl rfl rfl (by decide +kernel) rfl rfl ?_
  refine s_goto (p' := 14) rfl rfl ?_
  refine s_ild (p' := 16) rfl rfl rfl ?_
  refine s_ild (p' := 18) rfl rfl rfl ?_
  refine s_icmp (p' := 21) false rfl (by decide +kernel) rfl ?_
  refine s_aldn (p' := 22) rfl rfl rfl ?_
  refine s_ild (p' := 24) rfl rfl rfl ?_
  refine s_ialz (p' := 25) (m := 1) (v := (nI 0)) rfl (rd_sn rfl (rd_sn rfl (rd_sn rfl (rd_sn rfl (rd_sn rfl (rd_sn rfl (rd_sn rfl (rd_sn rfl (rd_sn rfl (rd_sn rfl (rd_sn rfl (rd_sn rfl (rd_sn rfl (rd_sn rfl (rd_sn rfl (rd_sn rfl (rd_sn rfl H411))))))))))))))))) (by decide +kernel) rfl (by decide +kernel) rfl ?_
  refine s_ist (p' := 27) (ls' := [_, _, _, _, _, _, _]) rfl rfl rfl rfl ?_
  refine s_ildn (p' := 28) rfl rfl rfl ?_
  refine s_ild (p' := 30) rfl rfl rfl ?_
  refine s_ildn (p' := 31) rfl rfl rfl ?_
  refine s_icmp (p' := 38) true rfl (by decide +kernel) rfl ?_
  refine s_con (p' := 39) rfl rfl ?_
  refine s_bz (p' := 40) (z := (nI 0)) rfl rfl rfl (by decide +kernel) ?_
  refine s_istn (p' := 41) (ls' := [_, _, _, _, _, _, _]) rfl rfl rfl rfl ?_
  refine s_incz (p' := 44) (w := (nI 2)) (ls' := [_, _, _, _, _, _, _]) rfl rfl rfl (by decide +kernel) rfl rfl ?_
  refine s_goto (p' := 14) rfl rfl ?_
  refine s_ild (p' := 16) rfl rfl rfl ?_
  refine s_ild (p' := 18) rfl rfl rfl ?_
  refine s_icmp (p' := 21) false rfl (by decide +kernel) rfl ?_
  refine s_aldn (p' := 22) rfl rfl rfl ?_
  refine s_ild (p' := 24) rfl rfl rfl ?_
  refine s_ialz (p' := 25) (m := 2) (v := (nI 0)) rfl (rd_sn rfl (rd_sn rfl (rd_sn rfl (rd_sn rfl (rd_sn rfl (rd_sn rfl (rd_sn rfl (rd_sn rfl (rd_sn rfl (rd_sn rfl (rd_sn rfl (rd_sn rfl (rd_sn rfl (rd_sn rfl (rd_sn rfl (rd_sn rfl (rd_sn rfl H411))))))))))))))))) (by decide +kernel) rfl (by decide +kernel) rfl ?_
  refine s_ist (p' := 27) (ls' := [_, _, _, _, _, _, _]) rfl rfl rfl rfl ?_
  refine s_ildn (p' := 28) rfl rfl rfl ?_
  refine s_ild (p' := 30) rfl rfl rfl ?_
  refine s_ildn (p' := 31) rfl rfl rfl ?_
  refine s_icmp (p' := 38) true rfl (by decide +kernel) rfl ?_
  refine s_con (p' := 39) rfl rfl ?_
  refine s_bz (p' := 40) (z := (nI 0)) rfl rfl rfl (by decide +kernel) ?_
  refine s_istn (p' := 41) (ls' := [_, _, _, _, _, _, _]) rfl rfl rfl rfl ?_
  refine s_incz (p' := 44) (w := (nI 3)) (ls' := [_, _, _, _, _, _, _]) rfl rfl rfl (by decide +kernel) rfl rfl ?_
  refine s_goto (p' := 14) rfl rfl ?_
  refine s_ild (p' := 16) rfl rfl rfl ?_
  refine s_ild (p' := 18) rfl rfl rfl ?_
  refine s_icmp (p' := 21) false rfl (by decide +kernel) rfl ?_
  refine s_aldn (p' := 22) rfl rfl rfl ?_
  refine s_ild (p' := 24) rfl rfl rfl ?_
  refine s_ialz (p' := 25) (m := 3) (v := (nI 0)) rfl (rd_sn rfl (rd_sn rfl (rd_sn rfl (rd_sn rfl (rd_sn rfl (rd_sn rfl (rd_sn rfl (rd_sn rfl (rd_sn rfl (rd_sn rfl (rd_sn rfl (rd_sn rfl (rd_sn rfl (rd_sn rfl (rd_sn rfl (rd_sn rfl (rd_sn rfl H411))))))))))))))))) (by decide +kernel) rfl (by decide +kernel) rfl ?_
  refine s_ist (p' := 27) (ls' := [_, _, _, _, _, _, _]) rfl rfl rfl rfl ?_
  refine s_ildn (p' := 28) rfl rfl rfl ?_
  refine s_ild (p' := 30) rfl rfl rfl ?_
  refine s_ildn (p' := 31) rfl rfl rfl ?_
  refine s_icmp (p' := 38) true rfl (by decide +kernel) rfl ?_
  refine s_con (p' := 39) rfl rfl ?_
  refine s_bz (p' := 40) (z := (nI 0)) rfl rfl rfl (by decide +kernel) ?_
  refine s_istn (p' := 41) (ls' := [_, _, _, _, _, _, _]) rfl rfl rfl rfl ?_
  refine s_incz (p' := 44) (w := (nI 4)) (ls' := [_, _, _, _, _, _, _]) rfl rfl rfl (by decide +kernel) rfl rfl ?_
  refine s_goto (p' := 14) rfl rfl ?_
  refine s_ild (p' := 16) rfl rfl rfl ?_
  refine s_ild (p' := 18) rfl rfl rfl ?_
  refine s_icmp (p' := 21) false rfl (by decide +kernel) rfl ?_
  refine s_aldn (p' := 22) rfl rfl rfl ?_
  refine s_ild (p' := 24) rfl rfl rfl ?_
  refine s_ialz (p' := 25) (m := 4) (v := (nI 0)) rfl (rd_sn rfl (rd_sn rfl (rd_sn rfl (rd_sn rfl (rd_sn rfl (rd_sn rfl (rd_sn rfl (rd_sn rfl (rd_sn rfl (rd_sn rfl (rd_sn rfl (rd_sn rfl (rd_sn rfl (rd_sn rfl (rd_sn rfl (rd_sn rfl (rd_sn rfl H411))))))))))))))))) (by decide +kernel) rfl (by decide +kernel) rfl ?_
  refine s_ist (p' := 27) (ls' := [_, _, _, _, _, _, _]) rfl rfl rfl rfl ?_
  refine s_ildn (p' := 28) rfl rfl rfl ?_
  refine s_ild (p' := 30) rfl rfl rfl ?_
  refine s_ildn (p' := 31) rfl rfl rfl ?_
  refine s_icmp (p' := 38) true rfl (by decide +kernel) rfl ?_
  refine s_con (p' := 39) rfl rfl ?_
  refine s_bz (p' := 40) (z := (nI 0)) rfl rfl rfl (by decide +kernel) ?_
  refine s_istn (p' := 41) (ls' := [_, _, _, _, _, _, _]) rfl rfl rfl rfl ?_
  refine s_incz (p' := 44) (w := (nI 5)) (ls' := [_, _, _, _, _, _, _]) rfl rfl rfl (by decide +kernel) rfl rfl ?_
  refine s_goto (p' := 14) rfl rfl ?_
  refine s_ild (p' := 16) rfl rfl rfl ?_
  refine s_ild (p' := 18) rfl rfl rfl ?_
  refine s_icmp (p' := 21) false rfl (by decide +kernel) rfl ?_
  refine s_aldn (p' := 22) rfl rfl rfl ?_
  refine s_ild (p' := 24) rfl rfl rfl ?_
  refine s_ialz (p' := 25) (m := 5) (v := (nI 0)) rfl (rd_sn rfl (rd_sn rfl (rd_sn rfl (rd_sn rfl (rd_sn rfl (rd_sn rfl (rd_sn rfl (rd_sn rfl (rd_sn rfl (rd_sn rfl (rd_sn rfl (rd_sn rfl (rd_sn rfl (rd_sn rfl (rd_sn rfl (rd_sn rfl (rd_sn rfl H411))))))))))))))))) (by decide +kernel) rfl (by decide +kernel) rfl ?_
  refine s_ist (p' := 27) (ls' := [_, _, _, _, _, _, _]) rfl rfl rfl rfl ?_
  refine s_ildn (p' := 28) rfl rfl rfl ?_
  refine s_ild (p' := 30) rfl rfl rfl ?_
  refine s_ildn (p' := 31) rfl rfl rfl ?_
  refine s_icmp (p' := 38) true rfl (by decide +kernel) rfl ?_
  refine s_con (p' := 39) rfl rfl ?_
  refine s_bz (p' := 40) (z := (nI 0)) rfl rfl rfl (by decide +kernel) ?_
  refine s_istn (p' := 41) (ls' := [_, _, _, _, _, _, _]) rfl rfl rfl rfl ?_
  refine s_incz (p' := 44) (w := (nI 6)) (ls' := [_, _, _, _, _, _, _]) rfl rfl rfl (by decide +kernel) rfl rfl ?_
  refine s_goto (p' := 14) rfl rfl ?_
  refine s_ild (p' := 16) rfl rfl rfl ?_
  refine s_ild (p' := 18) rfl rfl rfl ?_
  refine s_icmp (p' := 21) false rfl (by decide +kernel) rfl ?_
  refine s_aldn (p' := 22) rfl rfl rfl ?_
  refine s_ild (p' := 24) rfl rfl rfl ?_
  refine s_ialz (p' := 25) (m := 6) (v := (nI 0)) rfl (rd_sn rfl (rd_sn rfl (rd_sn rfl (rd_sn rfl (rd_sn rfl (rd_sn rfl (rd_sn rfl (rd_sn rfl (rd_sn rfl (rd_sn rfl (rd_sn rfl (rd_sn rfl (rd_sn rfl (rd_sn rfl (rd_sn rfl (rd_sn rfl (rd_sn rfl H411))))))))))))))))) (by decide +kernel) rfl (by decide +kernel) rfl ?_
  refine s_ist (p' := 27) (ls' := [_, _, _, _, _, _, _]) rfl rfl rfl rfl ?_
  refine s_ildn (p' := 28) rfl rfl rfl ?_
  refine s_ild (p' := 30) rfl rfl rfl ?_
  refine s_ildn (p' := 31) rfl rfl rfl ?_
  refine s_icmp (p' := 38) true rfl (by decide +kernel) rfl ?_
  refine s_con (p' := 39) rfl rfl ?_
  refine s_bz (p' := 40) (z := (nI 0)) rfl rfl rfl (by decide +kernel) ?_
  refine s_istn (p' := 41) (ls' := [_, _, _, _, _, _, _]) rfl rfl rfl rfl ?_
  refine s_incz (p' := 44) (w := (nI 7)) (ls' := [_, _, _, _, _, _, _]) rfl rfl rfl (by decide +kernel) rfl rfl ?_
  refine s_goto (p' := 14) rfl rfl ?_
  refine s_ild (p' := 16) rfl rfl rfl ?_
  refine s_ild (p' := 18) rfl rfl rfl ?_
  refine s_icmp (p' := 21) false rfl (by decide +kernel) rfl ?_
  refine s_aldn (p' := 22) rfl rfl rfl ?_
  refine s_ild (p' := 24) rfl rfl rfl ?_
  refine s_ialz (p' := 25) (m := 7) (v := (nI 0)) rfl (rd_sn rfl (rd_sn rfl (rd_sn rfl (rd_sn rfl (rd_sn rfl (rd_sn rfl (rd_sn rfl (rd_sn rfl (rd_sn rfl (rd_sn rfl (rd_sn rfl (rd_sn rfl (rd_sn rfl (rd_sn rfl (rd_sn rfl (rd_sn rfl (rd_sn rfl H411))))))))))))))))) (by decide +kernel) rfl (by decide +kernel) rfl ?_
  refine s_ist (p' := 27) (ls' := [_, _, _, _, _, _, _]) rfl rfl rfl rfl ?_
  refine s_ildn (p' := 28) rfl rfl rfl ?_
  refine s_ild (p' := 30) rfl rfl rfl ?_
  refine s_ildn (p' := 31) rfl rfl rfl ?_
  refine s_icmp (p' := 38) true rfl (by decide +kernel) rfl ?_
  refine s_con (p' := 39) rfl rfl ?_
  refine s_bz (p' := 40) (z := (nI 0)) rfl rfl rfl (by decide +kernel) ?_
  refine s_istn (p' := 41) (ls' := [_, _, _, _, _, _, _]) rfl rfl rfl rfl ?_
  refine s_incz (p' := 44) (w := (nI 8)) (ls' := [_, _, _, _, _, _, _]) rfl rfl rfl (by decide +kernel) rfl rfl ?_
  refine s_goto (p' := 14) rfl rfl ?_
  refine s_ild (p' := 16) rfl rfl rfl ?_
  refine s_ild (p' := 18) rfl rfl rfl ?_
  refine s_icmp (p' := 47) true rfl (by decide +kernel) rfl ?_
  refine s_ildn (p' := 48) rfl rfl rfl ?_
  refine c_iret rfl rfl ?_
  refine s_if (p' := 24) false rfl (by decide +kernel) rfl ?_
  refine s_con (p' := 25) rfl rfl ?_
  refine s_goto (p' := 29) rfl rfl ?_
  refine s_bz (p' := 30) (z := (nI 4)) rfl rfl rfl (by decide +kernel) ?_
  refine s_istn (p' := 31) (ls' := [_, _, _]) rfl rfl rfl rfl ?_
  refine s_incz (p' := 34) (w := (nI 5)) (ls' := [_, _, _]) rfl rfl rfl (by decide +kernel) rfl rfl ?_
  refine s_goto (p' := 9) rfl rfl ?_
  refine s_ildn (p' := 10) rfl rfl rfl ?_
  refine s_bip (p' := 12) rfl rfl ?_
  refine s_icmp (p' := 15) false rfl (by decide +kernel) rfl ?_
  refine s_ildn (p' := 16) rfl rfl rfl ?_
  refine s_aldn (p' := 17) rfl rfl rfl ?_
  refine s_ildn (p' := 18) rfl rfl rfl ?_
  refine c_call (p' := 21) (kc := 98) (ls0 := [_, _, _, _, _, _, _]) rfl rfl rfl rfl rfl (mj_rcv_is (rd_ss rfl (rd_sn rfl (rd_sn rfl (rd_sn rfl (rd_sn rfl (rd_sn rfl (rd_sn rfl (rd_sn rfl (rd_sn rfl (rd_sn rfl (rd_sn rfl (rd_sn rfl (rd_sn rfl (rd_sn rfl (rd_sn rfl (rd_sn rfl (rd_sn rfl H400)))))))))))))))))) rfl rfl rfl ?_
  refine s_con (p' := 1) rfl rfl ?_
  refine s_istn (p' := 2) (ls' := [_, _, _, _, _, _, _]) rfl rfl rfl rfl ?_
  refine s_aldn (p' := 3) rfl rfl rfl ?_
  refine s_gf (p' := 6) rfl (rd_ss rfl (rd_sn rfl (rd_sn rfl (rd_sn rfl (rd_sn rfl (rd_sn rfl (rd_sn rfl (rd_sn rfl (rd_sn rfl (rd_sn rfl (rd_sn rfl (rd_sn rfl (rd_sn rfl (rd_sn rfl (rd_sn rfl (rd_sn rfl (rd_sn rfl H400))))))))))))))))) rfl rfl ?_
  refine s_astn (p' := 7) (ls' := [_, _, _, _, _, _, _]) rfl rfl rfl rfl ?_
  refine s_aldn (p' := 8) rfl rfl rfl ?_
  refine s_lenz (p' := 9) rfl (mj_rdA_is (rd_sn rfl (rd_sn rfl (rd_sn rfl (rd_sn rfl (rd_sn rfl (rd_sn rfl (rd_sn rfl (rd_sn rfl (rd_sn rfl (rd_sn rfl (rd_sn rfl (rd_sn rfl (rd_sn rfl (rd_sn rfl (rd_sn rfl (rd_sn rfl (rd_sn rfl H411))))))))))))))))) (by decide)) rfl rfl ?_
  refine s_ist (p' := 11) (ls' := [_, _, _, _, _, _, _]) rfl rfl rfl rfl ?_
  refine s_con (p' := 12) rfl rfl ?_
  refine s_ist (p' := 14) (ls' := [_, _, _, _, _, _, _]) rfl rfl rfl rfl ?_
  refine s_ild (p' := 16) rfl rfl rfl ?_
  refine s_ild (p' := 18) rfl rfl rfl ?_
  refine s_icmp (p' := 21) false rfl (by decide +kernel) rfl ?_
  refine s_aldn (p' := 22) rfl rfl rfl ?_
  refine s_ild (p' := 24) rfl rfl rfl ?_
  refine s_ialz (p' := 25) (m := 0) (v := (nI 0)) rfl (rd_sn rfl (rd_sn rfl (rd_sn rfl (rd_sn rfl (rd_sn rfl (rd_sn rfl (rd_sn rfl (rd_sn rfl (rd_sn rfl (rd_sn rfl (rd_sn rfl (rd_sn rfl (rd_sn rfl (rd_sn rfl (rd_sn rfl (rd_sn rfl (rd_sn rfl H411))))))))))))))))) (by decide +kernel) rfl (by decide +kernel) rfl ?_
  refine s_ist (p' := 27) (ls' := [_, _, _, _, _, _, _]) rfl rfl rfl rfl ?_
  refine s_ildn (p' := 28) rfl rfl rfl ?_
  refine s_ild (p' := 30) rfl rfl rfl ?_
  refine s_ildn (p' := 31) rfl rfl rfl ?_
  refine s_icmp (p' := 38) true rfl (by decide +kernel) rfl ?_
  refine s_con (p' := 39) rfl rfl ?_
  refine s_bz (p' := 40) (z := (nI 0)) rfl rfl rfl (by decide +kernel) ?_
  refine s_istn (p' := 41) (ls' := [_, _, _, _, _, _, _]) rfl rfl rfl rfl ?_
  refine s_incz (p' := 44) (w := (nI 1)) (ls' := [_, _, _, _, _, _, _]) rfl rfl rfl (by decide +kernel) rfl rfl ?_
  refine s_goto (p' := 14) rfl rfl ?_
  refine s_ild (p' := 16) rfl rfl rfl ?_
  refine s_ild (p' := 18) rfl rfl rfl ?_
  refine s_icmp (p' := 21) false rfl (by decide +kernel) rfl ?_
  refine s_aldn (p' := 22) rfl rfl rfl ?_
  refine s_ild (p' := 24) rfl rfl rfl ?_
  refine s_ialz (p' := 25) (m := 1) (v := (nI 0)) rfl (rd_sn rfl (rd_sn rfl (rd_sn rfl (rd_sn rfl (rd_sn rfl (rd_sn rfl (rd_sn rfl (rd_sn rfl (rd_sn rfl (rd_sn rfl (rd_sn rfl (rd_sn rfl (rd_sn rfl (rd_sn rfl (rd_sn rfl (rd_sn rfl (rd_sn rfl H411))))))))))))))))) (by decide +kernel) rfl (by decide +kernel) rfl ?_
  refine s_ist (p' := 27) (ls' := [_, _, _, _, _, _, _]) rfl rfl rfl rfl ?_
  refine s_ildn (p' := 28) rfl rfl rfl ?_
  refine s_ild (p' := 30) rfl rfl rfl ?_
  refine s_ildn (p' := 31) rfl rfl rfl ?_
  refine s_icmp (p' := 38) true rfl (by decide +kernel) rfl ?_
  refine s_con (p' := 39) rfl rfl ?_
  refine s_bz (p' := 40) (z := (nI 0)) rfl rfl rfl (by decide +kernel) ?_
  refine s_istn (p' := 41) (ls' := [_, _, _, _, _, _, _]) rfl rfl rfl rfl ?_
  refine s_incz (p' := 44) (w := (nI 2)) (ls' := [_, _, _, _, _, _, _]) rfl rfl rfl (by decide +kernel) rfl rfl ?_
  refine s_goto (p' := 14) rfl rfl ?_
  refine s_ild (p' := 16) rfl rfl rfl ?_
  refine s_ild (p' := 18) rfl rfl rfl ?_
  refine s_icmp (p' := 21) false rfl (by decide +kernel) rfl ?_
  refine s_aldn (p' := 22) rfl rfl rfl ?_
  refine s_ild (p' := 24) rfl rfl rfl ?_
  refine s_ialz (p' := 25) (m := 2) (v := (nI 0)) rfl (rd_sn rfl (rd_sn rfl (rd_sn rfl (rd_sn rfl (rd_sn rfl (rd_sn rfl (rd_sn rfl (rd_sn rfl (rd_sn rfl (rd_sn rfl (rd_sn rfl (rd_sn rfl (rd_sn rfl (rd_sn rfl (rd_sn rfl (rd_sn rfl (rd_sn rfl H411))))))))))))))))) (by decide +kernel) rfl (by decide +kernel) rfl ?_
  refine s_ist (p' := 27) (ls' := [_, _, _, _, _, _, _]) rfl rfl rfl rfl ?_
  refine s_ildn (p' := 28) rfl rfl rfl ?_
  refine s_ild (p' := 30) rfl rfl rfl ?_
  refine s_ildn (p' := 31) rfl rfl rfl ?_
  refine s_icmp (p' := 38) true rfl (by decide +kernel) rfl ?_
  refine s_con (p' := 39) rfl rfl ?_
  refine s_bz (p' := 40) (z := (nI 0)) rfl rfl rfl (by decide +kernel) ?_
  refine s_istn (p' := 41) (ls' := [_, _, _, _, _, _, _]) rfl rfl rfl rfl ?_
  refine s_incz (p' := 44) (w := (nI 3)) (ls' := [_, _, _, _, _, _, _]) rfl rfl rfl (by decide +kernel) rfl rfl ?_
  refine s_goto (p' := 14) rfl rfl ?_
  refine s_ild (p' := 16) rfl rfl rfl ?_
  refine s_ild (p' := 18) rfl rfl rfl ?_
  refine s_icmp (p' := 21) false rfl (by decide +kernel) rfl ?_
  refine s_aldn (p' := 22) rfl rfl rfl ?_
  refine s_ild (p' := 24) rfl rfl rfl ?_
  refine s_ialz (p' := 25) (m := 3) (v := (nI 0)) rfl (rd_sn rfl (rd_sn rfl (rd_sn rfl (rd_sn rfl (rd_sn rfl (rd_sn rfl (rd_sn rfl (rd_sn rfl (rd_sn rfl (rd_sn rfl (rd_sn rfl (rd_sn rfl (rd_sn rfl (rd_sn rfl (rd_sn rfl (rd_sn rfl (rd_sn rfl H411))))))))))))))))) (by decide +kernel) rfl (by decide +kernel) rfl ?_
  refine s_ist (p' := 27) (ls' := [_, _, _, _, _, _, _]) rfl rfl rfl rfl ?_
  refine s_ildn (p' := 28) rfl rfl rfl ?_
  refine s_ild (p' := 30) rfl rfl rfl ?_
  refine s_ildn (p' := 31) rfl rfl rfl ?_
  refine s_icmp (p' := 38) true rfl (by decide +kernel) rfl ?_
  refine s_con (p' := 39) rfl rfl ?_
  refine s_bz (p' := 40) (z := (nI 0)) rfl rfl rfl (by decide +kernel) ?_
  refine s_istn (p' := 41) (ls' := [_, _, _, _, _, _, _]) rfl rfl rfl rfl ?_
  refine s_incz (p' := 44) (w := (nI 4)) (ls' := [_, _, _, _, _, _, _]) rfl rfl rfl (by decide +kernel) rfl rfl ?_
  refine s_goto (p' := 14) rfl rfl ?_
  refine s_ild (p' := 16) rfl rfl rfl ?_
  refine s_ild (p' := 18) rfl rfl rfl ?_
  refine s_icmp (p' := 21) false rfl (by decide +kernel) rfl ?_
  refine s_aldn (p' := 22) rfl rfl rfl ?_
  refine s_ild (p' := 24) rfl rfl rfl ?_
  refine s_ialz (p' := 25) (m := 4) (v := (nI 0)) rfl (rd_sn rfl (rd_sn rfl (rd_sn rfl (rd_sn rfl (rd_sn rfl (rd_sn rfl (rd_sn rfl (rd_sn rfl (rd_sn rfl (rd_sn rfl (rd_sn rfl (rd_sn rfl (rd_sn rfl (rd_sn rfl (rd_sn rfl (rd_sn rfl (rd_sn rfl H411))))))))))))))))) (by decide +kernel) rfl (by decide +kernel) rfl ?_
  refine s_ist (p' := 27) (ls' := [_, _, _, _, _, _, _]) rfl rfl rfl rfl ?_
  refine s_ildn (p' := 28) rfl rfl rfl ?_
  refine s_ild (p' := 30) rfl rfl rfl ?_
  refine s_ildn (p' := 31) rfl rfl rfl ?_
  refine s_icmp (p' := 38) true rfl (by decide +kernel) rfl ?_
  refine s_con (p' := 39) rfl rfl ?_
  refine s_bz (p' := 40) (z := (nI 0)) rfl rfl rfl (by decide +kernel) ?_
  refine s_istn (p' := 41) (ls' := [_, _, _, _, _, _, _]) rfl rfl rfl rfl ?_
  refine s_incz (p' := 44) (w := (nI 5)) (ls' := [_, _, _, _, _, _, _]) rfl rfl rfl (by decide +kernel) rfl rfl ?_
  refine s_goto (p' := 14) rfl rfl ?_
  refine s_ild (p' := 16) rfl rfl rfl ?_
  refine s_ild (p' := 18) rfl rfl rfl ?_
  refine s_icmp (p' := 21) false rfl (by decide +kernel) rfl ?_
  refine s_aldn (p' := 22) rfl rfl rfl ?_
  refine s_ild (p' := 24) rfl rfl rfl ?_
  refine s_ialz (p' := 25) (m := 5) (v := (nI 0)) rfl (rd_sn rfl (rd_sn rfl (rd_sn rfl (rd_sn rfl (rd_sn rfl (rd_sn rfl (rd_sn rfl (rd_sn rfl (rd_sn rfl (rd_sn rfl (rd_sn rfl (rd_sn rfl (rd_sn rfl (rd_sn rfl (rd_sn rfl (rd_sn rfl (rd_sn rfl H411))))))))))))))))) (by decide +kernel) rfl (by decide +kernel) rfl ?_
  refine s_ist (p' := 27) (ls' := [_, _, _, _, _, _, _]) rfl rfl rfl rfl ?_
  refine s_ildn (p' := 28) rfl rfl rfl ?_
  refine s_ild (p' := 30) rfl rfl rfl ?_
  refine s_ildn (p' := 31) rfl rfl rfl ?_
  refine s_icmp (p' := 38) true rfl (by decide +kernel) rfl ?_
  refine s_con (p' := 39) rfl rfl ?_
  refine s_bz (p' := 40) (z := (nI 0)) rfl rfl rfl (by decide +kernel) ?_
  refine s_istn (p' := 41) (ls' := [_, _, _, _, _, _, _]) rfl rfl rfl rfl ?_
  refine s_incz (p' := 44) (w := (nI 6)) (ls' := [_, _, _, _, _, _, _]) rfl rfl rfl (by decide +kernel) rfl rfl ?_
  refine s_goto (p' := 14) rfl rfl ?_
  refine s_ild (p' := 16) rfl rfl rfl ?_
  refine s_ild (p' := 18) rfl rfl rfl ?_
  refine s_icmp (p' := 21) false rfl (by decide +kernel) rfl ?_
  refine s_aldn (p' := 22) rfl rfl rfl ?_
  refine s_ild (p' := 24) rfl rfl rfl ?_
  refine s_ialz (p' := 25) (m := 6) (v := (nI 0)) rfl (rd_sn rfl (rd_sn rfl (rd_sn rfl (rd_sn rfl (rd_sn rfl (rd_sn rfl (rd_sn rfl (rd_sn rfl (rd_sn rfl (rd_sn rfl (rd_sn rfl (rd_sn rfl (rd_sn rfl (rd_sn rfl (rd_sn rfl (rd_sn rfl (rd_sn rfl H411))))))))))))))))) (by decide +kernel) rfl (by decide +kernel) rfl ?_
  refine s_ist (p' := 27) (ls' := [_, _, _, _, _, _, _]) rfl rfl rfl rfl ?_
  refine s_ildn (p' := 28) rfl rfl rfl ?_
  refine s_ild (p' := 30) rfl rfl rfl ?_
  refine s_ildn (p' := 31) rfl rfl rfl ?_
  refine s_icmp (p' := 38) true rfl (by decide +kernel) rfl ?_
  refine s_con (p' := 39) rfl rfl ?_
  refine s_bz (p' := 40) (z := (nI 0)) rfl rfl rfl (by decide +kernel) ?_
  refine s_istn (p' := 41) (ls' := [_, _, _, _, _, _, _]) rfl rfl rfl rfl ?_
  refine s_incz (p' := 44) (w := (nI 7)) (ls' := [_, _, _, _, _, _, _]) rfl rfl rfl (by decide +kernel) rfl rfl ?_
  refine s_goto (p' := 14) rfl rfl ?_
  refine s_ild (p' := 16) rfl rfl rfl ?_
  refine s_ild (p' := 18) rfl rfl rfl ?_
  refine s_icmp (p' := 21) false rfl (by decide +kernel) rfl ?_
  refine s_aldn (p' := 22) rfl rfl rfl ?_
  refine s_ild (p' := 24) rfl rfl rfl ?_
  refine s_ialz (p' := 25) (m := 7) (v := (nI 0)) rfl (rd_sn rfl (rd_sn rfl (rd_sn rfl (rd_sn rfl (rd_sn rfl (rd_sn rfl (rd_sn rfl (rd_sn rfl (rd_sn rfl (rd_sn rfl (rd_sn rfl (rd_sn rfl (rd_sn rfl (rd_sn rfl (rd_sn rfl (rd_sn rfl (rd_sn rfl H411))))))))))))))))) (by decide +kernel) rfl (by decide +kernel) rfl ?_
  refine s_ist (p' := 27) (ls' := [_, _, _, _, _, _, _]) rfl rfl rfl rfl ?_
  refine s_ildn (p' := 28) rfl rfl rfl ?_
  refine s_ild (p' := 30) rfl rfl rfl ?_
  refine s_ildn (p' := 31) rfl rfl rfl ?_
  refine s_icmp (p' := 38) true rfl (by decide +kernel) rfl ?_
  refine s_con (p' := 39) rfl rfl ?_
  refine s_bz (p' := 40) (z := (nI 0)) rfl rfl rfl (by decide +kernel) ?_
  refine s_istn (p' := 41) (ls' := [_, _, _, _, _, _, _]) rfl rfl rfl rfl ?_
  refine s_incz (p' := 44) (w := (nI 8)) (ls' := [_, _, _, _, _, _, _]) rfl rfl rfl (by decide +kernel) rfl rfl ?_
  refine s_goto (p' := 14) rfl rfl ?_
  refine s_ild (p' := 16) rfl rfl rfl ?_
  refine s_ild (p' := 18) rfl rfl rfl ?_
  refine s_icmp (p' := 47) true rfl (by decide +kernel) rfl ?_
  refine s_ildn (p' := 48) rfl rfl rfl ?_
  refine c_iret rfl rfl ?_
  refine s_if (p' := 24) false rfl (by decide +kernel) rfl ?_
  refine s_con (p' := 25) rfl rfl ?_
  refine s_goto (p' := 29) rfl rfl ?_
  refine s_bz (p' := 30) (z := (nI 5)) rfl rfl rfl (by decide +kernel) ?_
  refine s_istn (p' := 31) (ls' := [_, _, _]) rfl rfl rfl rfl ?_
  refine s_incz (p' := 34) (w := (nI 6)) (ls' := [_, _, _]) rfl rfl rfl (by decide +kernel) rfl rfl ?_
  refine s_goto (p' := 9) rfl rfl ?_
  refine s_ildn (p' := 10) rfl rfl rfl ?_
  refine s_bip (p' := 12) rfl rfl ?_
  refine s_icmp (p' := 15) false rfl (by decide +kernel) rfl ?_
  refine s_ildn (p' := 16) rfl rfl rfl ?_
  refine s_aldn (p' := 17) rfl rfl rfl ?_
  refine s_ildn (p' := 18) rfl rfl rfl ?_
  refine c_call (p' := 21) (kc := 98) (ls0 := [_, _, _, _, _, _, _]) rfl rfl rfl rfl rfl (mj_rcv_is (rd_ss rfl (rd_sn rfl (rd_sn rfl (rd_sn rfl (rd_sn rfl (rd_sn rfl (rd_sn rfl (rd_sn rfl (rd_sn rfl (rd_sn rfl (rd_sn rfl (rd_sn rfl (rd_sn rfl (rd_sn rfl (rd_sn rfl (rd_sn rfl (rd_sn rfl H400)))))))))))))))))) rfl rfl rfl ?_
  refine s_con (p' := 1) rfl rfl ?_
  refine s_istn (p' := 2) (ls' := [_, _, _, _, _, _, _]) rfl rfl rfl rfl ?_
  refine s_aldn (p' := 3) rfl rfl rfl ?_
  refine s_gf (p' := 6) rfl (rd_ss rfl (rd_sn rfl (rd_sn rfl (rd_sn rfl (rd_sn rfl (rd_sn rfl (rd_sn rfl (rd_sn rfl (rd_sn rfl (rd_sn rfl (rd_sn rfl (rd_sn rfl (rd_sn rfl (rd_sn rfl (rd_sn rfl (rd_sn rfl (rd_sn rfl H400))))))))))))))))) rfl rfl ?_
  refine s_astn (p' := 7) (ls' := [_, _, _, _, _, _, _]) rfl rfl rfl rfl ?_
  refine s_aldn (p' := 8) rfl rfl rfl ?_
  refine s_lenz (p' := 9) rfl (mj_rdA_is (rd_sn rfl (rd_sn rfl (rd_sn rfl (rd_sn rfl (rd_sn rfl (rd_sn rfl (rd_sn rfl (rd_sn rfl (rd_sn rfl (rd_sn rfl (rd_sn rfl (rd_sn rfl (rd_sn rfl (rd_sn rfl (rd_sn rfl (rd_sn rfl (rd_sn rfl H411))))))))))))))))) (by decide)) rfl rfl ?_
  refine s_ist (p' := 11) (ls' := [_, _, _, _, _, _, _]) rfl rfl rfl rfl ?_
  refine s_con (p' := 12) rfl rfl ?_
  refine s_ist (p' := 14) (ls' := [_, _, _, _, _, _, _]) rfl rfl rfl rfl ?_
  refine s_ild (p' := 16) rfl rfl rfl ?_
  refine s_ild (p' := 18) rfl rfl rfl ?_
  refine s_icmp (p' := 21) false rfl (by decide +kernel) rfl ?_
  refine s_aldn (p' := 22) rfl rfl rfl ?_
  refine s_ild (p' := 24) rfl rfl rfl ?_
  refine s_ialz (p' := 25) (m := 0) (v := (nI 0)) rfl (rd_sn rfl (rd_sn rfl (rd_sn rfl (rd_sn rfl (rd_sn rfl (rd_sn rfl (rd_sn rfl (rd_sn rfl (rd_sn rfl (rd_sn rfl (rd_sn rfl (rd_sn rfl (rd_sn rfl (rd_sn rfl (rd_sn rfl (rd_sn rfl (rd_sn rfl H411))))))))))))))))) (by decide +kernel) rfl (by decide +kernel) rfl ?_
  refine s_ist (p' := 27) (ls' := [_, _, _, _, _, _, _]) rfl rfl rfl rfl ?_
  refine s_ildn (p' := 28) rfl rfl rfl ?_
  refine s_ild (p' := 30) rfl rfl rfl ?_
  refine s_ildn (p' := 31) rfl rfl rfl ?_
  refine s_icmp (p' := 38) true rfl (by decide +kernel) rfl ?_
  refine s_con (p' := 39) rfl rfl ?_
  refine s_bz (p' := 40) (z := (nI 0)) rfl rfl rfl (by decide +kernel) ?_
  refine s_istn (p' := 41) (ls' := [_, _, _, _, _, _, _]) rfl rfl rfl rfl ?_
  refine s_incz (p' := 44) (w := (nI 1)) (ls' := [_, _, _, _, _, _, _]) rfl rfl rfl (by decide +kernel) rfl rfl ?_
  refine s_goto (p' := 14) rfl rfl ?_
  refine s_ild (p' := 16) rfl rfl rfl ?_
  refine s_ild (p' := 18) rfl rfl rfl ?_
  refine s_icmp (p' := 21) false rfl (by decide +kernel) rfl ?_
  refine s_aldn (p' := 22) rfl rfl rfl ?_
  refine s_ild (p' := 24) rfl rfl rfl ?_
  refine s_ialz (p' := 25) (m := 1) (v := (nI 0)) rfl (rd_sn rfl (rd_sn rfl (rd_sn rfl (rd_sn rfl (rd_sn rfl (rd_sn rfl (rd_sn rfl (rd_sn rfl (rd_sn rfl (rd_sn rfl (rd_sn rfl (rd_sn rfl (rd_sn rfl (rd_sn rfl (rd_sn rfl (rd_sn rfl (rd_sn rfl H411))))))))))))))))) (by decide +kernel) rfl (by decide +kernel) rfl ?_
  refine s_ist (p' := 27) (ls' := [_, _, _, _, _, _, _]) rfl rfl rfl rfl ?_
  refine s_ildn (p' := 28) rfl rfl rfl ?_
  refine s_ild (p' := 30) rfl rfl rfl ?_
  refine s_ildn (p' := 31) rfl rfl rfl ?_
  refine s_icmp (p' := 38) true rfl (by decide +kernel) rfl ?_
  refine s_con (p' := 39) rfl rfl ?_
  refine s_bz (p' := 40) (z := (nI 0)) rfl rfl rfl (by decide +kernel) ?_
  refine s_istn (p' := 41) (ls' := [_, _, _, _, _, _, _]) rfl rfl rfl rfl ?_
  refine s_incz (p' := 44) (w := (nI 2)) (ls' := [_, _, _, _, _, _, _]) rfl rfl rfl (by decide +kernel) rfl rfl ?_
  refine s_goto (p' := 14) rfl rfl ?_
  refine s_ild (p' := 16) rfl rfl rfl ?_
  refine s_ild (p' := 18) rfl rfl rfl ?_
  refine s_icmp (p' := 21) false rfl (by decide +kernel) rfl ?_
  refine s_aldn (p' := 22) rfl rfl rfl ?_
  refine s_ild (p' := 24) rfl rfl rfl ?_
  refine s_ialz (p' := 25) (m := 2) (v := (nI 0)) rfl (rd_sn rfl (rd_sn rfl (rd_sn rfl (rd_sn rfl (rd_sn rfl (rd_sn rfl (rd_sn rfl (rd_sn rfl (rd_sn rfl (rd_sn rfl (rd_sn rfl (rd_sn rfl (rd_sn rfl (rd_sn rfl (rd_sn rfl (rd_sn rfl (rd_sn rfl H411))))))))))))))))) (by decide +kernel) rfl (by decide +kernel) rfl ?_
  refine s_ist (p' := 27) (ls' := [_, _, _, _, _, _, _]) rfl rfl rfl rfl ?_
  refine s_ildn (p' := 28) rfl rfl rfl ?_
  refine s_ild (p' := 30) rfl rfl rfl ?_
  refine s_ildn (p' := 31) rfl rfl rfl ?_
  refine s_icmp (p' := 38) true rfl (by decide +kernel) rfl ?_
  refine s_con (p' := 39) rfl rfl ?_
  refine s_bz (p' := 40) (z := (nI 0)) rfl rfl rfl (by decide +kernel) ?_
  refine s_istn (p' := 41) (ls' := [_, _, _, _, _, _, _]) rfl rfl rfl rfl ?_
  refine s_incz (p' := 44) (w := (nI 3)) (ls' := [_, _, _, _, _, _, _]) rfl rfl rfl (by decide +kernel) rfl rfl ?_
  refine s_goto (p' := 14) rfl rfl ?_
  refine s_ild (p' := 16) rfl rfl rfl ?_
  refine s_ild (p' := 18) rfl rfl rfl ?_
  refine s_icmp (p' := 21) false rfl (by decide +kernel) rfl ?_
  refine s_aldn (p' := 22) rfl rfl rfl ?_
  refine s_ild (p' := 24) rfl rfl rfl ?_
  refine s_ialz (p' := 25) (m := 3) (v := (nI 0)) rfl (rd_sn rfl (rd_sn rfl (rd_sn rfl (rd_sn rfl (rd_sn rfl (rd_sn rfl (rd_sn rfl (rd_sn rfl (rd_sn rfl (rd_sn rfl (rd_sn rfl (rd_sn rfl (rd_sn rfl (rd_sn rfl (rd_sn rfl (rd_sn rfl (rd_sn rfl H411))))))))))))))))) (by decide +kernel) rfl (by decide +kernel) rfl ?_
  refine s_ist (p' := 27) (ls' := [_, _, _, _, _, _, _]) rfl rfl rfl rfl ?_
  refine s_ildn (p' := 28) rfl rfl rfl ?_
  refine s_ild (p' := 30) rfl rfl rfl ?_
  refine s_ildn (p' := 31) rfl rfl rfl ?_
  refine s_icmp (p' := 38) true rfl (by decide +kernel) rfl ?_
  refine s_con (p' := 39) rfl rfl ?_
  refine s_bz (p' := 40) (z := (nI 0)) rfl rfl rfl (by decide +kernel) ?_
  refine s_istn (p' := 41) (ls' := [_, _, _, _, _, _, _]) rfl rfl rfl rfl ?_
  refine s_incz (p' := 44) (w := (nI 4)) (ls' := [_, _, _, _, _, _, _]) rfl rfl rfl (by decide +kernel) rfl rfl ?_
  refine s_goto (p' := 14) rfl rfl ?_
  refine s_ild (p' := 16) rfl rfl rfl ?_
  refine s_ild (p' := 18) rfl rfl rfl ?_
  refine s_icmp (p' := 21) false rfl (by decide +kernel) rfl ?_
  refine s_aldn (p' := 22) rfl rfl rfl ?_
  refine s_ild (p' := 24) rfl rfl rfl ?_
  refine s_ialz (p' := 25) (m := 4) (v := (nI 0)) rfl (rd_sn rfl (rd_sn rfl (rd_sn rfl (rd_sn rfl (rd_sn rfl (rd_sn rfl (rd_sn rfl (rd_sn rfl (rd_sn rfl (rd_sn rfl (rd_sn rfl (rd_sn rfl (rd_sn rfl (rd_sn rfl (rd_sn rfl (rd_sn rfl (rd_sn rfl H411))))))))))))))))) (by decide +kernel) rfl (by decide +kernel) rfl ?_
  refine s_ist (p' := 27) (ls' := [_, _, _, _, _, _, _]) rfl rfl rfl rfl ?_
  refine s_ildn (p' := 28) rfl rfl rfl ?_
  refine s_ild (p' := 30) rfl rfl rfl ?_
  refine s_ildn (p' := 31) rfl rfl rfl ?_
  refine s_icmp (p' := 38) true rfl (by decide +kernel) rfl ?_
  refine s_con (p' := 39) rfl rfl ?_
  refine s_bz (p' := 40) (z := (nI 0)) rfl rfl rfl (by decide +kernel) ?_
  refine s_istn (p' := 41) (ls' := [_, _, _, _, _, _, _]) rfl rfl rfl rfl ?_
  refine s_incz (p' := 44) (w := (nI 5)) (ls' := [_, _, _, _, _, _, _]) rfl rfl rfl (by decide +kernel) rfl rfl ?_
  refine s_goto (p' := 14) rfl rfl ?_
  refine s_ild (p' := 16) rfl rfl rfl ?_
  refine s_ild (p' := 18) rfl rfl rfl ?_
  refine s_icmp (p' := 21) false rfl (by decide +kernel) rfl ?_
  refine s_aldn (p' := 22) rfl rfl rfl ?_
  refine s_ild (p' := 24) rfl rfl rfl ?_
  refine s_ialz (p' := 25) (m := 5) (v := (nI 0)) rfl (rd_sn rfl (rd_sn rfl (rd_sn rfl (rd_sn rfl (rd_sn rfl (rd_sn rfl (rd_sn rfl (rd_sn rfl (rd_sn rfl (rd_sn rfl (rd_sn rfl (rd_sn rfl (rd_sn rfl (rd_sn rfl (rd_sn rfl (rd_sn rfl (rd_sn rfl H411))))))))))))))))) (by decide +kernel) rfl (by decide +kernel) rfl ?_
  refine s_ist (p' := 27) (ls' := [_, _, _, _, _, _, _]) rfl rfl rfl rfl ?_
  refine s_ildn (p' := 28) rfl rfl rfl ?_
  refine s_ild (p' := 30) rfl rfl rfl ?_
  refine s_ildn (p' := 31) rfl rfl rfl ?_
  refine s_icmp (p' := 38) true rfl (by decide +kernel) rfl ?_
  refine s_con (p' := 39) rfl rfl ?_
  refine s_bz (p' := 40) (z := (nI 0)) rfl rfl rfl (by decide +kernel) ?_
  refine s_istn (p' := 41) (ls' := [_, _, _, _, _, _, _]) rfl rfl rfl rfl ?_
  refine s_incz (p' := 44) (w := (nI 6)) (ls' := [_, _, _, _, _, _, _]) rfl rfl rfl (by decide +kernel) rfl rfl ?_
  refine s_goto (p' := 14) rfl rfl ?_
  refine s_ild (p' := 16) rfl rfl rfl ?_
  refine s_ild (p' := 18) rfl rfl rfl ?_
  refine s_icmp (p' := 21) false rfl (by decide +kernel) rfl ?_
  refine s_aldn (p' := 22) rfl rfl rfl ?_
  refine s_ild (p' := 24) rfl rfl rfl ?_
  refine s_ialz (p' := 25) (m := 6) (v := (nI 0)) rfl (rd_sn rfl (rd_sn rfl (rd_sn rfl (rd_sn rfl (rd_sn rfl (rd_sn rfl (rd_sn rfl (rd_sn rfl (rd_sn rfl (rd_sn rfl (rd_sn rfl (rd_sn rfl (rd_sn rfl (rd_sn rfl (rd_sn rfl (rd_sn rfl (rd_sn rfl H411))))))))))))))))) (by decide +kernel) rfl (by decide +kernel) rfl ?_
  refine s_ist (p' := 27) (ls' := [_, _, _, _, _, _, _]) rfl rfl rfl rfl ?_
  refine s_ildn (p' := 28) rfl rfl rfl ?_
  refine s_ild (p' := 30) rfl rfl rfl ?_
  refine s_ildn (p' := 31) rfl rfl rfl ?_
  refine s_icmp (p' := 38) true rfl (by decide +kernel) rfl ?_
  refine s_con (p' := 39) rfl rfl ?_
  refine s_bz (p' := 40) (z := (nI 0)) rfl rfl rfl (by decide +kernel) ?_
  refine s_istn (p' := 41) (ls' := [_, _, _, _, _, _, _]) rfl rfl rfl rfl ?_
  refine s_incz (p' := 44) (w := (nI 7)) (ls' := [_, _, _, _, _, _, _]) rfl rfl rfl (by decide +kernel) rfl rfl ?_
  refine s_goto (p' := 14) rfl rfl ?_
  refine s_ild (p' := 16) rfl rfl rfl ?_
  refine s_ild (p' := 18) rfl rfl rfl ?_
  refine s_icmp (p' := 21) false rfl (by decide +kernel) rfl ?_
  refine s_aldn (p' := 22) rfl rfl rfl ?_
  refine s_ild (p' := 24) rfl rfl rfl ?_
  refine s_ialz (p' := 25) (m := 7) (v := (nI 0)) rfl (rd_sn rfl (rd_sn rfl (rd_sn rfl (rd_sn rfl (rd_sn rfl (rd_sn rfl (rd_sn rfl (rd_sn rfl (rd_sn rfl (rd_sn rfl (rd_sn rfl (rd_sn rfl (rd_sn rfl (rd_sn rfl (rd_sn rfl (rd_sn rfl (rd_sn rfl H411))))))))))))))))) (by decide +kernel) rfl (by decide +kernel) rfl ?_
  refine s_ist (p' := 27) (ls' := [_, _, _, _, _, _, _]) rfl rfl rfl rfl ?_
  refine s_ildn (p' := 28) rfl rfl rfl ?_
  refine s_ild (p' := 30) rfl rfl rfl ?_
  refine s_ildn (p' := 31) rfl rfl rfl ?_
  refine s_icmp (p' := 38) true rfl (by decide +kernel) rfl ?_
  refine s_con (p' := 39) rfl rfl ?_
  refine s_bz (p' := 40) (z := (nI 0)) rfl rfl rfl (by decide +kernel) ?_
  refine s_istn (p' := 41) (ls' := [_, _, _, _, _, _, _]) rfl rfl rfl rfl ?_
  refine s_incz (p' := 44) (w := (nI 8)) (ls' := [_, _, _, _, _, _, _]) rfl rfl rfl (by decide +kernel) rfl rfl ?_
  refine s_goto (p' := 14) rfl rfl ?_
  refine s_ild (p' := 16) rfl rfl rfl ?_
  refine s_ild (p' := 18) rfl rfl rfl ?_
  refine s_icmp (p' := 47) true rfl (by decide +kernel) rfl ?_
  refine s_ildn (p' := 48) rfl rfl rfl ?_
  refine c_iret rfl rfl ?_
  refine s_if (p' := 24) false rfl (by decide +kernel) rfl ?_
  refine s_con (p' := 25) rfl rfl ?_
  refine s_goto (p' := 29) rfl rfl ?_
  refine s_bz (p' := 30) (z := (nI 6)) rfl rfl rfl (by decide +kernel) ?_
  refine s_istn (p' := 31) (ls' := [_, _, _]) rfl rfl rfl rfl ?_
  refine s_incz (p' := 34) (w := (nI 7)) (ls' := [_, _, _]) rfl rfl rfl (by decide +kernel) rfl rfl ?_
  refine s_goto (p' := 9) rfl rfl ?_
  refine s_ildn (p' := 10) rfl rfl rfl ?_
  refine s_bip (p' := 12) rfl rfl ?_
  refine s_icmp (p' := 15) false rfl (by decide +kernel) rfl ?_
  refine s_ildn (p' := 16) rfl rfl rfl ?_
  refine s_aldn (p' := 17) rfl rfl rfl ?_
  refine s_ildn (p' := 18) rfl rfl rfl ?_
  refine c_call (p' := 21) (kc := 98) (ls0 := [_, _, _, _, _, _, _]) rfl rfl rfl rfl rfl (mj_rcv_is (rd_ss rfl (rd_sn rfl (rd_sn rfl (rd_sn rfl (rd_sn rfl (rd_sn rfl (rd_sn rfl (rd_sn rfl (rd_sn rfl (rd_sn rfl (rd_sn rfl (rd_sn rfl (rd_sn rfl (rd_sn rfl (rd_sn rfl (rd_sn rfl (rd_sn rfl H400)))))))))))))))))) rfl rfl rfl ?_
  refine s_con (p' := 1) rfl rfl ?_
  refine s_istn (p' := 2) (ls' := [_, _, _, _, _, _, _]) rfl rfl rfl rfl ?_
  refine s_aldn (p' := 3) rfl rfl rfl ?_
  refine s_gf (p' := 6) rfl (rd_ss rfl (rd_sn rfl (rd_sn rfl (rd_sn rfl (rd_sn rfl (rd_sn rfl (rd_sn rfl (rd_sn rfl (rd_sn rfl (rd_sn rfl (rd_sn rfl (rd_sn rfl (rd_sn rfl (rd_sn rfl (rd_sn rfl (rd_sn rfl (rd_sn rfl H400))))))))))))))))) rfl rfl ?_
  refine s_astn (p' := 7) (ls' := [_, _, _, _, _, _, _]) rfl rfl rfl rfl ?_
  refine s_aldn (p' := 8) rfl rfl rfl ?_
  refine s_lenz (p' := 9) rfl (mj_rdA_is (rd_sn rfl (rd_sn rfl (rd_sn rfl (rd_sn rfl (rd_sn rfl (rd_sn rfl (rd_sn rfl (rd_sn rfl (rd_sn rfl (rd_sn rfl (rd_sn rfl (rd_sn rfl (rd_sn rfl (rd_sn rfl (rd_sn rfl (rd_sn rfl (rd_sn rfl H411))))))))))))))))) (by decide)) rfl rfl ?_
  refine s_ist (p' := 11) (ls' := [_, _, _, _, _, _, _]) rfl rfl rfl rfl ?_
  refine s_con (p' := 12) rfl rfl ?_
  refine s_ist (p' := 14) (ls' := [_, _, _, _, _, _, _]) rfl rfl rfl rfl ?_
  refine s_ild (p' := 16) rfl rfl rfl ?_
  refine s_ild (p' := 18) rfl rfl rfl ?_
  refine s_icmp (p' := 21) false rfl (by decide +kernel) rfl ?_
  refine s_aldn (p' := 22) rfl rfl rfl ?_
  refine s_ild (p' := 24) rfl rfl rfl ?_
  refine s_ialz (p' := 25) (m := 0) (v := (nI 0)) rfl (rd_sn rfl (rd_sn rfl (rd_sn rfl (rd_sn rfl (rd_sn rfl (rd_sn rfl (rd_sn rfl (rd_sn rfl (rd_sn rfl (rd_sn rfl (rd_sn rfl (rd_sn rfl (rd_sn rfl (rd_sn rfl (rd_sn rfl (rd_sn rfl (rd_sn rfl H411))))))))))))))))) (by decide +kernel) rfl (by decide +kernel) rfl ?_
  refine s_ist (p' := 27) (ls' := [_, _, _, _, _, _, _]) rfl rfl rfl rfl ?_
  refine s_ildn (p' := 28) rfl rfl rfl ?_
  refine s_ild (p' := 30) rfl rfl rfl ?_
  refine s_ildn (p' := 31) rfl rfl rfl ?_
  refine s_icmp (p' := 38) true rfl (by decide +kernel) rfl ?_
  refine s_con (p' := 39) rfl rfl ?_
  refine s_bz (p' := 40) (z := (nI 0)) rfl rfl rfl (by decide +kernel) ?_
  refine s_istn (p' := 41) (ls' := [_, _, _, _, _, _, _]) rfl rfl rfl rfl ?_
  refine s_incz (p' := 44) (w := (nI 1)) (ls' := [_, _, _, _, _, _, _]) rfl rfl rfl (by decide +kernel) rfl rfl ?_
  refine s_goto (p' := 14) rfl rfl ?_
  refine s_ild (p' := 16) rfl rfl rfl ?_
  refine s_ild (p' := 18) rfl rfl rfl ?_
  refine s_icmp (p' := 21) false rfl (by decide +kernel) rfl ?_
  refine s_aldn (p' := 22) rfl rfl rfl ?_
  refine s_ild (p' := 24) rfl rfl rfl ?_
  refine s_ialz (p' := 25) (m := 1) (v := (nI 0)) rfl (rd_sn rfl (rd_sn rfl (rd_sn rfl (rd_sn rfl (rd_sn rfl (rd_sn rfl (rd_sn rfl (rd_sn rfl (rd_sn rfl (rd_sn rfl (rd_sn rfl (rd_sn rfl (rd_sn rfl (rd_sn rfl (rd_sn rfl (rd_sn rfl (rd_sn rfl H411))))))))))))))))) (by decide +kernel) rfl (by decide +kernel) rfl ?_
  refine s_ist (p' := 27) (ls' := [_, _, _, _, _, _, _]) rfl rfl rfl rfl ?_
  refine s_ildn (p' := 28) rfl rfl rfl ?_
  refine s_ild (p' := 30) rfl rfl rfl ?_
  refine s_ildn (p' := 31) rfl rfl rfl ?_
  refine s_icmp (p' := 38) true rfl (by decide +kernel) rfl ?_
  refine s_con (p' := 39) rfl rfl ?_
  refine s_bz (p' := 40) (z := (nI 0)) rfl rfl rfl (by decide +kernel) ?_
  refine s_istn (p' := 41) (ls' := [_, _, _, _, _, _, _]) rfl rfl rfl rfl ?_
  refine s_incz (p' := 44) (w := (nI 2)) (ls' := [_, _, _, _, _, _, _]) rfl rfl rfl (by decide +kernel) rfl rfl ?_
  refine s_goto (p' := 14) rfl rfl ?_
  refine s_ild (p' := 16) rfl rfl rfl ?_
  refine s_ild (p' := 18) rfl rfl rfl ?_
  refine s_icmp (p' := 21) false rfl (by decide +kernel) rfl ?_
  refine s_aldn (p' := 22) rfl rfl rfl ?_
  refine s_ild (p' := 24) rfl rfl rfl ?_
  refine s_ialz (p' := 25) (m := 2) (v := (nI 0)) rfl (rd_sn rfl (rd_sn rfl (rd_sn rfl (rd_sn rfl (rd_sn rfl (rd_sn rfl (rd_sn rfl (rd_sn rfl (rd_sn rfl (rd_sn rfl (rd_sn rfl (rd_sn rfl (rd_sn rfl (rd_sn rfl (rd_sn rfl (rd_sn rfl (rd_sn rfl H411))))))))))))))))) (by decide +kernel) rfl (by decide +kernel) rfl ?_
  refine s_ist (p' := 27) (ls' := [_, _, _, _, _, _, _]) rfl rfl rfl rfl ?_
  refine s_ildn (p' := 28) rfl rfl rfl ?_
  refine s_ild (p' := 30) rfl rfl rfl ?_
  refine s_ildn (p' := 31) rfl rfl rfl ?_
  refine s_icmp (p' := 38) true rfl (by decide +kernel) rfl ?_
  refine s_con (p' := 39) rfl rfl ?_
  refine s_bz (p' := 40) (z := (nI 0)) rfl rfl rfl (by decide +kernel) ?_
  refine s_istn (p' := 41) (ls' := [_, _, _, _, _, _, _]) rfl rfl rfl rfl ?_
  refine s_incz (p' := 44) (w := (nI 3)) (ls' := [_, _, _, _, _, _, _]) rfl rfl rfl (by decide +kernel) rfl rfl ?_
  refine s_goto (p' := 14) rfl rfl ?_
  refine s_ild (p' := 16) rfl rfl rfl ?_
  refine s_ild (p' := 18) rfl rfl rfl ?_
  refine s_icmp (p' := 21) false rfl (by decide +kernel) rfl ?_
  refine s_aldn (p' := 22) rfl rfl rfl ?_
  refine s_ild (p' := 24) rfl rfl rfl ?_
  refine s_ialz (p' := 25) (m := 3) (v := (nI 0)) rfl (rd_sn rfl (rd_sn rfl (rd_sn rfl (rd_sn rfl (rd_sn rfl (rd_sn rfl (rd_sn rfl (rd_sn rfl (rd_sn rfl (rd_sn rfl (rd_sn rfl (rd_sn rfl (rd_sn rfl (rd_sn rfl (rd_sn rfl (rd_sn rfl (rd_sn rfl H411))))))))))))))))) (by decide +kernel) rfl (by decide +kernel) rfl ?_
  refine s_ist (p' := 27) (ls' := [_, _, _, _, _, _, _]) rfl rfl rfl rfl ?_
  refine s_ildn (p' := 28) rfl rfl rfl ?_
  refine s_ild (p' := 30) rfl rfl rfl ?_
  refine s_ildn (p' := 31) rfl rfl rfl ?_
  refine s_icmp (p' := 38) true rfl (by decide +kernel) rfl ?_
  refine s_con (p' := 39) rfl rfl ?_
  refine s_bz (p' := 40) (z := (nI 0)) rfl rfl rfl (by decide +kernel) ?_
  refine s_istn (p' := 41) (ls' := [_, _, _, _, _, _, _]) rfl rfl rfl rfl ?_
  refine s_incz (p' := 44) (w := (nI 4)) (ls' := [_, _, _, _, _, _, _]) rfl rfl rfl (by decide +kernel) rfl rfl ?_
  refine s_goto (p' := 14) rfl rfl ?_
  refine s_ild (p' := 16) rfl rfl rfl ?_
  refine s_ild (p' := 18) rfl rfl rfl ?_
  refine s_icmp (p' := 21) false rfl (by decide +kernel) rfl ?_
  refine s_aldn (p' := 22) rfl rfl rfl ?_
  refine s_ild (p' := 24) rfl rfl rfl ?_
  refine s_ialz (p' := 25) (m := 4) (v := (nI 0)) rfl (rd_sn rfl (rd_sn rfl (rd_sn rfl (rd_sn rfl (rd_sn rfl (rd_sn rfl (rd_sn rfl (rd_sn rfl (rd_sn rfl (rd_sn rfl (rd_sn rfl (rd_sn rfl (rd_sn rfl (rd_sn rfl (rd_sn rfl (rd_sn rfl (rd_sn rfl H411))))))))))))))))) (by decide +kernel) rfl (by decide +kernel) rfl ?_
  refine s_ist (p' := 27) (ls' := [_, _, _, _, _, _, _]) rfl rfl rfl rfl ?_
  refine s_ildn (p' := 28) rfl rfl rfl ?_
  refine s_ild (p' := 30) rfl rfl rfl ?_
  refine s_ildn (p' := 31) rfl rfl rfl ?_
  refine s_icmp (p' := 38) true rfl (by decide +kernel) rfl ?_
  refine s_con (p' := 39) rfl rfl ?_
  refine s_bz (p' := 40) (z := (nI 0)) rfl rfl rfl (by decide +kernel) ?_
  refine s_istn (p' := 41) (ls' := [_, _, _, _, _, _, _]) rfl rfl rfl rfl ?_
  refine s_incz (p' := 44) (w := (nI 5)) (ls' := [_, _, _, _, _, _, _]) rfl rfl rfl (by decide +kernel) rfl rfl ?_
  refine s_goto (p' := 14) rfl rfl ?_
  refine s_ild (p' := 16) rfl rfl rfl ?_
  refine s_ild (p' := 18) rfl rfl rfl ?_
  refine s_icmp (p' := 21) false rfl (by decide +kernel) rfl ?_
  refine s_aldn (p' := 22) rfl rfl rfl ?_
  refine s_ild (p' := 24) rfl rfl rfl ?_
  refine s_ialz (p' := 25) (m := 5) (v := (nI 0)) rfl (rd_sn rfl (rd_sn rfl (rd_sn rfl (rd_sn rfl (rd_sn rfl (rd_sn rfl (rd_sn rfl (rd_sn rfl (rd_sn rfl (rd_sn rfl (rd_sn rfl (rd_sn rfl (rd_sn rfl (rd_sn rfl (rd_sn rfl (rd_sn rfl (rd_sn rfl H411))))))))))))))))) (by decide +kernel) rfl (by decide +kernel) rfl ?_
  refine s_ist (p' := 27) (ls' := [_, _, _, _, _, _, _]) rfl rfl rfl rfl ?_
  refine s_ildn (p' := 28) rfl rfl rfl ?_
  refine s_ild (p' := 30) rfl rfl rfl ?_
  refine s_ildn (p' := 31) rfl rfl rfl ?_
  refine s_icmp (p' := 38) true rfl (by decide +kernel) rfl ?_
  refine s_con (p' := 39) rfl rfl ?_
  refine s_bz (p' := 40) (z := (nI 0)) rfl rfl rfl (by decide +kernel) ?_
  refine s_istn (p' := 41) (ls' := [_, _, _, _, _, _, _]) rfl rfl rfl rfl ?_
  refine s_incz (p' := 44) (w := (nI 6)) (ls' := [_, _, _, _, _, _, _]) rfl rfl rfl (by decide +kernel) rfl rfl ?_
  refine s_goto (p' := 14) rfl rfl ?_
  refine s_ild (p' := 16) rfl rfl rfl ?_
  refine s_ild (p' := 18) rfl rfl rfl ?_
  refine s_icmp (p' := 21) false rfl (by decide +kernel) rfl ?_
  refine s_aldn (p' := 22) rfl rfl rfl ?_
  refine s_ild (p' := 24) rfl rfl rfl ?_
  refine s_ialz (p' := 25) (m := 6) (v := (nI 0)) rfl (rd_sn rfl (rd_sn rfl (rd_sn rfl (rd_sn rfl (rd_sn rfl (rd_sn rfl (rd_sn rfl (rd_sn rfl (rd_sn rfl (rd_sn rfl (rd_sn rfl (rd_sn rfl (rd_sn rfl (rd_sn rfl (rd_sn rfl (rd_sn rfl (rd_sn rfl H411))))))))))))))))) (by decide +kernel) rfl (by decide +kernel) rfl ?_
  refine s_ist (p' := 27) (ls' := [_, _, _, _, _, _, _]) rfl rfl rfl rfl ?_
  refine s_ildn (p' := 28) rfl rfl rfl ?_
  refine s_ild (p' := 30) rfl rfl rfl ?_
  refine s_ildn (p' := 31) rfl rfl rfl ?_
  refine s_icmp (p' := 38) true rfl (by decide +kernel) rfl ?_
  refine s_con (p' := 39) rfl rfl ?_
  refine s_bz (p' := 40) (z := (nI 0)) rfl rfl rfl (by decide +kernel) ?_
  refine s_istn (p' := 41) (ls' := [_, _, _, _, _, _, _]) rfl rfl rfl rfl ?_
  refine s_incz (p' := 44) (w := (nI 7)) (ls' := [_, _, _, _, _, _, _]) rfl rfl rfl (by decide +kernel) rfl rfl ?_
  refine s_goto (p' := 14) rfl rfl ?_
  refine s_ild (p' := 16) rfl rfl rfl ?_
  refine s_ild (p' := 18) rfl rfl rfl ?_
  refine s_icmp (p' := 21) false rfl (by decide +kernel) rfl ?_
  refine s_aldn (p' := 22) rfl rfl rfl ?_
  refine s_ild (p' := 24) rfl rfl rfl ?_
  refine s_ialz (p' := 25) (m := 7) (v := (nI 0)) rfl (rd_sn rfl (rd_sn rfl (rd_sn rfl (rd_sn rfl (rd_sn rfl (rd_sn rfl (rd_sn rfl (rd_sn rfl (rd_sn rfl (rd_sn rfl (rd_sn rfl (rd_sn rfl (rd_sn rfl (rd_sn rfl (rd_sn rfl (rd_sn rfl (rd_sn rfl H411))))))))))))))))) (by decide +kernel) rfl (by decide +kernel) rfl ?_
  refine s_ist (p' := 27) (ls' := [_, _, _, _, _, _, _]) rfl rfl rfl rfl ?_
  refine s_ildn (p' := 28) rfl rfl rfl ?_
  refine s_ild (p' := 30) rfl rfl rfl ?_
  refine s_ildn (p' := 31) rfl rfl rfl ?_
  refine s_icmp (p' := 38) true rfl (by decide +kernel) rfl ?_
  refine s_con (p' := 39) rfl rfl ?_
  refine s_bz (p' := 40) (z := (nI 0)) rfl rfl rfl (by decide +kernel) ?_
  refine s_istn (p' := 41) (ls' := [_, _, _, _, _, _, _]) rfl rfl rfl rfl ?_
  refine s_incz (p' := 44) (w := (nI 8)) (ls' := [_, _, _, _, _, _, _]) rfl rfl rfl (by decide +kernel) rfl rfl ?_
  refine s_goto (p' := 14) rfl rfl ?_
  refine s_ild (p' := 16) rfl rfl rfl ?_
  refine s_ild (p' := 18) rfl rfl rfl ?_
  refine s_icmp (p' := 47) true rfl (by decide +kernel) rfl ?_
  refine s_ildn (p' := 48) rfl rfl rfl ?_
  refine c_iret rfl rfl ?_
  refine s_if (p' := 24) false rfl (by decide +kernel) rfl ?_
  refine s_con (p' := 25) rfl rfl ?_
  refine s_goto (p' := 29) rfl rfl ?_
  refine s_bz (p' := 30) (z := (nI 7)) rfl rfl rfl (by decide +kernel) ?_
  refine s_istn (p' := 31) (ls' := [_, _, _]) rfl rfl rfl rfl ?_
  refine s_incz (p' := 34) (w := (nI 8)) (ls' := [_, _, _]) rfl rfl rfl (by decide +kernel) rfl rfl ?_
  refine s_goto (p' := 9) rfl rfl ?_
  refine s_ildn (p' := 10) rfl rfl rfl ?_
  refine s_bip (p' := 12) rfl rfl ?_
  refine s_icmp (p' := 37) true rfl (by decide +kernel) rfl ?_
  refine s_ildn (p' := 38) rfl rfl rfl ?_
  refine s_bzF (p' := 39) (z := (UInt32.ofNat 1088421888)) rfl rfl rfl (by decide +kernel) ?_
  refine s_sh (p' := 42) (ls' := _) (st' := .float (UInt32.ofNat 1090519040) :: _) (h' := _) rfl rfl rfl rfl ?_
  refine s_fdivz (p' := 43) (z := (UInt32.ofNat 1063256064)) rfl (by decide +kernel) (by decide +kernel) rfl ?_
  refine k_fret rfl ?_
  refine l_f2dz (p' := 2281) (z := (UInt64.ofNat 4606056518893174784)) rfl rfl (by decide +kernel) (by decide +kernel) rfl ?_
  refine l_sp (p' := 2283) (ls' := [_, _, _, _, _, _, _, _, _, _]) rfl rfl rfl rfl rfl ?_
  refine l_sp (p' := 2285) (ls' := _) rfl rfl rfl rfl rfl ?_
  refine l_sp (p' := 2287) (ls' := _) rfl rfl rfl rfl rfl ?_
  refine l_bz (p' := 2288) (z := (nI 0)) rfl rfl rfl rfl rfl (by decide +kernel) ?_
  refine l_if (p' := 2309) true rfl rfl (by decide +kernel) rfl ?_
  refine l_goto (p' := 2541) rfl rfl rfl ?_
  refine l_incz (p' := 2544) (w := (nI 4)) (ls' := [_, _, _, _, _, _, _, _, _, _]) rfl rfl rfl rfl (by decide +kernel) rfl rfl ?_
  refine l_goto (p' := 28) rfl rfl rfl ?_
  refine l_ild (p' := 30) rfl rfl rfl rfl ?_
  refine l_alds (p' := 31) rfl rfl rfl rfl ?_
  refine l_lens (p' := 32) rfl rfl rfl ?_
  refine l_con (p' := 33) rfl rfl rfl ?_
  refine l_bz (p' := 34) (z := (nI 0)) rfl rfl rfl rfl rfl (by decide +kernel) ?_
  refine l_icmp (p' := 2547) true rfl rfl (by decide +kernel) rfl ?_
  refine l_con (p' := 2548) rfl rfl rfl ?_
  refine l_end rfl rfl ?_
  exact ⟨Nat.le_trans (Nat.le_of_eq (len_s (len_s (len_s (len_s (len_s (len_s (len_s (len_s (len_s (len_s (len_s (len_s (len_s (len_s (len_s (len_s (len_s HL)))))))))))))))))) (Nat.le_of_ble_eq_true rfl), Nat.le_trans (sz_s rfl (rd_sn rfl (rd_sn rfl (rd_sn rfl (rd_sn rfl (rd_sn rfl (rd_sn rfl (rd_sn rfl (rd_sn rfl (rd_sn rfl (rd_sn rfl (rd_sn rfl (rd_sn rfl (rd_sn rfl (rd_sn rfl (rd_sn rfl (rd_sn rfl H400)))))))))))))))) rfl (sz_sA rfl (rd_ss rfl (rd_ss rfl (rd_ss rfl (rd_ss rfl (rd_ss rfl (rd_ss rfl (rd_ss rfl (rd_ss rfl (rd_ss rfl (rd_ss rfl (rd_ss rfl (rd_ss rfl (rd_ss rfl (rd_ss rfl (rd_ss rfl H399))))))))))))))) (sz_sA rfl (rd_ss rfl (rd_ss rfl (rd_ss rfl (rd_ss rfl (rd_ss rfl (rd_ss rfl (rd_ss rfl (rd_ss rfl (rd_ss rfl (rd_ss rfl (rd_ss rfl (rd_ss rfl (rd_ss rfl (rd_ss rfl H399)))))))))))))) (sz_sA rfl (rd_ss rfl (rd_ss rfl (rd_ss rfl (rd_ss rfl (rd_ss rfl (rd_ss rfl (rd_ss rfl (rd_ss rfl (rd_ss rfl (rd_ss rfl (rd_ss rfl (rd_ss rfl (rd_ss rfl H399))))))))))))) (sz_sA rfl (rd_ss rfl (rd_ss rfl (rd_ss rfl (rd_ss rfl (rd_ss rfl (rd_ss rfl (rd_ss rfl (rd_ss rfl (rd_ss rfl (rd_ss rfl (rd_ss rfl (rd_ss rfl H399)))))))))))) (sz_sA rfl (rd_ss rfl (rd_ss rfl (rd_ss rfl (rd_ss rfl (rd_ss rfl (rd_ss rfl (rd_ss rfl (rd_ss rfl (rd_ss rfl (rd_ss rfl (rd_ss rfl H399))))))))))) (sz_sA rfl (rd_ss rfl (rd_ss rfl (rd_ss rfl (rd_ss rfl (rd_ss rfl (rd_ss rfl (rd_ss rfl (rd_ss rfl (rd_ss rfl (rd_ss rfl H399)))))))))) (sz_sA rfl (rd_ss rfl (rd_ss rfl (rd_ss rfl (rd_ss rfl (rd_ss rfl (rd_ss rfl (rd_ss rfl (rd_ss rfl (rd_ss rfl H399))))))))) (sz_sA rfl (rd_ss rfl (rd_ss rfl (rd_ss rfl (rd_ss rfl (rd_ss rfl (rd_ss rfl (rd_ss rfl (rd_ss rfl H399)))))))) (sz_sA rfl (rd_ss rfl (rd_ss rfl (rd_ss rfl (rd_ss rfl (rd_ss rfl (rd_ss rfl (rd_ss rfl H399))))))) (sz_sA rfl (rd_ss rfl (rd_ss rfl (rd_ss rfl (rd_ss rfl (rd_ss rfl (rd_ss rfl H399)))))) (sz_sA rfl (rd_ss rfl (rd_ss rfl (rd_ss rfl (rd_ss rfl (rd_ss rfl H399))))) (sz_sA rfl (rd_ss rfl (rd_ss rfl (rd_ss rfl (rd_ss rfl H399)))) (sz_sA rfl (rd_ss rfl (rd_ss rfl (rd_ss rfl H399))) (sz_sA rfl (rd_ss rfl (rd_ss rfl H399)) (sz_sA rfl (rd_ss rfl H399) (sz_sA rfl H399 HZ))))))))))))))))) (Nat.le_of_ble_eq_true rfl)⟩
theorem p1_46 {xs : Nat → Int32} {h : mj_H} (hk : xs 0 &&& nI 63 = nI 46)   (HL : h.length = 414) (HZ : mj_sz h ≤ 20000) (H0 : mj_rd h 0 = some (.inr (0, [.ref 1, .ref 38, .ref 299, .ref 336, .ref 373, .ref 375, .ref 378, .ref 381, .ref 387, .ref 393, .null, .null, .ref 397, .ref 398, .ref 399, .long (lN 0), .long (lN 0)]))) (H38 : mj_rd h 38 = some (.inr (6, [.ref 39, .ref 40, .int (nI 0)]))) (H400 : mj_rd h 400 = some (.inr (17, [.int (nI 0), .ref 401, .ref 402, .ref 1000300, .long (lN 0), .long (lN 0), .ref 410, .null, .null, .null, .ref 411]))) (H401 : mj_rd h 401 = some (.inr (18, [.ref 1000000, .int (nI 0), .int (nI 0)]))) : mj_fin 4 xs h := by
  unfold mj_fin
  refine l_ild (p' := 30) rfl rfl rfl rfl ?_
  refine l_alds (p' := 31) rfl rfl rfl rfl ?_
  refine l_lens (p' := 32) rfl rfl rfl ?_
  refine l_con (p' := 33) rfl rfl rfl ?_
  refine l_bz (p' := 34) (z := (nI 0)) rfl rfl rfl rfl rfl (by decide +kernel) ?_
  refine l_icmp (p' := 37) false rfl rfl (by decide +kernel) rfl ?_
  refine l_alds (p' := 38) rfl rfl rfl rfl ?_
  refine l_ild (p' := 40) rfl rfl rfl rfl ?_
  refine l_ialz (p' := 41) (m := 0) (z := (xs 0)) rfl rfl (by decide +kernel) rfl rfl rfl ?_
  refine l_bip (p' := 43) rfl rfl rfl ?_
  refine l_bz (p' := 44) (z := (nI 46)) rfl rfl rfl rfl rfl hk ?_
  refine l_sp (p' := 2436) (ls' := _) rfl rfl rfl rfl rfl ?_
  refine l_aldn (p' := 2437) rfl rfl rfl rfl ?_
  refine l_call (p' := 2440) (kc := 99) (ls0 := [_]) rfl rfl rfl rfl rfl rfl (mj_rcv_is H0) rfl rfl rfl ?_
  refine s_aldn (p' := 1) rfl rfl rfl ?_
  refine s_gf (p' := 4) rfl H0 rfl rfl ?_
  refine c_call (p' := 7) (kc := 98) (ls0 := [_]) rfl rfl rfl rfl rfl (mj_rcv_is H38) rfl rfl rfl ?_
  refine s_aldn (p' := 1) rfl rfl rfl ?_
  refine s_gf (p' := 4) rfl H38 rfl rfl ?_
  refine c_iret rfl rfl ?_
  refine k_iret rfl rfl ?_
  refine l_aldn (p' := 2441) rfl rfl rfl rfl ?_
  refine l_call (p' := 2444) (kc := 99) (ls0 := [_]) rfl rfl rfl rfl rfl rfl (mj_rcv_is H400) rfl rfl rfl ?_
  refine s_aldn (p' := 1) rfl rfl rfl ?_
  refine s_con (p' := 2) rfl rfl ?_
  refine s_pfz (p' := 5) (fs' := [_, _, _, _, _, _, _, _, _, _, _]) rfl rfl H400 rfl rfl rfl rfl ?_
  refine s_aldn (p' := 6) rfl rfl rfl ?_
  refine s_gf (p' := 9) rfl (rd_ss rfl H400) rfl rfl ?_
  refine c_call (p' := 14) (kc := 98) (ls0 := [_]) rfl rfl rfl rfl rfl (mj_rcv_is (rd_sn rfl H401)) rfl rfl rfl ?_
  refine s_aldn (p' := 1) rfl rfl rfl ?_
  refine s_gf (p' := 4) rfl (rd_sn rfl H401) rfl rfl ?_
  refine c_iret rfl rfl ?_
  refine k_iret rfl rfl ?_
  refine l_icmp (p' := 2541) true rfl rfl (by decide +kernel) rfl ?_
  refine l_incz (p' := 2544) (w := (nI 4)) (ls' := [_, _, _, _, _, _, _, _, _, _]) rfl rfl rfl rfl (by decide +kernel) rfl rfl ?_
  refine l_goto (p' := 28) rfl rfl rfl ?_
  refine l_ild (p' := 30) rfl rfl rfl rfl ?_
  refine l_alds (p' := 31) rfl rfl rfl rfl ?_
  refine l_lens (p' := 32) rfl rfl rfl ?_
  refine l_con (p' := 33) rfl rfl rfl ?_
  refine l_bz (p' := 34) (z := (nI 0)) rfl rfl rfl rfl rfl (by decide +kernel) ?_
  refine l_icmp (p' := 2547) true rfl rfl (by decide +kernel) rfl ?_
  refine l_con (p' := 2548) rfl rfl rfl ?_
  refine l_end rfl rfl ?_
  exact ⟨Nat.le_trans (Nat.le_of_eq (len_s HL)) (Nat.le_of_ble_eq_true rfl), Nat.le_trans (sz_s rfl H400 rfl HZ) (Nat.le_of_ble_eq_true rfl)⟩
theorem p1_47 {xs : Nat → Int32} {h : mj_H} (hk : xs 0 &&& nI 63 = nI 47)   (HL : h.length = 414) (HZ : mj_sz h ≤ 20000) (H0 : mj_rd h 0 = some (.inr (0, [.ref 1, .ref 38, .ref 299, .ref 336, .ref 373, .ref 375, .ref 378, .ref 381, .ref 387, .ref 393, .null, .null, .ref 397, .ref 398, .ref 399, .long (lN 0), .long (lN 0)]))) (H375 : mj_rd h 375 = some (.inr (7, [.ref 376, .ref 377, .int (nI 0)]))) (H376 : mj_rd h 376 = some (.inl (0, (8, .inl (fun _ => 0))))) (H400 : mj_rd h 400 = some (.inr (17, [.int (nI 0), .ref 401, .ref 402, .ref 1000300, .long (lN 0), .long (lN 0), .ref 410, .null, .null, .null, .ref 411]))) (H402 : mj_rd h 402 = some (.inr (19, [.ref 403, .ref 404, .ref 405, .ref 406, .ref 407, .ref 408, .ref 409, .int (nI 0), .int (nI 4294967295), .int (nI 0), .ref 400]))) (H403 : mj_rd h 403 = some (.inl (0, (8, .inl (fun _ => 0))))) : mj_fin 4 xs h := by
  unfold mj_fin
  refine l_ild (p' := 30) rfl rfl rfl rfl ?_
  refine l_alds (p' := 31) rfl rfl rfl rfl ?_
  refine l_lens (p' := 32) rfl rfl rfl ?_
  refine l_con (p' := 33) rfl rfl rfl ?_
  refine l_bz (p' := 34) (z := (nI 0)) rfl rfl rfl rfl rfl (by decide +kernel) ?_
  refine l_icmp (p' := 37) false rfl rfl (by decide +kernel) rfl ?_
  refine l_alds (p' := 38) rfl rfl rfl rfl ?_
  refine l_ild (p' := 40) rfl rfl rfl rfl ?_
  refine l_ialz (p' := 41) (m := 0) (z := (xs 0)) rfl rfl (by decide +kernel) rfl rfl rfl ?_
  refine l_bip (p' := 43) rfl rfl rfl ?_
  refine l_bz (p' := 44) (z := (nI 47)) rfl rfl rfl rfl rfl hk ?_
  refine l_sp (p' := 2449) (ls' := _) rfl rfl rfl rfl rfl ?_
  refine l_aldn (p' := 2450) rfl rfl rfl rfl ?_
  refine l_call (p' := 2453) (kc := 99) (ls0 := [_]) rfl rfl rfl rfl rfl rfl (mj_rcv_is H0) rfl rfl rfl ?_
  refine s_sh (p' := 3) (ls' := _) (st' := .long (lN 31) :: _) (h' := _) rfl rfl rfl rfl ?_
  refine s_aldn (p' := 4) rfl rfl rfl ?_
  refine s_gf (p' := 7) rfl H0 rfl rfl ?_
  refine s_sh (p' := 10) (ls' := _) (st' := .long (lN 7) :: _) (h' := _) rfl rfl rfl rfl ?_
  refine c_call (p' := 13) (kc := 98) (ls0 := [_, _, _, _, _, _]) rfl rfl rfl rfl rfl (mj_rcv_is H375) rfl rfl rfl ?_
  refine s_lldn (p' := 1) rfl rfl rfl ?_
  refine s_sp (p' := 2) (ls' := [_, _, _, _, _, _]) rfl rfl rfl ?_
  refine s_con (p' := 3) rfl rfl ?_
  refine s_ist (p' := 5) (ls' := [_, _, _, _, _, _]) rfl rfl rfl rfl ?_
  refine s_ild (p' := 7) rfl rfl rfl ?_
  refine s_aldn (p' := 8) rfl rfl rfl ?_
  refine s_gf (p' := 11) rfl H375 rfl rfl ?_
  refine s_lenz (p' := 12) rfl (mj_rdA_is H376 (by decide)) rfl rfl ?_
  refine s_icmp (p' := 15) false rfl (by decide +kernel) rfl ?_
  refine s_sh (p' := 18) (ls' := _) (st' := .long (lN 31) :: _) (h' := _) rfl rfl rfl rfl ?_
  refine s_lldn (p' := 19) rfl rfl rfl ?_
  refine s_bzL (p' := 20) (z := (lN 217)) rfl rfl rfl (by decide +kernel) ?_
  refine s_aldn (p' := 21) rfl rfl rfl ?_
  refine s_gf (p' := 24) rfl H375 rfl rfl ?_
  refine s_ild (p' := 26) rfl rfl rfl ?_
  refine s_ialz (p' := 27) (m := 0) (v := (nI 0)) rfl H376 (by decide +kernel) rfl (by decide +kernel) rfl ?_
  refine s_bzL (p' := 28) (z := (lN 0)) rfl rfl rfl (by decide +kernel) ?_
  refine s_bzL (p' := 29) (z := (lN 217)) rfl rfl rfl (by decide +kernel) ?_
  refine s_sp (p' := 30) (ls' := [_, _, _, _, _, _]) rfl rfl rfl ?_
  refine s_incz (p' := 33) (w := (nI 1)) (ls' := [_, _, _, _, _, _]) rfl rfl rfl (by decide +kernel) rfl rfl ?_
  refine s_goto (p' := 5) rfl rfl ?_
  refine s_ild (p' := 7) rfl rfl rfl ?_
  refine s_aldn (p' := 8) rfl rfl rfl ?_
  refine s_gf (p' := 11) rfl H375 rfl rfl ?_
  refine s_lenz (p' := 12) rfl (mj_rdA_is H376 (by decide)) rfl rfl ?_
  refine s_icmp (p' := 15) false rfl (by decide +kernel) rfl ?_
  refine s_sh (p' := 18) (ls' := _) (st' := .long (lN 31) :: _) (h' := _) rfl rfl rfl rfl ?_
  refine s_lldn (p' := 19) rfl rfl rfl ?_
  refine s_bzL (p' := 20) (z := (lN 6727)) rfl rfl rfl (by decide +kernel) ?_
  refine s_aldn (p' := 21) rfl rfl rfl ?_
  refine s_gf (p' := 24) rfl H375 rfl rfl ?_
  refine s_ild (p' := 26) rfl rfl rfl ?_
  refine s_ialz (p' := 27) (m := 1) (v := (nI 0)) rfl H376 (by decide +kernel) rfl (by decide +kernel) rfl ?_
  refine s_bzL (p' := 28) (z := (lN 0)) rfl rfl rfl (by decide +kernel) ?_
  refine s_bzL (p' := 29) (z := (lN 6727)) rfl rfl rfl (by decide +kernel) ?_
  refine s_sp (p' := 30) (ls' := [_, _, _, _, _, _]) rfl rfl rfl ?_
  refine s_incz (p' := 33) (w := (nI 2)) (ls' := [_, _, _, _, _, _]) rfl rfl rfl (by decide +kernel) rfl rfl ?_
  refine s_goto (p' := 5) rfl rfl ?_
  refine s_ild (p' := 7) rfl rfl rfl ?_
  refine s_aldn (p' := 8) rfl rfl rfl ?_
  refine s_gf (p' := 11) rfl H375 rfl rfl ?_
  refine s_lenz (p' := 12) rfl (mj_rdA_is H376 (by decide)) rfl rfl ?_
  refine s_icmp (p' := 15) false rfl (by decide +kernel) rfl ?_
  refine s_sh (p' := 18) (ls' := _) (st' := .long (lN 31) :: _) (h' := _) rfl rfl rfl rfl ?_
  refine s_lldn (p' := 19) rfl rfl rfl ?_
  refine s_bzL (p' := 20) (z := (lN 208537)) rfl rfl rfl (by decide +kernel) ?_
  refine s_aldn (p' := 21) rfl rfl rfl ?_
  refine s_gf (p' := 24) rfl H375 rfl rfl ?_
  refine s_ild (p' := 26) rfl rfl rfl ?_
  refine s_ialz (p' := 27) (m := 2) (v := (nI 0)) rfl H376 (by decide +kernel) rfl (by decide +kernel) rfl ?_
  refine s_bzL (p' := 28) (z := (lN 0)) rfl rfl rfl (by decide +kernel) ?_
  refine s_bzL (p' := 29) (z := (lN 208537)) rfl rfl rfl (by decide +kernel) ?_
  refine s_sp (p' := 30) (ls' := [_, _, _, _, _, _]) rfl rfl rfl ?_
  refine s_incz (p' := 33) (w := (nI 3)) (ls' := [_, _, _, _, _, _]) rfl rfl rfl (by decide +kernel) rfl rfl ?_
  refine s_goto (p' := 5) rfl rfl ?_
  refine s_ild (p' := 7) rfl rfl rfl ?_
  refine s_aldn (p' := 8) rfl rfl rfl ?_
  refine s_gf (p' := 11) rfl H375 rfl rfl ?_
  refine s_lenz (p' := 12) rfl (mj_rdA_is H376 (by decide)) rfl rfl ?_
  refine s_icmp (p' := 15) false rfl (by decide +kernel) rfl ?_
  refine s_sh (p' := 18) (ls' := _) (st' := .long (lN 31) :: _) (h' := _) rfl rfl rfl rfl ?_
  refine s_lldn (p' := 19) rfl rfl rfl ?_
  refine s_bzL (p' := 20) (z := (lN 6464647)) rfl rfl rfl (by decide +kernel) ?_
  refine s_aldn (p' := 21) rfl rfl rfl ?_
  refine s_gf (p' := 24) rfl H375 rfl rfl ?_
  refine s_ild (p' := 26) rfl rfl rfl ?_
  refine s_ialz (p' := 27) (m := 3) (v := (nI 0)) rfl H376 (by decide +kernel) rfl (by decide +kernel) rfl ?_
  refine s_bzL (p' := 28) (z := (lN 0)) rfl rfl rfl (by decide +kernel) ?_
  refine s_bzL (p' := 29) (z := (lN 6464647)) rfl rfl rfl (by decide +kernel) ?_
  refine s_sp (p' := 30) (ls' := [_, _, _, _, _, _]) rfl rfl rfl ?_
  refine s_incz (p' := 33) (w := (nI 4)) (ls' := [_, _, _, _, _, _]) rfl rfl rfl (by decide +kernel) rfl rfl ?_
  refine s_goto (p' := 5) rfl rfl ?_
  refine s_ild (p' := 7) rfl rfl rfl ?_
  refine s_aldn (p' := 8) rfl rfl rfl ?_
  refine s_gf (p' := 11) rfl H375 rfl rfl ?_
  refine s_lenz (p' := 12) rfl (mj_rdA_is H376 (by decide)) rfl rfl ?_
  refine s_icmp (p' := 15) false rfl (by decide +kernel) rfl ?_
  refine s_sh (p' := 18) (ls' := _) (st' := .long (lN 31) :: _) (h' := _) rfl rfl rfl rfl ?_
  refine s_lldn (p' := 19) rfl rfl rfl ?_
  refine s_bzL (p' := 20) (z := (lN 200404057)) rfl rfl rfl (by decide +kernel) ?_
  refine s_aldn (p' := 21) rfl rfl rfl ?_
  refine s_gf (p' := 24) rfl H375 rfl rfl ?_
  refine s_ild (p' := 26) rfl rfl rfl ?_
  refine s_ialz (p' := 27) (m := 4) (v := (nI 0)) rfl H376 (by decide +kernel) rfl (by decide +kernel) rfl ?_
  refine s_bzL (p' := 28) (z := (lN 0)) rfl rfl rfl (by decide +kernel) ?_
  refine s_bzL (p' := 29) (z := (lN 200404057)) rfl rfl rfl (by decide +kernel) ?_
  refine s_sp (p' := 30) (ls' := [_, _, _, _, _, _]) rfl rfl rfl ?_
  refine s_incz (p' := 33) (w := (nI 5)) (ls' := [_, _, _, _, _, _]) rfl rfl rfl (by decide +kernel) rfl rfl ?_
  refine s_goto (p' := 5) rfl rfl ?_
  refine s_ild (p' := 7) rfl rfl rfl ?_
  refine s_aldn (p' := 8) rfl rfl rfl ?_
  refine s_gf (p' := 11) rfl H375 rfl rfl ?_
  refine s_lenz (p' := 12) rfl (mj_rdA_is H376 (by decide)) rfl rfl ?_
  refine s_icmp (p' := 15) false rfl (by decide +kernel) rfl ?_
  refine s_sh (p' := 18) (ls' := _) (st' := .long (lN 31) :: _) (h' := _) rfl rfl rfl rfl ?_
  refine s_lldn (p' := 19) rfl rfl rfl ?_
  refine s_bzL (p' := 20) (z := (lN 6212525767)) rfl rfl rfl (by decide +kernel) ?_
  refine s_aldn (p' := 21) rfl rfl rfl ?_
  refine s_gf (p' := 24) rfl H375 rfl rfl ?_
  refine s_ild (p' := 26) rfl rfl rfl ?_
  refine s_ialz (p' := 27) (m := 5) (v := (nI 0)) rfl H376 (by decide +kernel) rfl (by decide +kernel) rfl ?_
  refine s_bzL (p' := 28) (z := (lN 0)) rfl rfl rfl (by decide +kernel) ?_
  refine s_bzL (p' := 29) (z := (lN 6212525767)) rfl rfl rfl (by decide +kernel) ?_
  refine s_sp (p' := 30) (ls' := [_, _, _, _, _, _]) rfl rfl rfl ?_
  refine s_incz (p' := 33) (w := (nI 6)) (ls' := [_, _, _, _, _, _]) rfl rfl rfl (by decide +kernel) rfl rfl ?_
  refine s_goto (p' := 5) rfl rfl ?_
  refine s_ild (p' := 7) rfl rfl rfl ?_
  refine s_aldn (p' := 8) rfl rfl rfl ?_
  refine s_gf (p' := 11) rfl H375 rfl rfl ?_
  refine s_lenz (p' := 12) rfl (mj_rdA_is H376 (by decide)) rfl rfl ?_
  refine s_icmp (p' := 15) false rfl (by decide +kernel) rfl ?_
  refine s_sh (p' := 18) (ls' := _) (st' := .long (lN 31) :: _) (h' := _) rfl rfl rfl rfl ?_
  refine s_lldn (p' := 19) rfl rfl rfl ?_
  refine s_bzL (p' := 20) (z := (lN 192588298777)) rfl rfl rfl (by decide +kernel) ?_
  refine s_aldn (p' := 21) rfl rfl rfl ?_
  refine s_gf (p' := 24) rfl H375 rfl rfl ?_
  refine s_ild (p' := 26) rfl rfl rfl ?_
  refine s_ialz (p' := 27) (m := 6) (v := (nI 0)) rfl H376 (by decide +kernel) rfl (by decide +kernel) rfl ?_
  refine s_bzL (p' := 28) (z := (lN 0)) rfl rfl rfl (by decide +kernel) ?_
  refine s_bzL (p' := 29) (z := (lN 192588298777)) rfl rfl rfl (by decide +kernel) ?_
  refine s_sp (p' := 30) (ls' := [_, _, _, _, _, _]) rfl rfl rfl ?_
  refine s_incz (p' := 33) (w := (nI 7)) (ls' := [_, _, _, _, _, _]) rfl rfl rfl (by decide +kernel) rfl rfl ?_
  refine s_goto (p' := 5) rfl rfl ?_
  refine s_ild (p' := 7) rfl rfl rfl ?_
  refine s_aldn (p' := 8) rfl rfl rfl ?_
  refine s_gf (p' := 11) rfl H375 rfl rfl ?_
  refine s_lenz (p' := 12) rfl (mj_rdA_is H376 (by decide)) rfl rfl ?_
  refine s_icmp (p' := 15) false rfl (by decide +kernel) rfl ?_
  refine s_sh (p' := 18) (ls' := _) (st' := .long (lN 31) :: _) (h' := _) rfl rfl rfl rfl ?_
  refine s_lldn (p' := 19) rfl rfl rfl ?_
  refine s_bzL (p' := 20) (z := (lN 5970237262087)) rfl rfl rfl (by decide +kernel) ?_
  refine s_aldn (p' := 21) rfl rfl rfl ?_
  refine s_gf (p' := 24) rfl H375 rfl rfl ?_
  refine s_ild (p' := 26) rfl rfl rfl ?_
  refine s_ialz (p' := 27) (m := 7) (v := (nI 0)) rfl H376 (by decide +kernel) rfl (by decide +kernel) rfl ?_
  refine s_bzL (p' := 28) (z := (lN 0)) rfl rfl rfl (by decide +kernel) ?_
  refine s_bzL (p' := 29) (z := (lN 5970237262087)) rfl rfl rfl (by decide +kernel) ?_
  refine s_sp (p' := 30) (ls' := [_, _, _, _, _, _]) rfl rfl rfl ?_
  refine s_incz (p' := 33) (w := (nI 8)) (ls' := [_, _, _, _, _, _]) rfl rfl rfl (by decide +kernel) rfl rfl ?_
  refine s_goto (p' := 5) rfl rfl ?_
  refine s_ild (p' := 7) rfl rfl rfl ?_
  refine s_aldn (p' := 8) rfl rfl rfl ?_
  refine s_gf (p' := 11) rfl H375 rfl rfl ?_
  refine s_lenz (p' := 12) rfl (mj_rdA_is H376 (by decide)) rfl rfl ?_
  refine s_icmp (p' := 36) true rfl (by decide +kernel) rfl ?_
  refine s_con (p' := 37) rfl rfl ?_
  refine s_ist (p' := 39) (ls' := [_, _, _, _, _, _]) rfl rfl rfl rfl ?_
  refine s_ild (p' := 41) rfl rfl rfl ?_
  refine s_aldn (p' := 42) rfl rfl rfl ?_
  refine s_gf (p' := 45) rfl H375 rfl rfl ?_
  refine s_icmp (p' := 68) true rfl (by decide +kernel) rfl ?_
  refine s_lldn (p' := 69) rfl rfl rfl ?_
  refine c_lret rfl ?_
  refine s_bzL (p' := 14) (z := (lN 185077355124697)) rfl rfl rfl (by decide +kernel) ?_
  refine s_aldn (p' := 15) rfl rfl rfl ?_
  refine s_gf (p' := 18) rfl H0 rfl rfl ?_
  refine s_bzL (p' := 19) (z := (lN 185077355124697)) rfl rfl rfl (by decide +kernel) ?_
  refine k_lret rfl ?_
  refine l_aldn (p' := 2454) rfl rfl rfl rfl ?_
  refine l_call (p' := 2457) (kc := 99) (ls0 := [_, _, _, _, _, _, _]) rfl rfl rfl rfl rfl rfl (mj_rcv_is H400) rfl rfl rfl ?_
  refine s_aldn (p' := 1) rfl rfl rfl ?_
  refine s_con (p' := 2) rfl rfl ?_
  refine s_pfz (p' := 5) (fs' := [_, _, _, _, _, _, _, _, _, _, _]) rfl rfl H400 rfl rfl rfl rfl ?_
  refine s_sh (p' := 8) (ls' := _) (st' := .long (lN 7) :: _) (h' := _) rfl rfl rfl rfl ?_
  refine s_sp (p' := 9) (ls' := [_, _, _, _, _, _, _]) rfl rfl rfl ?_
  refine s_aldn (p' := 10) rfl rfl rfl ?_
  refine s_gf (p' := 13) rfl (rd_ss rfl H400) rfl rfl ?_
  refine s_gf (p' := 16) rfl (rd_sn rfl H402) rfl rfl ?_
  refine s_astn (p' := 17) (ls' := [_, _, _, _, _, _, _]) rfl rfl rfl rfl ?_
  refine s_aldn (p' := 18) rfl rfl rfl ?_
  refine s_lenz (p' := 19) rfl (mj_rdA_is (rd_sn rfl H403) (by decide)) rfl rfl ?_
  refine s_ist (p' := 21) (ls' := [_, _, _, _, _, _, _]) rfl rfl rfl rfl ?_
  refine s_con (p' := 22) rfl rfl ?_
  refine s_ist (p' := 24) (ls' := [_, _, _, _, _, _, _]) rfl rfl rfl rfl ?_
  refine s_ild (p' := 26) rfl rfl rfl ?_
  refine s_ild (p' := 28) rfl rfl rfl ?_
  refine s_icmp (p' := 31) false rfl (by decide +kernel) rfl ?_
  refine s_aldn (p' := 32) rfl rfl rfl ?_
  refine s_ild (p' := 34) rfl rfl rfl ?_
  refine s_ialz (p' := 35) (m := 0) (v := (nI 0)) rfl (rd_sn rfl H403) (by decide +kernel) rfl (by decide +kernel) rfl ?_
  refine s_ist (p' := 37) (ls' := [_, _, _, _, _, _, _]) rfl rfl rfl rfl ?_
  refine s_sh (p' := 40) (ls' := _) (st' := .long (lN 31) :: _) (h' := _) rfl rfl rfl rfl ?_
  refine s_lldn (p' := 41) rfl rfl rfl ?_
  refine s_bzL (p' := 42) (z := (lN 217)) rfl rfl rfl (by decide +kernel) ?_
  refine s_ild (p' := 44) rfl rfl rfl ?_
  refine s_bzL (p' := 45) (z := (lN 0)) rfl rfl rfl (by decide +kernel) ?_
  refine s_bzL (p' := 46) (z := (lN 217)) rfl rfl rfl (by decide +kernel) ?_
  refine s_sp (p' := 47) (ls' := [_, _, _, _, _, _, _]) rfl rfl rfl ?_
  refine s_incz (p' := 50) (w := (nI 1)) (ls' := [_, _, _, _, _, _, _]) rfl rfl rfl (by decide +kernel) rfl rfl ?_
  refine s_goto (p' := 24) rfl rfl ?_
  refine s_ild (p' := 26) rfl rfl rfl ?_
  refine s_ild (p' := 28) rfl rfl rfl ?_
  refine s_icmp (p' := 31) false rfl (by decide +kernel) rfl ?_
  refine s_aldn (p' := 32) rfl rfl rfl ?_
  refine s_ild (p' := 34) rfl rfl rfl ?_
  refine s_ialz (p' := 35) (m := 1) (v := (nI 0)) rfl (rd_sn rfl H403) (by decide +kernel) rfl (by decide +kernel) rfl ?_
  refine s_ist (p' := 37) (ls' := [_, _, _, _, _, _, _]) rfl rfl rfl rfl ?_
  refine s_sh (p' := 40) (ls' := _) (st' := .long (lN 31) :: _) (h' := _) rfl rfl rfl rfl ?_
  refine s_lldn (p' := 41) rfl rfl rfl ?_
  refine s_bzL (p' := 42) (z := (lN 6727)) rfl rfl rfl (by decide +kernel) ?_
  refine s_ild (p' := 44) rfl rfl rfl ?_
  refine s_bzL (p' := 45) (z := (lN 0)) rfl rfl rfl (by decide +kernel) ?_
  refine s_bzL (p' := 46) (z := (lN 6727)) rfl rfl rfl (by decide +kernel) ?_
  refine s_sp (p' := 47) (ls' := [_, _, _, _, _, _, _]) rfl rfl rfl ?_
  refine s_incz (p' := 50) (w := (nI 2)) (ls' := [_, _, _, _, _, _, _]) rfl rfl rfl (by decide +kernel) rfl rfl ?_
  refine s_goto (p' := 24) rfl rfl ?_
  refine s_ild (p' := 26) rfl rfl rfl ?_
  refine s_ild (p' := 28) rfl rfl rfl ?_
  refine s_icmp (p' := 31) false rfl (by decide +kernel) rfl ?_
  refine s_aldn (p' := 32) rfl rfl rfl ?_
  refine s_ild (p' := 34) rfl rfl rfl ?_
  refine s_ialz (p' := 35) (m := 2) (v := (nI 0)) rfl (rd_sn rfl H403) (by decide +kernel) rfl (by decide +kernel) rfl ?_
  refine s_ist (p' := 37) (ls' := [_, _, _, _, _, _, _]) rfl rfl rfl rfl ?_
  refine s_sh (p' := 40) (ls' := _) (st' := .long (lN 31) :: _) (h' := _) rfl rfl rfl rfl ?_
  refine s_lldn (p' := 41) rfl rfl rfl ?_
  refine s_bzL (p' := 42) (z := (lN 208537)) rfl rfl rfl (by decide +kernel) ?_
  refine s_ild (p' := 44) rfl rfl rfl ?_
  refine s_bzL (p' := 45) (z := (lN 0)) rfl rfl rfl (by decide +kernel) ?_
  refine s_bzL (p' := 46) (z := (lN 208537)) rfl rfl rfl (by decide +kernel) ?_
  refine s_sp (p' := 47) (ls' := [_, _, _, _, _, _, _]) rfl rfl rfl ?_
  refine s_incz (p' := 50) (w := (nI 3)) (ls' := [_, _, _, _, _, _, _]) rfl rfl rfl (by decide +kernel) rfl rfl ?_
  refine s_goto (p' := 24) rfl rfl ?_
  refine s_ild (p' := 26) rfl rfl rfl ?_
  refine s_ild (p' := 28) rfl rfl rfl ?_
  refine s_icmp (p' := 31) false rfl (by decide +kernel) rfl ?_
  refine s_aldn (p' := 32) rfl rfl rfl ?_
  refine s_ild (p' := 34) rfl rfl rfl ?_
  refine s_ialz (p' := 35) (m := 3) (v := (nI 0)) rfl (rd_sn rfl H403) (by decide +kernel) rfl (by decide +kernel) rfl ?_
  refine s_ist (p' := 37) (ls' := [_, _, _, _, _, _, _]) rfl rfl rfl rfl ?_
  refine s_sh (p' := 40) (ls' := _) (st' := .long (lN 31) :: _) (h' := _) rfl rfl rfl rfl ?_
  refine s_lldn (p' := 41) rfl rfl rfl ?_
  refine s_bzL (p' := 42) (z := (lN 6464647)) rfl rfl rfl (by decide +kernel) ?_
  refine s_ild (p' := 44) rfl rfl rfl ?_
  refine s_bzL (p' := 45) (z := (lN 0)) rfl rfl rfl (by decide +kernel) ?_
  refine s_bzL (p' := 46) (z := (lN 6464647)) rfl rfl rfl (by decide +kernel) ?_
  refine s_sp (p' := 47) (ls' := [_, _, _, _, _, _, _]) rfl rfl rfl ?_
  refine s_incz (p' := 50) (w := (nI 4)) (ls' := [_, _, _, _, _, _, _]) rfl rfl rfl (by decide +kernel) rfl rfl ?_
  refine s_goto (p' := 24) rfl rfl ?_
  refine s_ild (p' := 26) rfl rfl rfl ?_
  refine s_ild (p' := 28) rfl rfl rfl ?_
  refine s_icmp (p' := 31) false rfl (by decide +kernel) rfl ?_
  refine s_aldn (p' := 32) rfl rfl rfl ?_
  refine s_ild (p' := 34) rfl rfl rfl ?_
  refine s_ialz (p' := 35) (m := 4) (v := (nI 0)) rfl (rd_sn rfl H403) (by decide +kernel) rfl (by decide +kernel) rfl ?_
  refine s_ist (p' := 37) (ls' := [_, _, _, _, _, _, _]) rfl rfl rfl rfl ?_
  refine s_sh (p' := 40) (ls' := _) (st' := .long (lN 31) :: _) (h' := _) rfl rfl rfl rfl ?_
  refine s_lldn (p' := 41) rfl rfl rfl ?_
  refine s_bzL (p' := 42) (z := (lN 200404057)) rfl rfl rfl (by decide +kernel) ?_
  refine s_ild (p' := 44) rfl rfl rfl ?_
  refine s_bzL (p' := 45) (z := (lN 0)) rfl rfl rfl (by decide +kernel) ?_
  refine s_bzL (p' := 46) (z := (lN 200404057)) rfl rfl rfl (by decide +kernel) ?_
  refine s_sp (p' := 47) (ls' := [_, _, _, _, _, _, _]) rfl rfl rfl ?_
  refine s_incz (p' := 50) (w := (nI 5)) (ls' := [_, _, _, _, _, _, _]) rfl rfl rfl (by decide +kernel) rfl rfl ?_
  refine s_goto (p' := 24) rfl rfl ?_
  refine s_ild (p' := 26) rfl rfl rfl ?_
  refine s_ild (p' := 28) rfl rfl rfl ?_
  refine s_icmp (p' := 31) false rfl (by decide +kernel) rfl ?_
  refine s_aldn (p' := 32) rfl rfl rfl ?_
  refine s_ild (p' := 34) rfl rfl rfl ?_
  refine s_ialz (p' := 35) (m := 5) (v := (nI 0)) rfl (rd_sn rfl H403) (by decide +kernel) rfl (by decide +kernel) rfl ?_
  refine s_ist (p' := 37) (ls' := [_, _, _, _, _, _, _]) rfl rfl rfl rfl ?_
  refine s_sh (p' := 40) (ls' := _) (st' := .long (lN 31) :: _) (h' := _) rfl rfl rfl rfl ?_
  refine s_lldn (p' := 41) rfl rfl rfl ?_
  refine s_bzL (p' := 42) (z := (lN 6212525767)) rfl rfl rfl (by decide +kernel) ?_
  refine s_ild (p' := 44) rfl rfl rfl ?_
  refine s_bzL (p' := 45) (z := (lN 0)) rfl rfl rfl (by decide +kernel) ?_
  refine s_bzL (p' := 46) (z := (lN 6212525767)) rfl rfl rfl (by decide +kernel) ?_
  refine s_sp (p' := 47) (ls' := [_, _, _, _, _, _, _]) rfl rfl rfl ?_
  refine s_incz (p' := 50) (w := (nI 6)) (ls' := [_, _, _, _, _, _, _]) rfl rfl rfl (by decide +kernel) rfl rfl ?_
  refine s_goto (p' := 24) rfl rfl ?_
  refine s_ild (p' := 26) rfl rfl rfl ?_
  refine s_ild (p' := 28) rfl rfl rfl ?_
  refine s_icmp (p' := 31) false rfl (by decide +kernel) rfl ?_
  refine s_aldn (p' := 32) rfl rfl rfl ?_
  refine s_ild (p' := 34) rfl rfl rfl ?_
  refine s_ialz (p' := 35) (m := 6) (v := (nI 0)) rfl (rd_sn rfl H403) (by decide +kernel) rfl (by decide +kernel) rfl ?_
  refine s_ist (p' := 37) (ls' := [_, _, _, _, _, _, _]) rfl rfl rfl rfl ?_
  refine s_sh (p' := 40) (ls' := _) (st' := .long (lN 31) :: _) (h' := _) rfl rfl rfl rfl ?_
  refine s_lldn (p' := 41) rfl rfl rfl ?_
  refine s_bzL (p' := 42) (z := (lN 192588298777)) rfl rfl rfl (by decide +kernel) ?_
  refine s_ild (p' := 44) rfl rfl rfl ?_
  refine s_bzL (p' := 45) (z := (lN 0)) rfl rfl rfl (by decide +kernel) ?_
  refine s_bzL (p' := 46) (z := (lN 192588298777)) rfl rfl rfl (by decide +kernel) ?_
  refine s_sp (p' := 47) (ls' := [_, _, _, _, _, _, _]) rfl rfl rfl ?_
  refine s_incz (p' := 50) (w := (nI 7)) (ls' := [_, _, _, _, _, _, _]) rfl rfl rfl (by decide +kernel) rfl rfl ?_
  refine s_goto (p' := 24) rfl rfl ?_
  refine s_ild (p' := 26) rfl rfl rfl ?_
  refine s_ild (p' := 28) rfl rfl rfl ?_
  refine s_icmp (p' := 31) false rfl (by decide +kernel) rfl ?_
  refine s_aldn (p' := 32) rfl rfl rfl ?_
  refine s_ild (p' := 34) rfl rfl rfl ?_
  refine s_ialz (p' := 35) (m := 7) (v := (nI 0)) rfl (rd_sn rfl H403) (by decide +kernel) rfl (by decide +kernel) rfl ?_
  refine s_ist (p' := 37) (ls' := [_, _, _, _, _, _, _]) rfl rfl rfl rfl ?_
  refine s_sh (p' := 40) (ls' := _) (st' := .long (lN 31) :: _) (h' := _) rfl rfl rfl rfl ?_
  refine s_lldn (p' := 41) rfl rfl rfl ?_
  refine s_bzL (p' := 42) (z := (lN 5970237262087)) rfl rfl rfl (by decide +kernel) ?_
  refine s_ild (p' := 44) rfl rfl rfl ?_
  refine s_bzL (p' := 45) (z := (lN 0)) rfl rfl rfl (by decide +kernel) ?_
  refine s_bzL (p' := 46) (z := (lN 5970237262087)) rfl rfl rfl (by decide +kernel) ?_
  refine s_sp (p' := 47) (ls' := [_, _, _, _, _, _, _]) rfl rfl rfl ?_
  refine s_incz (p' := 50) (w := (nI 8)) (ls' := [_, _, _, _, _, _, _]) rfl rfl rfl (by decide +kernel) rfl rfl ?_
  refine s_goto (p' := 24) rfl rfl ?_
  refine s_ild (p' := 26) rfl rfl rfl ?_
  refine s_ild (p' := 28) rfl rfl rfl ?_
  refine s_icmp (p' := 53) true rfl (by decide +kernel) rfl ?_
  refine s_con (p' := 54) rfl rfl ?_
  refine s_istn (p' := 55) (ls' := [_, _, _, _, _, _, _]) rfl rfl rfl rfl ?_
  refine s_ildn (p' := 56) rfl rfl rfl ?_
  refine s_aldn (p' := 57) rfl rfl rfl ?_
  refine s_gf (p' := 60) rfl (rd_ss rfl H400) rfl rfl ?_
  refine s_gf (p' := 63) rfl (rd_sn rfl H402) rfl rfl ?_
  refine s_icmp (p' := 89) true rfl (by decide +kernel) rfl ?_
  refine s_sh (p' := 92) (ls' := _) (st' := .long (lN 31) :: _) (h' := _) rfl rfl rfl rfl ?_
  refine s_lldn (p' := 93) rfl rfl rfl ?_
  refine s_bzL (p' := 94) (z := (lN 185077355124697)) rfl rfl rfl (by decide +kernel) ?_
  refine s_aldn (p' := 95) rfl rfl rfl ?_
  refine s_gf (p' := 98) rfl (rd_ss rfl H400) rfl rfl ?_
  refine s_bzL (p' := 99) (z := (lN 185077355124697)) rfl rfl rfl (by decide +kernel) ?_
  refine k_lret rfl ?_
  refine l_bz (p' := 2458) (z := (nI 0)) rfl rfl rfl rfl rfl (by decide +kernel) ?_
  refine l_if (p' := 2541) true rfl rfl (by decide +kernel) rfl ?_
  refine l_incz (p' := 2544) (w := (nI 4)) (ls' := [_, _, _, _, _, _, _, _, _, _]) rfl rfl rfl rfl (by decide +kernel) rfl rfl ?_
  refine l_goto (p' := 28) rfl rfl rfl ?_
  refine l_ild (p' := 30) rfl rfl rfl rfl ?_
  refine l_alds (p' := 31) rfl rfl rfl rfl ?_
  refine l_lens (p' := 32) rfl rfl rfl ?_
  refine l_con (p' := 33) rfl rfl rfl ?_
  refine l_bz (p' := 34) (z := (nI 0)) rfl rfl rfl rfl rfl (by decide +kernel) ?_
  refine l_icmp (p' := 2547) true rfl rfl (by decide +kernel) rfl ?_
  refine l_con (p' := 2548) rfl rfl rfl ?_
  refine l_end rfl rfl ?_
  exact ⟨Nat.le_trans (Nat.le_of_eq (len_s HL)) (Nat.le_of_ble_eq_true rfl), Nat.le_trans (sz_s rfl H400 rfl HZ) (Nat.le_of_ble_eq_true rfl)⟩
theorem p1_48 {xs : Nat → Int32} {h : mj_H} (hk : xs 0 &&& nI 63 = nI 48)   (HL : h.length = 414) (HZ : mj_sz h ≤ 20000) (H0 : mj_rd h 0 = some (.inr (0, [.ref 1, .ref 38, .ref 299, .ref 336, .ref 373, .ref 375, .ref 378, .ref 381, .ref 387, .ref 393, .null, .null, .ref 397, .ref 398, .ref 399, .long (lN 0), .long (lN 0)]))) (H38 : mj_rd h 38 = some (.inr (6, [.ref 39, .ref 40, .int (nI 0)]))) (H400 : mj_rd h 400 = some (.inr (17, [.int (nI 0), .ref 401, .ref 402, .ref 1000300, .long (lN 0), .long (lN 0), .ref 410, .null, .null, .null, .ref 411]))) (H401 : mj_rd h 401 = some (.inr (18, [.ref 1000000, .int (nI 0), .int (nI 0)]))) : mj_fin 4 xs h := by
  unfold mj_fin
  refine l_ild (p' := 30) rfl rfl rfl rfl ?_
  refine l_alds (p' := 31) rfl rfl rfl rfl ?_
  refine l_lens (p' := 32) rfl rfl rfl ?_
  refine l_con (p' := 33) rfl rfl rfl ?_
  refine l_bz (p' := 34) (z := (nI 0)) rfl rfl rfl rfl rfl (by decide +kernel) ?_
  refine l_icmp (p' := 37) false rfl rfl (by decide +kernel) rfl ?_
  refine l_alds (p' := 38) rfl rfl rfl rfl ?_
  refine l_ild (p' := 40) rfl rfl rfl rfl ?_
  refine l_ialz (p' := 41) (m := 0) (z := (xs 0)) rfl rfl (by decide +kernel) rfl rfl rfl ?_
  refine l_bip (p' := 43) rfl rfl rfl ?_
  refine l_bz (p' := 44) (z := (nI 48)) rfl rfl rfl rfl rfl hk ?_
  refine l_sp (p' := 2463) (ls' := _) rfl rfl rfl rfl rfl ?_
  refine l_aldn (p' := 2464) rfl rfl rfl rfl ?_
  refine l_ald (p' := 2466) rfl rfl rfl rfl ?_
  refine l_call (p' := 2469) (kc := 99) (ls0 := [_, _, _]) rfl rfl rfl rfl rfl rfl rfl rfl rfl rfl ?_
  refine s_aldn (p' := 1) rfl rfl rfl ?_
  refine s_con (p' := 2) rfl rfl ?_
  refine s_aldn (p' := 3) rfl rfl rfl ?_
  refine c_call (p' := 6) (kc := 98) (ls0 := [_, _, _, _]) rfl rfl rfl rfl rfl (mj_rcv_is H0) rfl rfl rfl ?_
  refine s_aldn (p' := 1) rfl rfl rfl ?_
  refine s_gf (p' := 4) rfl H0 rfl rfl ?_
  refine c_call (p' := 7) (kc := 97) (ls0 := [_]) rfl rfl rfl rfl rfl (mj_rcv_is H38) rfl rfl rfl ?_
  refine s_aldn (p' := 1) rfl rfl rfl ?_
  refine s_gf (p' := 4) rfl H38 rfl rfl ?_
  refine c_iret rfl rfl ?_
  refine s_istn (p' := 8) (ls' := [_, _, _, _]) rfl rfl rfl rfl ?_
  refine s_ildn (p' := 9) rfl rfl rfl ?_
  refine s_con (p' := 10) rfl rfl ?_
  refine s_icmp (p' := 13) false rfl (by decide +kernel) rfl ?_
  refine s_thrz (q := 414) rfl HL rfl ?_
  refine K_c (hp := 10) rfl (mj_ocl_is (rd_nw rfl HL)) rfl ?_
  refine s_astn (p' := 11) (ls' := [_, _, _]) rfl rfl rfl rfl ?_
  refine s_con (p' := 12) rfl rfl ?_
  refine k_iret rfl rfl ?_
  refine l_ist (p' := 2471) (ls' := [_, _, _, _, _, _, _, _, _, _]) rfl rfl rfl rfl rfl ?_
  refine l_aldn (p' := 2472) rfl rfl rfl rfl ?_
  refine l_call (p' := 2475) (kc := 99) (ls0 := [_, _, _, _]) rfl rfl rfl rfl rfl rfl (mj_rcv_is (rd_app H400)) rfl rfl rfl ?_
  refine s_con (p' := 1) rfl rfl ?_
  refine s_istn (p' := 2) (ls' := [_, _, _, _]) rfl rfl rfl rfl ?_
  refine s_aldn (p' := 3) rfl rfl rfl ?_
  refine s_gf (p' := 6) rfl (rd_app H400) rfl rfl ?_
  refine c_call (p' := 11) (kc := 98) (ls0 := [_]) rfl rfl rfl rfl rfl (mj_rcv_is (rd_app H401)) rfl rfl rfl ?_
  refine s_newz (p' := 3) (a := 415) rfl (len_a HL rfl) rfl rfl ?_
  refine s_dupr (p' := 4) rfl rfl ?_
  refine s_aldn (p' := 5) rfl rfl rfl ?_
  refine c_call (p' := 8) (kc := 97) (ls0 := [_, _]) rfl rfl rfl rfl rfl (mj_rcv_is (rd_nw rfl (len_a HL rfl))) rfl rfl rfl ?_
  refine s_aldn (p' := 1) rfl rfl rfl ?_
  refine s_aldn (p' := 2) rfl rfl rfl ?_
  refine s_pfz (p' := 5) (fs' := [_, _, _, _]) rfl rfl (rd_nw rfl (len_a HL rfl)) rfl rfl rfl rfl ?_
  refine s_aldn (p' := 6) rfl rfl rfl ?_
  refine s_primN (p' := 9) (q := 3) rfl rfl rfl rfl rfl rfl rfl rfl ?_
  refine s_aldn (p' := 10) rfl rfl rfl ?_
  refine s_con (p' := 11) rfl rfl ?_
  refine s_pfz (p' := 14) (fs' := [_, _, _, _]) rfl rfl (rd_ss rfl (rd_nw rfl (len_a HL rfl))) rfl rfl rfl rfl ?_
  refine s_aldn (p' := 15) rfl rfl rfl ?_
  refine s_aldn (p' := 16) rfl rfl rfl ?_
  refine s_gf (p' := 19) rfl (rd_ss rfl (rd_ss rfl (rd_nw rfl (len_a HL rfl)))) rfl rfl ?_
  refine s_gf (p' := 22) rfl (rd_sn rfl (rd_sn rfl (rd_app (rd_app H401)))) rfl rfl ?_
  refine s_pfz (p' := 25) (fs' := [_, _, _, _]) rfl rfl (rd_ss rfl (rd_ss rfl (rd_nw rfl (len_a HL rfl)))) rfl rfl rfl rfl ?_
  refine c_ret rfl ?_
  refine c_aret rfl ?_
  refine s_astn (p' := 12) (ls' := [_, _, _, _]) rfl rfl rfl rfl ?_
  refine s_aldn (p' := 13) rfl rfl rfl ?_
  refine c_call (p' := 18) (kc := 98) (ls0 := [_]) rfl rfl rfl rfl rfl (mj_rcv_is (rd_ss rfl (rd_ss rfl (rd_ss rfl (rd_nw rfl (len_a HL rfl)))))) rfl rfl rfl ?_
  refine s_aldn (p' := 1) rfl rfl rfl ?_
  refine s_gf (p' := 4) rfl (rd_ss rfl (rd_ss rfl (rd_ss rfl (rd_nw rfl (len_a HL rfl))))) rfl rfl ?_
  refine s_aldn (p' := 5) rfl rfl rfl ?_
  refine s_gf (p' := 8) rfl (rd_ss rfl (rd_ss rfl (rd_ss rfl (rd_nw rfl (len_a HL rfl))))) rfl rfl ?_
  refine s_gf (p' := 11) rfl (rd_sn rfl (rd_sn rfl (rd_sn rfl (rd_app (rd_app H401))))) rfl rfl ?_
  refine s_icmp (p' := 18) true rfl (by decide +kernel) rfl ?_
  refine s_con (p' := 19) rfl rfl ?_
  refine c_iret rfl (by decide +kernel) ?_
  refine s_if (p' := 46) true rfl (by decide +kernel) rfl ?_
  refine s_aldn (p' := 47) rfl rfl rfl ?_
  refine s_aldn (p' := 48) rfl rfl rfl ?_
  refine s_gf (p' := 51) rfl (rd_sn rfl (rd_sn rfl (rd_sn rfl (rd_app (rd_app H400))))) rfl rfl ?_
  refine c_call (p' := 56) (kc := 98) (ls0 := [_]) rfl rfl rfl rfl rfl (mj_rcv_is (rd_sn rfl (rd_sn rfl (rd_sn rfl (rd_app (rd_app H401)))))) rfl rfl rfl ?_
  refine s_aldn (p' := 1) rfl rfl rfl ?_
  refine s_gf (p' := 4) rfl (rd_sn rfl (rd_sn rfl (rd_sn rfl (rd_app (rd_app H401))))) rfl rfl ?_
  refine s_if (p' := 7) false rfl (by decide +kernel) rfl ?_
  refine s_con (p' := 8) rfl rfl ?_
  refine s_goto (p' := 12) rfl rfl ?_
  refine c_iret rfl (by decide +kernel) ?_
  refine s_if (p' := 59) false rfl (by decide +kernel) rfl ?_
  refine s_con (p' := 60) rfl rfl ?_
  refine s_goto (p' := 64) rfl rfl ?_
  refine c_call (p' := 67) (kc := 98) (ls0 := [_, _]) rfl rfl rfl rfl rfl (mj_rcv_is (rd_sn rfl (rd_sn rfl (rd_sn rfl (rd_app (rd_app H400)))))) rfl rfl rfl ?_
  refine s_aldn (p' := 1) rfl rfl rfl ?_
  refine s_ildn (p' := 2) rfl rfl rfl ?_
  refine s_pfz (p' := 5) (fs' := [_, _, _, _, _, _, _, _, _, _, _]) rfl rfl (rd_sn rfl (rd_sn rfl (rd_sn rfl (rd_app (rd_app H400))))) rfl rfl rfl rfl ?_
  refine s_ildn (p' := 6) rfl rfl rfl ?_
  refine s_if (p' := 9) false rfl (by decide +kernel) rfl ?_
  refine s_con (p' := 10) rfl rfl ?_
  refine s_goto (p' := 14) rfl rfl ?_
  refine c_iret rfl (by decide +kernel) ?_
  refine s_if (p' := 70) false rfl (by decide +kernel) rfl ?_
  refine s_sp (p' := 71) (ls' := _) rfl rfl rfl ?_
  refine s_goto (p' := 87) rfl rfl ?_
  refine k_dret rfl ?_
  refine l_sp (p' := 2477) (ls' := [_, _, _, _, _, _, _, _, _, _]) rfl rfl rfl rfl rfl ?_
  refine l_aldn (p' := 2478) rfl rfl rfl rfl ?_
  refine l_call (p' := 2481) (kc := 99) (ls0 := [_]) rfl rfl rfl rfl rfl rfl (mj_rcv_is (rd_ss rfl (rd_sn rfl (rd_sn rfl (rd_sn rfl (rd_app (rd_app H400))))))) rfl rfl rfl ?_
  refine s_aldn (p' := 1) rfl rfl rfl ?_
  refine s_gf (p' := 4) rfl (rd_ss rfl (rd_sn rfl (rd_sn rfl (rd_sn rfl (rd_app (rd_app H400)))))) rfl rfl ?_
  refine k_iret rfl rfl ?_
  refine l_ild (p' := 2483) rfl rfl rfl rfl ?_
  refine l_icmp (p' := 2488) true rfl rfl (by decide +kernel) rfl ?_
  refine l_ild (p' := 2490) rfl rfl rfl rfl ?_
  refine l_if (p' := 2525) true rfl rfl (by decide +kernel) rfl ?_
  refine l_goto (p' := 2541) rfl rfl rfl ?_
  refine l_incz (p' := 2544) (w := (nI 4)) (ls' := [_, _, _, _, _, _, _, _, _, _]) rfl rfl rfl rfl (by decide +kernel) rfl rfl ?_
  refine l_goto (p' := 28) rfl rfl rfl ?_
  refine l_ild (p' := 30) rfl rfl rfl rfl ?_
  refine l_alds (p' := 31) rfl rfl rfl rfl ?_
  refine l_lens (p' := 32) rfl rfl rfl ?_
  refine l_con (p' := 33) rfl rfl rfl ?_
  refine l_bz (p' := 34) (z := (nI 0)) rfl rfl rfl rfl rfl (by decide +kernel) ?_
  refine l_icmp (p' := 2547) true rfl rfl (by decide +kernel) rfl ?_
  refine l_con (p' := 2548) rfl rfl rfl ?_
  refine l_end rfl rfl ?_
  exact ⟨Nat.le_trans (Nat.le_of_eq (len_s (len_s (len_s (len_s (len_a (len_a HL rfl) rfl)))))) (Nat.le_of_ble_eq_true rfl), Nat.le_trans (sz_s rfl (rd_sn rfl (rd_sn rfl (rd_sn rfl (rd_app (rd_app H400))))) rfl (sz_s rfl (rd_ss rfl (rd_ss rfl (rd_nw rfl (len_a HL rfl)))) rfl (sz_s rfl (rd_ss rfl (rd_nw rfl (len_a HL rfl))) rfl (sz_s rfl (rd_nw rfl (len_a HL rfl)) rfl (sz_aa (k := 4) (m := 20010) rfl rfl (sz_aa (k := 6) (m := 20006) rfl rfl HZ)))))) (Nat.le_of_ble_eq_true rfl)⟩
