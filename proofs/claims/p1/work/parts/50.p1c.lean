/-! One call on fresh objects. -/
theorem p1_49 {xs : Nat → Int32} {h : mj_H} (hk : xs 0 &&& nI 63 = nI 49)   (HL : h.length = 414) (HZ : mj_sz h ≤ 20000) (H0 : mj_rd h 0 = some (.inr (0, [.ref 1, .ref 38, .ref 299, .ref 336, .ref 373, .ref 375, .ref 378, .ref 381, .ref 387, .ref 393, .null, .null, .ref 397, .ref 398, .ref 399, .long (lN 0), .long (lN 0)]))) (H38 : mj_rd h 38 = some (.inr (6, [.ref 39, .ref 40, .int (nI 0)]))) (H393 : mj_rd h 393 = some (.inr (9, [.ref 394, .ref 395, .ref 396, .int (nI 0), .int (nI 0)]))) (H394 : mj_rd h 394 = some (.inl (0, (24, .inl (fun _ => 0))))) (H395 : mj_rd h 395 = some (.inl (0, (8, .inl (fun _ => 0))))) (H400 : mj_rd h 400 = some (.inr (17, [.int (nI 0), .ref 401, .ref 402, .ref 1000300, .long (lN 0), .long (lN 0), .ref 410, .null, .null, .null, .ref 411]))) : mj_fin 4 xs h := by
  unfold mj_fin
  refine l_ild (p' := 30) rfl rfl rfl rfl ?_
  refine l_alds (p' := 31) rfl rfl rfl rfl ?_
  refine l_lens (p' := 32) rfl rfl rfl ?_
  refine l_con (p' := 33) rfl rfl rfl ?_
  refine l_bz (p' := 34) (z := (nI 0)) rfl rfl rfl rfl rfl (by decide +kernel) ?_
  refine l_icmp (p' := 37) false rfl rfl (by decide +kernel) rfl ?_
  refine l_alds (p' := 38) rfl rfl rfl rfl ?_
  refine l_ild (p' := 40) rfl rfl rfl rfl ?_
  refine l_ialz (p' := 41) (m := 0) (z := (xs 0)) rfl rfl (by decide +kernel) rfl rfl rfl ?_
  refine l_bip (p' := 43) rfl rfl rfl ?_
  refine l_bz (p' := 44) (z := (nI 49)) rfl rfl rfl rfl rfl hk ?_
  refine l_sp (p' := 2528) (ls' := _) rfl rfl rfl rfl rfl ?_
  refine l_aldn (p' := 2529) rfl rfl rfl rfl ?_
  refine l_call (p' := 2532) (kc := 99) (ls0 := [_, _, _]) rfl rfl rfl rfl rfl rfl (mj_rcv_is H0) rfl rfl rfl ?_
  refine s_con (p' := 1) rfl rfl ?_
  refine s_istn (p' := 2) (ls' := [_, _, _]) rfl rfl rfl rfl ?_
  refine s_ildn (p' := 3) rfl rfl rfl ?_
  refine s_aldn (p' := 4) rfl rfl rfl ?_
  refine s_gf (p' := 7) rfl H0 rfl rfl ?_
  refine c_call (p' := 10) (kc := 98) (ls0 := [_]) rfl rfl rfl rfl rfl (mj_rcv_is H38) rfl rfl rfl ?_
  refine s_aldn (p' := 1) rfl rfl rfl ?_
  refine s_gf (p' := 4) rfl H38 rfl rfl ?_
  refine c_iret rfl rfl ?_
  refine s_icmp (p' := 136) true rfl (by decide +kernel) rfl ?_
  refine s_aldn (p' := 137) rfl rfl rfl ?_
  refine c_call (p' := 140) (kc := 98) (ls0 := [_, _, _]) rfl rfl rfl rfl rfl (mj_rcv_is H0) rfl rfl rfl ?_
  refine s_aldn (p' := 1) rfl rfl rfl ?_
  refine s_gf (p' := 4) rfl H0 rfl rfl ?_
  refine c_call (p' := 7) (kc := 97) (ls0 := [_, _, _]) rfl rfl rfl rfl rfl (mj_rcv_is H393) rfl rfl rfl ?_
  refine s_aldn (p' := 1) rfl rfl rfl ?_
  refine c_call (p' := 4) (kc := 96) (ls0 := [_, _]) rfl rfl rfl rfl rfl (mj_rcv_is H393) rfl rfl rfl ?_
  refine s_con (p' := 1) rfl rfl ?_
  refine s_istn (p' := 2) (ls' := [_, _]) rfl rfl rfl rfl ?_
  refine s_ildn (p' := 3) rfl rfl rfl ?_
  refine s_aldn (p' := 4) rfl rfl rfl ?_
  refine s_gf (p' := 7) rfl H393 rfl rfl ?_
  refine s_lenz (p' := 8) rfl (mj_rdA_is H395 (by decide)) rfl rfl ?_
  refine s_icmp (p' := 11) false rfl (by decide +kernel) rfl ?_
  refine s_aldn (p' := 12) rfl rfl rfl ?_
  refine s_gf (p' := 15) rfl H393 rfl rfl ?_
  refine s_ildn (p' := 16) rfl rfl rfl ?_
  refine s_aldn (p' := 17) rfl rfl rfl ?_
  refine s_ildn (p' := 18) rfl rfl rfl ?_
  refine c_call (p' := 21) (kc := 95) (ls0 := [_, _, _, _]) rfl rfl rfl rfl rfl (mj_rcv_is H393) rfl rfl rfl ?_
  refine s_ildn (p' := 1) rfl rfl rfl ?_
  refine s_istn (p' := 2) (ls' := [_, _, _, _]) rfl rfl rfl rfl ?_
  refine s_con (p' := 3) rfl rfl ?_
  refine s_istn (p' := 4) (ls' := [_, _, _, _]) rfl rfl rfl rfl ?_
  refine s_ildn (p' := 5) rfl rfl rfl ?_
  refine s_aldn (p' := 6) rfl rfl rfl ?_
  refine s_gf (p' := 9) rfl H393 rfl rfl ?_
  refine s_icmp (p' := 38) true rfl (by decide +kernel) rfl ?_
  refine s_ildn (p' := 39) rfl rfl rfl ?_
  refine c_iret rfl rfl ?_
  refine s_iasz (p' := 22) (m := 0) rfl rfl H395 (by decide +kernel) rfl rfl rfl ?_
  refine s_incz (p' := 25) (w := (nI 1)) (ls' := [_, _]) rfl rfl rfl (by decide +kernel) rfl rfl ?_
  refine s_goto (p' := 2) rfl rfl ?_
  refine s_ildn (p' := 3) rfl rfl rfl ?_
  refine s_aldn (p' := 4) rfl rfl rfl ?_
  refine s_gf (p' := 7) rfl (rd_sn rfl H393) rfl rfl ?_
  refine s_lenz (p' := 8) rfl (mj_rdA_is (rd_ss rfl H395) (by decide)) rfl rfl ?_
  refine s_icmp (p' := 11) false rfl (by decide +kernel) rfl ?_
  refine s_aldn (p' := 12) rfl rfl rfl ?_
  refine s_gf (p' := 15) rfl (rd_sn rfl H393) rfl rfl ?_
  refine s_ildn (p' := 16) rfl rfl rfl ?_
  refine s_aldn (p' := 17) rfl rfl rfl ?_
  refine s_ildn (p' := 18) rfl rfl rfl ?_
  refine c_call (p' := 21) (kc := 95) (ls0 := [_, _, _, _]) rfl rfl rfl rfl rfl (mj_rcv_is (rd_sn rfl H393)) rfl rfl rfl ?_
  refine s_ildn (p' := 1) rfl rfl rfl ?_
  refine s_istn (p' := 2) (ls' := [_, _, _, _]) rfl rfl rfl rfl ?_
  refine s_con (p' := 3) rfl rfl ?_
  refine s_istn (p' := 4) (ls' := [_, _, _, _]) rfl rfl rfl rfl ?_
  refine s_ildn (p' := 5) rfl rfl rfl ?_
  refine s_aldn (p' := 6) rfl rfl rfl ?_
  refine s_gf (p' := 9) rfl (rd_sn rfl H393) rfl rfl ?_
  refine s_icmp (p' := 38) true rfl (by decide +kernel) rfl ?_
  refine s_ildn (p' := 39) rfl rfl rfl ?_
  refine c_iret rfl rfl ?_
  refine s_iasz (p' := 22) (m := 1) rfl rfl (rd_ss rfl H395) (by decide +kernel) rfl rfl rfl ?_
  refine s_incz (p' := 25) (w := (nI 2)) (ls' := [_, _]) rfl rfl rfl (by decide +kernel) rfl rfl ?_
  refine s_goto (p' := 2) rfl rfl ?_
  refine s_ildn (p' := 3) rfl rfl rfl ?_
  refine s_aldn (p' := 4) rfl rfl rfl ?_
  refine s_gf (p' := 7) rfl (rd_sn rfl (rd_sn rfl H393)) rfl rfl ?_
  refine s_lenz (p' := 8) rfl (mj_rdA_is (rd_ss rfl (rd_ss rfl H395)) (by decide)) rfl rfl ?_
  refine s_icmp (p' := 11) false rfl (by decide +kernel) rfl ?_
  refine s_aldn (p' := 12) rfl rfl rfl ?_
  refine s_gf (p' := 15) rfl (rd_sn rfl (rd_sn rfl H393)) rfl rfl ?_
  refine s_ildn (p' := 16) rfl rfl rfl ?_
  refine s_aldn (p' := 17) rfl rfl rfl ?_
  refine s_ildn (p' := 18) rfl rfl rfl ?_
  refine c_call (p' := 21) (kc := 95) (ls0 := [_, _, _, _]) rfl rfl rfl rfl rfl (mj_rcv_is (rd_sn rfl (rd_sn rfl H393))) rfl rfl rfl ?_
  refine s_ildn (p' := 1) rfl rfl rfl ?_
  refine s_istn (p' := 2) (ls' := [_, _, _, _]) rfl rfl rfl rfl ?_
  refine s_con (p' := 3) rfl rfl ?_
  refine s_istn (p' := 4) (ls' := [_, _, _, _]) rfl rfl rfl rfl ?_
  refine s_ildn (p' := 5) rfl rfl rfl ?_
  refine s_aldn (p' := 6) rfl rfl rfl ?_
  refine s_gf (p' := 9) rfl (rd_sn rfl (rd_sn rfl H393)) rfl rfl ?_
  refine s_icmp (p' := 38) true rfl (by decide +kernel) rfl ?_
  refine s_ildn (p' := 39) rfl rfl rfl ?_
  refine c_iret rfl rfl ?_
  refine s_iasz (p' := 22) (m := 2) rfl rfl (rd_ss rfl (rd_ss rfl H395)) (by decide +kernel) rfl rfl rfl ?_
  refine s_incz (p' := 25) (w := (nI 3)) (ls' := [_, _]) rfl rfl rfl (by decide +kernel) rfl rfl ?_
  refine s_goto (p' := 2) rfl rfl ?_
  refine s_ildn (p' := 3) rfl rfl rfl ?_
  refine s_aldn (p' := 4) rfl rfl rfl ?_
  refine s_gf (p' := 7) rfl (rd_sn rfl (rd_sn rfl (rd_sn rfl H393))) rfl rfl ?_
  refine s_lenz (p' := 8) rfl (mj_rdA_is (rd_ss rfl (rd_ss rfl (rd_ss rfl H395))) (by decide)) rfl rfl ?_
  refine s_icmp (p' := 11) false rfl (by decide +kernel) rfl ?_
  refine s_aldn (p' := 12) rfl rfl rfl ?_
  refine s_gf (p' := 15) rfl (rd_sn rfl (rd_sn rfl (rd_sn rfl H393))) rfl rfl ?_
  refine s_ildn (p' := 16) rfl rfl rfl ?_
  refine s_aldn (p' := 17) rfl rfl rfl ?_
  refine s_ildn (p' := 18) rfl rfl rfl ?_
  refine c_call (p' := 21) (kc := 95) (ls0 := [_, _, _, _]) rfl rfl rfl rfl rfl (mj_rcv_is (rd_sn rfl (rd_sn rfl (rd_sn rfl H393)))) rfl rfl rfl ?_
  refine s_ildn (p' := 1) rfl rfl rfl ?_
  refine s_istn (p' := 2) (ls' := [_, _, _, _]) rfl rfl rfl rfl ?_
  refine s_con (p' := 3) rfl rfl ?_
  refine s_istn (p' := 4) (ls' := [_, _, _, _]) rfl rfl rfl rfl ?_
  refine s_ildn (p' := 5) rfl rfl rfl ?_
  refine s_aldn (p' := 6) rfl rfl rfl ?_
  refine s_gf (p' := 9) rfl (rd_sn rfl (rd_sn rfl (rd_sn rfl H393))) rfl rfl ?_
  refine s_icmp (p' := 38) true rfl (by decide +kernel) rfl ?_
  refine s_ildn (p' := 39) rfl rfl rfl ?_
  refine c_iret rfl rfl ?_
  refine s_iasz (p' := 22) (m := 3) rfl rfl (rd_ss rfl (rd_ss rfl (rd_ss rfl H395))) (by decide +kernel) rfl rfl rfl ?_
  refine s_incz (p' := 25) (w := (nI 4)) (ls' := [_, _]) rfl rfl rfl (by decide +kernel) rfl rfl ?_
  refine s_goto (p' := 2) rfl rfl ?_
  refine s_ildn (p' := 3) rfl rfl rfl ?_
  refine s_aldn (p' := 4) rfl rfl rfl ?_
  refine s_gf (p' := 7) rfl (rd_sn rfl (rd_sn rfl (rd_sn rfl (rd_sn rfl H393)))) rfl rfl ?_
  refine s_lenz (p' := 8) rfl (mj_rdA_is (rd_ss rfl (rd_ss rfl (rd_ss rfl (rd_ss rfl H395)))) (by decide)) rfl rfl ?_
  refine s_icmp (p' := 11) false rfl (by decide +kernel) rfl ?_
  refine s_aldn (p' := 12) rfl rfl rfl ?_
  refine s_gf (p' := 15) rfl (rd_sn rfl (rd_sn rfl (rd_sn rfl (rd_sn rfl H393)))) rfl rfl ?_
  refine s_ildn (p' := 16) rfl rfl rfl ?_
  refine s_aldn (p' := 17) rfl rfl rfl ?_
  refine s_ildn (p' := 18) rfl rfl rfl ?_
  refine c_call (p' := 21) (kc := 95) (ls0 := [_, _, _, _]) rfl rfl rfl rfl rfl (mj_rcv_is (rd_sn rfl (rd_sn rfl (rd_sn rfl (rd_sn rfl H393))))) rfl rfl rfl ?_
  refine s_ildn (p' := 1) rfl rfl rfl ?_
  refine s_istn (p' := 2) (ls' := [_, _, _, _]) rfl rfl rfl rfl ?_
  refine s_con (p' := 3) rfl rfl ?_
  refine s_istn (p' := 4) (ls' := [_, _, _, _]) rfl rfl rfl rfl ?_
  refine s_ildn (p' := 5) rfl rfl rfl ?_
  refine s_aldn (p' := 6) rfl rfl rfl ?_
  refine s_gf (p' := 9) rfl (rd_sn rfl (rd_sn rfl (rd_sn rfl (rd_sn rfl H393)))) rfl rfl ?_
  refine s_icmp (p' := 38) true rfl (by decide +kernel) rfl ?_
  refine s_ildn (p' := 39) rfl rfl rfl ?_
  refine c_iret rfl rfl ?_
  refine s_iasz (p' := 22) (m := 4) rfl rfl (rd_ss rfl (rd_ss rfl (rd_ss rfl (rd_ss rfl H395)))) (by decide +kernel) rfl rfl rfl ?_
  refine s_incz (p' := 25) (w := (nI 5)) (ls' := [_, _]) rfl rfl rfl (by decide +kernel) rfl rfl ?_
  refine s_goto (p' := 2) rfl rfl ?_
  refine s_ildn (p' := 3) rfl rfl rfl ?_
  refine s_aldn (p' := 4) rfl rfl rfl ?_
  refine s_gf (p' := 7) rfl (rd_sn rfl (rd_sn rfl (rd_sn rfl (rd_sn rfl (rd_sn rfl H393))))) rfl rfl ?_
  refine s_lenz (p' := 8) rfl (mj_rdA_is (rd_ss rfl (rd_ss rfl (rd_ss rfl (rd_ss rfl (rd_ss rfl H395))))) (by decide)) rfl rfl ?_
  refine s_icmp (p' := 11) false rfl (by decide +kernel) rfl ?_
  refine s_aldn (p' := 12) rfl rfl rfl ?_
  refine s_gf (p' := 15) rfl (rd_sn rfl (rd_sn rfl (rd_sn rfl (rd_sn rfl (rd_sn rfl H393))))) rfl rfl ?_
  refine s_ildn (p' := 16) rfl rfl rfl ?_
  refine s_aldn (p' := 17) rfl rfl rfl ?_
  refine s_ildn (p' := 18) rfl rfl rfl ?_
  refine c_call (p' := 21) (kc := 95) (ls0 := [_, _, _, _]) rfl rfl rfl rfl rfl (mj_rcv_is (rd_sn rfl (rd_sn rfl (rd_sn rfl (rd_sn rfl (rd_sn rfl H393)))))) rfl rfl rfl ?_
  refine s_ildn (p' := 1) rfl rfl rfl ?_
  refine s_istn (p' := 2) (ls' := [_, _, _, _]) rfl rfl rfl rfl ?_
  refine s_con (p' := 3) rfl rfl ?_
  refine s_istn (p' := 4) (ls' := [_, _, _, _]) rfl rfl rfl rfl ?_
  refine s_ildn (p' := 5) rfl rfl rfl ?_
  refine s_aldn (p' := 6) rfl rfl rfl ?_
  refine s_gf (p' := 9) rfl (rd_sn rfl (rd_sn rfl (rd_sn rfl (rd_sn rfl (rd_sn rfl H393))))) rfl rfl ?_
  refine s_icmp (p' := 38) true rfl (by decide +kernel) rfl ?_
  refine s_ildn (p' := 39) rfl rfl rfl ?_
  refine c_iret rfl rfl ?_
  refine s_iasz (p' := 22) (m := 5) rfl rfl (rd_ss rfl (rd_ss rfl (rd_ss rfl (rd_ss rfl (rd_ss rfl H395))))) (by decide +kernel) rfl rfl rfl ?_
  refine s_incz (p' := 25) (w := (nI 6)) (ls' := [_, _]) rfl rfl rfl (by decide +kernel) rfl rfl ?_
  refine s_goto (p' := 2) rfl rfl ?_
  refine s_ildn (p' := 3) rfl rfl rfl ?_
  refine s_aldn (p' := 4) rfl rfl rfl ?_
  refine s_gf (p' := 7) rfl (rd_sn rfl (rd_sn rfl (rd_sn rfl (rd_sn rfl (rd_sn rfl (rd_sn rfl H393)))))) rfl rfl ?_
  refine s_lenz (p' := 8) rfl (mj_rdA_is (rd_ss rfl (rd_ss rfl (rd_ss rfl (rd_ss rfl (rd_ss rfl (rd_ss rfl H395)))))) (by decide)) rfl rfl ?_
  refine s_icmp (p' := 11) false rfl (by decide +kernel) rfl ?_
  refine s_aldn (p' := 12) rfl rfl rfl ?_
  refine s_gf (p' := 15) rfl (rd_sn rfl (rd_sn rfl (rd_sn rfl (rd_sn rfl (rd_sn rfl (rd_sn rfl H393)))))) rfl rfl ?_
  refine s_ildn (p' := 16) rfl rfl rfl ?_
  refine s_aldn (p' := 17) rfl rfl rfl ?_
  refine s_ildn (p' := 18) rfl rfl rfl ?_
  refine c_call (p' := 21) (kc := 95) (ls0 := [_, _, _, _]) rfl rfl rfl rfl rfl (mj_rcv_is (rd_sn rfl (rd_sn rfl (rd_sn rfl (rd_sn rfl (rd_sn rfl (rd_sn rfl H393))))))) rfl rfl rfl ?_
  refine s_ildn (p' := 1) rfl rfl rfl ?_
  refine s_istn (p' := 2) (ls' := [_, _, _, _]) rfl rfl rfl rfl ?_
  refine s_con (p' := 3) rfl rfl ?_
  refine s_istn (p' := 4) (ls' := [_, _, _, _]) rfl rfl rfl rfl ?_
  refine s_ildn (p' := 5) rfl rfl rfl ?_
  refine s_aldn (p' := 6) rfl rfl rfl ?_
  refine s_gf (p' := 9) rfl (rd_sn rfl (rd_sn rfl (rd_sn rfl (rd_sn rfl (rd_sn rfl (rd_sn rfl H393)))))) rfl rfl ?_
  refine s_icmp (p' := 38) true rfl (by decide +kernel) rfl ?_
  refine s_ildn (p' := 39) rfl rfl rfl ?_
  refine c_iret rfl rfl ?_
  refine s_iasz (p' := 22) (m := 6) rfl rfl (rd_ss rfl (rd_ss rfl (rd_ss rfl (rd_ss rfl (rd_ss rfl (rd_ss rfl H395)))))) (by decide +kernel) rfl rfl rfl ?_
  refine s_incz (p' := 25) (w := (nI 7)) (ls' := [_, _]) rfl rfl rfl (by decide +kernel) rfl rfl ?_
  refine s_goto (p' := 2) rfl rfl ?_
  refine s_ildn (p' := 3) rfl rfl rfl ?_
  refine s_aldn (p' := 4) rfl rfl rfl ?_
  refine s_gf (p' := 7) rfl (rd_sn rfl (rd_sn rfl (rd_sn rfl (rd_sn rfl (rd_sn rfl (rd_sn rfl (rd_sn rfl H393))))))) rfl rfl ?_
  refine s_lenz (p' := 8) rfl (mj_rdA_is (rd_ss rfl (rd_ss rfl (rd_ss rfl (rd_ss rfl (rd_ss rfl (rd_ss rfl (rd_ss rfl H395))))))) (by decide)) rfl rfl ?_
  refine s_icmp (p' := 11) false rfl (by decide +kernel) rfl ?_
  refine s_aldn (p' := 12) rfl rfl rfl ?_
  refine s_gf (p' := 15) rfl (rd_sn rfl (rd_sn rfl (rd_sn rfl (rd_sn rfl (rd_sn rfl (rd_sn rfl (rd_sn rfl H393))))))) rfl rfl ?_
  refine s_ildn (p' := 16) rfl rfl rfl ?_
  refine s_aldn (p' := 17) rfl rfl rfl ?_
  refine s_ildn (p' := 18) rfl rfl rfl ?_
  refine c_call (p' := 21) (kc := 95) (ls0 := [_, _, _, _]) rfl rfl rfl rfl rfl (mj_rcv_is (rd_sn rfl (rd_sn rfl (rd_sn rfl (rd_sn rfl (rd_sn rfl (rd_sn rfl (rd_sn rfl H393)))))))) rfl rfl rfl ?_
  refine s_ildn (p' := 1) rfl rfl rfl ?_
  refine s_istn (p' := 2) (ls' := [_, _, _, _]) rfl rfl rfl rfl ?_
  refine s_con (p' := 3) rfl rfl ?_
  refine s_istn (p' := 4) (ls' := [_, _, _, _]) rfl rfl rfl rfl ?_
  refine s_ildn (p' := 5) rfl rfl rfl ?_
  refine s_aldn (p' := 6) rfl rfl rfl ?_
  refine s_gf (p' := 9) rfl (rd_sn rfl (rd_sn rfl (rd_sn rfl (rd_sn rfl (rd_sn rfl (rd_sn rfl (rd_sn rfl H393))))))) rfl rfl ?_
  refine s_icmp (p' := 38) true rfl (by decide +kernel) rfl ?_
  refine s_ildn (p' := 39) rfl rfl rfl ?_
  refine c_iret rfl rfl ?_
  refine s_iasz (p' := 22) (m := 7) rfl rfl (rd_ss rfl (rd_ss rfl (rd_ss rfl (rd_ss rfl (rd_ss rfl (rd_ss rfl (rd_ss rfl H395))))))) (by decide +kernel) rfl rfl rfl ?_
  refine s_incz (p' := 25) (w := (nI 8)) (ls' := [_, _]) rfl rfl rfl (by decide +kernel) rfl rfl ?_
  refine s_goto (p' := 2) rfl rfl ?_
  refine s_ildn (p' := 3) rfl rfl rfl ?_
  refine s_aldn (p' := 4) rfl rfl rfl ?_
  refine s_gf (p' := 7) rfl (rd_sn rfl (rd_sn rfl (rd_sn rfl (rd_sn rfl (rd_sn rfl (rd_sn rfl (rd_sn rfl (rd_sn rfl H393)))))))) rfl rfl ?_
  refine s_lenz (p' := 8) rfl (mj_rdA_is (rd_ss rfl (rd_ss rfl (rd_ss rfl (rd_ss rfl (rd_ss rfl (rd_ss rfl (rd_ss rfl (rd_ss rfl H395)))))))) (by decide)) rfl rfl ?_
  refine s_icmp (p' := 28) true rfl (by decide +kernel) rfl ?_
  refine c_ret rfl ?_
  refine s_aldn (p' := 5) rfl rfl rfl ?_
  refine s_con (p' := 6) rfl rfl ?_
  refine s_pfz (p' := 9) (fs' := [_, _, _, _, _]) rfl rfl (rd_sn rfl (rd_sn rfl (rd_sn rfl (rd_sn rfl (rd_sn rfl (rd_sn rfl (rd_sn rfl (rd_sn rfl H393)))))))) rfl rfl rfl rfl ?_
  refine s_con (p' := 10) rfl rfl ?_
  refine s_istn (p' := 11) (ls' := [_, _, _]) rfl rfl rfl rfl ?_
  refine s_ildn (p' := 12) rfl rfl rfl ?_
  refine s_aldn (p' := 13) rfl rfl rfl ?_
  refine s_gf (p' := 16) rfl (rd_ss rfl (rd_sn rfl (rd_sn rfl (rd_sn rfl (rd_sn rfl (rd_sn rfl (rd_sn rfl (rd_sn rfl (rd_sn rfl H393))))))))) rfl rfl ?_
  refine s_lenz (p' := 17) rfl (mj_rdA_is (rd_sn rfl (rd_ss rfl (rd_ss rfl (rd_ss rfl (rd_ss rfl (rd_ss rfl (rd_ss rfl (rd_ss rfl (rd_ss rfl H395))))))))) (by decide)) rfl rfl ?_
  refine s_icmp (p' := 20) false rfl (by decide +kernel) rfl ?_
  refine s_con (p' := 21) rfl rfl ?_
  refine s_istn (p' := 22) (ls' := [_, _, _]) rfl rfl rfl rfl ?_
  refine s_ildn (p' := 23) rfl rfl rfl ?_
  refine s_con (p' := 24) rfl rfl ?_
  refine s_icmp (p' := 27) false rfl (by decide +kernel) rfl ?_
  refine s_ildn (p' := 28) rfl rfl rfl ?_
  refine s_aldn (p' := 29) rfl rfl rfl ?_
  refine s_gf (p' := 32) rfl (rd_ss rfl (rd_sn rfl (rd_sn rfl (rd_sn rfl (rd_sn rfl (rd_sn rfl (rd_sn rfl (rd_sn rfl (rd_sn rfl H393))))))))) rfl rfl ?_
  refine s_ildn (p' := 33) rfl rfl rfl ?_
  refine s_ialz (p' := 34) (m := 0) (v := (nI 0)) rfl (rd_sn rfl (rd_ss rfl (rd_ss rfl (rd_ss rfl (rd_ss rfl (rd_ss rfl (rd_ss rfl (rd_ss rfl (rd_ss rfl H395))))))))) (by decide +kernel) rfl (by decide +kernel) rfl ?_
  refine s_con (p' := 35) rfl rfl ?_
  refine s_bz (p' := 36) (z := (nI 4294967295)) rfl rfl rfl (by decide +kernel) ?_
  refine s_bz (p' := 37) (z := (nI 0)) rfl rfl rfl (by decide +kernel) ?_
  refine s_con (p' := 38) rfl rfl ?_
  refine s_ildn (p' := 39) rfl rfl rfl ?_
  refine s_bz (p' := 40) (z := (nI 1)) rfl rfl rfl (by decide +kernel) ?_
  refine s_bz (p' := 41) (z := (nI 0)) rfl rfl rfl (by decide +kernel) ?_
  refine s_if (p' := 55) true rfl (by decide +kernel) rfl ?_
  refine s_incz (p' := 58) (w := (nI 1)) (ls' := [_, _, _]) rfl rfl rfl (by decide +kernel) rfl rfl ?_
  refine s_goto (p' := 22) rfl rfl ?_
  refine s_ildn (p' := 23) rfl rfl rfl ?_
  refine s_con (p' := 24) rfl rfl ?_
  refine s_icmp (p' := 27) false rfl (by decide +kernel) rfl ?_
  refine s_ildn (p' := 28) rfl rfl rfl ?_
  refine s_aldn (p' := 29) rfl rfl rfl ?_
  refine s_gf (p' := 32) rfl (rd_ss rfl (rd_sn rfl (rd_sn rfl (rd_sn rfl (rd_sn rfl (rd_sn rfl (rd_sn rfl (rd_sn rfl (rd_sn rfl H393))))))))) rfl rfl ?_
  refine s_ildn (p' := 33) rfl rfl rfl ?_
  refine s_ialz (p' := 34) (m := 0) (v := (nI 0)) rfl (rd_sn rfl (rd_ss rfl (rd_ss rfl (rd_ss rfl (rd_ss rfl (rd_ss rfl (rd_ss rfl (rd_ss rfl (rd_ss rfl H395))))))))) (by decide +kernel) rfl (by decide +kernel) rfl ?_
  refine s_con (p' := 35) rfl rfl ?_
  refine s_bz (p' := 36) (z := (nI 4294967295)) rfl rfl rfl (by decide +kernel) ?_
  refine s_bz (p' := 37) (z := (nI 0)) rfl rfl rfl (by decide +kernel) ?_
  refine s_con (p' := 38) rfl rfl ?_
  refine s_ildn (p' := 39) rfl rfl rfl ?_
  refine s_bz (p' := 40) (z := (nI 2)) rfl rfl rfl (by decide +kernel) ?_
  refine s_bz (p' := 41) (z := (nI 0)) rfl rfl rfl (by decide +kernel) ?_
  refine s_if (p' := 55) true rfl (by decide +kernel) rfl ?_
  refine s_incz (p' := 58) (w := (nI 2)) (ls' := [_, _, _]) rfl rfl rfl (by decide +kernel) rfl rfl ?_
  refine s_goto (p' := 22) rfl rfl ?_
  refine s_ildn (p' := 23) rfl rfl rfl ?_
  refine s_con (p' := 24) rfl rfl ?_
  refine s_icmp (p' := 27) false rfl (by decide +kernel) rfl ?_
  refine s_ildn (p' := 28) rfl rfl rfl ?_
  refine s_aldn (p' := 29) rfl rfl rfl ?_
  refine s_gf (p' := 32) rfl (rd_ss rfl (rd_sn rfl (rd_sn rfl (rd_sn rfl (rd_sn rfl (rd_sn rfl (rd_sn rfl (rd_sn rfl (rd_sn rfl H393))))))))) rfl rfl ?_
  refine s_ildn (p' := 33) rfl rfl rfl ?_
  refine s_ialz (p' := 34) (m := 0) (v := (nI 0)) rfl (rd_sn rfl (rd_ss rfl (rd_ss rfl (rd_ss rfl (rd_ss rfl (rd_ss rfl (rd_ss rfl (rd_ss rfl (rd_ss rfl H395))))))))) (by decide +kernel) rfl (by decide +kernel) rfl ?_
  refine s_con (p' := 35) rfl rfl ?_
  refine s_bz (p' := 36) (z := (nI 4294967295)) rfl rfl rfl (by decide +kernel) ?_
  refine s_bz (p' := 37) (z := (nI 0)) rfl rfl rfl (by decide +kernel) ?_
  refine s_con (p' := 38) rfl rfl ?_
  refine s_ildn (p' := 39) rfl rfl rfl ?_
  refine s_bz (p' := 40) (z := (nI 4)) rfl rfl rfl (by decide +kernel) ?_
  refine s_bz (p' := 41) (z := (nI 0)) rfl rfl rfl (by decide +kernel) ?_
  refine s_if (p' := 55) true rfl (by decide +kernel) rfl ?_
  refine s_incz (p' := 58) (w := (nI 3)) (ls' := [_, _, _]) rfl rfl rfl (by decide +kernel) rfl rfl ?_
  refine s_goto (p' := 22) rfl rfl ?_
  refine s_ildn (p' := 23) rfl rfl rfl ?_
  refine s_con (p' := 24) rfl rfl ?_
  refine s_icmp (p' := 61) true rfl (by decide +kernel) rfl ?_
  refine s_con (p' := 62) rfl rfl ?_
  refine s_istn (p' := 63) (ls' := [_, _, _]) rfl rfl rfl rfl ?_
  refine s_ildn (p' := 64) rfl rfl rfl ?_
  refine s_con (p' := 65) rfl rfl ?_
  refine s_icmp (p' := 68) false rfl (by decide +kernel) rfl ?_
  refine s_aldn (p' := 69) rfl rfl rfl ?_
  refine s_gf (p' := 72) rfl (rd_ss rfl (rd_sn rfl (rd_sn rfl (rd_sn rfl (rd_sn rfl (rd_sn rfl (rd_sn rfl (rd_sn rfl (rd_sn rfl H393))))))))) rfl rfl ?_
  refine s_ildn (p' := 73) rfl rfl rfl ?_
  refine s_ialz (p' := 74) (m := 0) (v := (nI 0)) rfl (rd_sn rfl (rd_ss rfl (rd_ss rfl (rd_ss rfl (rd_ss rfl (rd_ss rfl (rd_ss rfl (rd_ss rfl (rd_ss rfl H395))))))))) (by decide +kernel) rfl (by decide +kernel) rfl ?_
  refine s_ildn (p' := 75) rfl rfl rfl ?_
  refine s_con (p' := 76) rfl rfl ?_
  refine s_bz (p' := 77) (z := (nI 4294967295)) rfl rfl rfl (by decide +kernel) ?_
  refine s_bz (p' := 78) (z := (nI 0)) rfl rfl rfl (by decide +kernel) ?_
  refine s_con (p' := 79) rfl rfl ?_
  refine s_ildn (p' := 80) rfl rfl rfl ?_
  refine s_bz (p' := 81) (z := (nI 1)) rfl rfl rfl (by decide +kernel) ?_
  refine s_bz (p' := 82) (z := (nI 0)) rfl rfl rfl (by decide +kernel) ?_
  refine s_if (p' := 91) true rfl (by decide +kernel) rfl ?_
  refine s_incz (p' := 94) (w := (nI 1)) (ls' := [_, _, _]) rfl rfl rfl (by decide +kernel) rfl rfl ?_
  refine s_goto (p' := 63) rfl rfl ?_
  refine s_ildn (p' := 64) rfl rfl rfl ?_
  refine s_con (p' := 65) rfl rfl ?_
  refine s_icmp (p' := 68) false rfl (by decide +kernel) rfl ?_
  refine s_aldn (p' := 69) rfl rfl rfl ?_
  refine s_gf (p' := 72) rfl (rd_ss rfl (rd_sn rfl (rd_sn rfl (rd_sn rfl (rd_sn rfl (rd_sn rfl (rd_sn rfl (rd_sn rfl (rd_sn rfl H393))))))))) rfl rfl ?_
  refine s_ildn (p' := 73) rfl rfl rfl ?_
  refine s_ialz (p' := 74) (m := 0) (v := (nI 0)) rfl (rd_sn rfl (rd_ss rfl (rd_ss rfl (rd_ss rfl (rd_ss rfl (rd_ss rfl (rd_ss rfl (rd_ss rfl (rd_ss rfl H395))))))))) (by decide +kernel) rfl (by decide +kernel) rfl ?_
  refine s_ildn (p' := 75) rfl rfl rfl ?_
  refine s_con (p' := 76) rfl rfl ?_
  refine s_bz (p' := 77) (z := (nI 4294967295)) rfl rfl rfl (by decide +kernel) ?_
  refine s_bz (p' := 78) (z := (nI 0)) rfl rfl rfl (by decide +kernel) ?_
  refine s_con (p' := 79) rfl rfl ?_
  refine s_ildn (p' := 80) rfl rfl rfl ?_
  refine s_bz (p' := 81) (z := (nI 2)) rfl rfl rfl (by decide +kernel) ?_
  refine s_bz (p' := 82) (z := (nI 0)) rfl rfl rfl (by decide +kernel) ?_
  refine s_if (p' := 91) true rfl (by decide +kernel) rfl ?_
  refine s_incz (p' := 94) (w := (nI 2)) (ls' := [_, _, _]) rfl rfl rfl (by decide +kernel) rfl rfl ?_
  refine s_goto (p' := 63) rfl rfl ?_
  refine s_ildn (p' := 64) rfl rfl rfl ?_
  refine s_con (p' := 65) rfl rfl ?_
  refine s_icmp (p' := 68) false rfl (by decide +kernel) rfl ?_
  refine s_aldn (p' := 69) rfl rfl rfl ?_
  refine s_gf (p' := 72) rfl (rd_ss rfl (rd_sn rfl (rd_sn rfl (rd_sn rfl (rd_sn rfl (rd_sn rfl (rd_sn rfl (rd_sn rfl (rd_sn rfl H393))))))))) rfl rfl ?_
  refine s_ildn (p' := 73) rfl rfl rfl ?_
  refine s_ialz (p' := 74) (m := 0) (v := (nI 0)) rfl (rd_sn rfl (rd_ss rfl (rd_ss rfl (rd_ss rfl (rd_ss rfl (rd_ss rfl (rd_ss rfl (rd_ss rfl (rd_ss rfl H395))))))))) (by decide +kernel) rfl (by decide +kernel) rfl ?_
  refine s_ildn (p' := 75) rfl rfl rfl ?_
  refine s_con (p' := 76) rfl rfl ?_
  refine s_bz (p' := 77) (z := (nI 4294967295)) rfl rfl rfl (by decide +kernel) ?_
  refine s_bz (p' := 78) (z := (nI 0)) rfl rfl rfl (by decide +kernel) ?_
  refine s_con (p' := 79) rfl rfl ?_
  refine s_ildn (p' := 80) rfl rfl rfl ?_
  refine s_bz (p' := 81) (z := (nI 4)) rfl rfl rfl (by decide +kernel) ?_
  refine s_bz (p' := 82) (z := (nI 0)) rfl rfl rfl (by decide +kernel) ?_
  refine s_if (p' := 91) true rfl (by decide +kernel) rfl ?_
  refine s_incz (p' := 94) (w := (nI 3)) (ls' := [_, _, _]) rfl rfl rfl (by decide +kernel) rfl rfl ?_
  refine s_goto (p' := 63) rfl rfl ?_
  refine s_ildn (p' := 64) rfl rfl rfl ?_
  refine s_con (p' := 65) rfl rfl ?_
  refine s_icmp (p' := 97) true rfl (by decide +kernel) rfl ?_
  refine s_incz (p' := 100) (w := (nI 1)) (ls' := [_, _, _]) rfl rfl rfl (by decide +kernel) rfl rfl ?_
  refine s_goto (p' := 11) rfl rfl ?_
  refine s_ildn (p' := 12) rfl rfl rfl ?_
  refine s_aldn (p' := 13) rfl rfl rfl ?_
  refine s_gf (p' := 16) rfl (rd_ss rfl (rd_sn rfl (rd_sn rfl (rd_sn rfl (rd_sn rfl (rd_sn rfl (rd_sn rfl (rd_sn rfl (rd_sn rfl H393))))))))) rfl rfl ?_
  refine s_lenz (p' := 17) rfl (mj_rdA_is (rd_sn rfl (rd_ss rfl (rd_ss rfl (rd_ss rfl (rd_ss rfl (rd_ss rfl (rd_ss rfl (rd_ss rfl (rd_ss rfl H395))))))))) (by decide)) rfl rfl ?_
  refine s_icmp (p' := 20) false rfl (by decide +kernel) rfl ?_
  refine s_con (p' := 21) rfl rfl ?_
  refine s_istn (p' := 22) (ls' := [_, _, _]) rfl rfl rfl rfl ?_
  refine s_ildn (p' := 23) rfl rfl rfl ?_
  refine s_con (p' := 24) rfl rfl ?_
  refine s_icmp (p' := 27) false rfl (by decide +kernel) rfl ?_
  refine s_ildn (p' := 28) rfl rfl rfl ?_
  refine s_aldn (p' := 29) rfl rfl rfl ?_
  refine s_gf (p' := 32) rfl (rd_ss rfl (rd_sn rfl (rd_sn rfl (rd_sn rfl (rd_sn rfl (rd_sn rfl (rd_sn rfl (rd_sn rfl (rd_sn rfl H393))))))))) rfl rfl ?_
  refine s_ildn (p' := 33) rfl rfl rfl ?_
  refine s_ialz (p' := 34) (m := 1) (v := (nI 1)) rfl (rd_sn rfl (rd_ss rfl (rd_ss rfl (rd_ss rfl (rd_ss rfl (rd_ss rfl (rd_ss rfl (rd_ss rfl (rd_ss rfl H395))))))))) (by decide +kernel) rfl (by decide +kernel) rfl ?_
  refine s_con (p' := 35) rfl rfl ?_
  refine s_bz (p' := 36) (z := (nI 4294967294)) rfl rfl rfl (by decide +kernel) ?_
  refine s_bz (p' := 37) (z := (nI 0)) rfl rfl rfl (by decide +kernel) ?_
  refine s_con (p' := 38) rfl rfl ?_
  refine s_ildn (p' := 39) rfl rfl rfl ?_
  refine s_bz (p' := 40) (z := (nI 1)) rfl rfl rfl (by decide +kernel) ?_
  refine s_bz (p' := 41) (z := (nI 0)) rfl rfl rfl (by decide +kernel) ?_
  refine s_if (p' := 55) true rfl (by decide +kernel) rfl ?_
  refine s_incz (p' := 58) (w := (nI 1)) (ls' := [_, _, _]) rfl rfl rfl (by decide +kernel) rfl rfl ?_
  refine s_goto (p' := 22) rfl rfl ?_
  refine s_ildn (p' := 23) rfl rfl rfl ?_
  refine s_con (p' := 24) rfl rfl ?_
  refine s_icmp (p' := 27) false rfl (by decide +kernel) rfl ?_
  refine s_ildn (p' := 28) rfl rfl rfl ?_
  refine s_aldn (p' := 29) rfl rfl rfl ?_
  refine s_gf (p' := 32) rfl (rd_ss rfl (rd_sn rfl (rd_sn rfl (rd_sn rfl (rd_sn rfl (rd_sn rfl (rd_sn rfl (rd_sn rfl (rd_sn rfl H393))))))))) rfl rfl ?_
  refine s_ildn (p' := 33) rfl rfl rfl ?_
  refine s_ialz (p' := 34) (m := 1) (v := (nI 1)) rfl (rd_sn rfl (rd_ss rfl (rd_ss rfl (rd_ss rfl (rd_ss rfl (rd_ss rfl (rd_ss rfl (rd_ss rfl (rd_ss rfl H395))))))))) (by decide +kernel) rfl (by decide +kernel) rfl ?_
  refine s_con (p' := 35) rfl rfl ?_
  refine s_bz (p' := 36) (z := (nI 4294967294)) rfl rfl rfl (by decide +kernel) ?_
  refine s_bz (p' := 37) (z := (nI 0)) rfl rfl rfl (by decide +kernel) ?_
  refine s_con (p' := 38) rfl rfl ?_
  refine s_ildn (p' := 39) rfl rfl rfl ?_
  refine s_bz (p' := 40) (z := (nI 2)) rfl rfl rfl (by decide +kernel) ?_
  refine s_bz (p' := 41) (z := (nI 0)) rfl rfl rfl (by decide +kernel) ?_
  refine s_if (p' := 55) true rfl (by decide +kernel) rfl ?_
  refine s_incz (p' := 58) (w := (nI 2)) (ls' := [_, _, _]) rfl rfl rfl (by decide +kernel) rfl rfl ?_
  refine s_goto (p' := 22) rfl rfl ?_
  refine s_ildn (p' := 23) rfl rfl rfl ?_
  refine s_con (p' := 24) rfl rfl ?_
  refine s_icmp (p' := 27) false rfl (by decide +kernel) rfl ?_
  refine s_ildn (p' := 28) rfl rfl rfl ?_
  refine s_aldn (p' := 29) rfl rfl rfl ?_
  refine s_gf (p' := 32) rfl (rd_ss rfl (rd_sn rfl (rd_sn rfl (rd_sn rfl (rd_sn rfl (rd_sn rfl (rd_sn rfl (rd_sn rfl (rd_sn rfl H393))))))))) rfl rfl ?_
  refine s_ildn (p' := 33) rfl rfl rfl ?_
  refine s_ialz (p' := 34) (m := 1) (v := (nI 1)) rfl (rd_sn rfl (rd_ss rfl (rd_ss rfl (rd_ss rfl (rd_ss rfl (rd_ss rfl (rd_ss rfl (rd_ss rfl (rd_ss rfl H395))))))))) (by decide +kernel) rfl (by decide +kernel) rfl ?_
  refine s_con (p' := 35) rfl rfl ?_
  refine s_bz (p' := 36) (z := (nI 4294967294)) rfl rfl rfl (by decide +kernel) ?_
  refine s_bz (p' := 37) (z := (nI 0)) rfl rfl rfl (by decide +kernel) ?_
  refine s_con (p' := 38) rfl rfl ?_
  refine s_ildn (p' := 39) rfl rfl rfl ?_
  refine s_bz (p' := 40) (z := (nI 4)) rfl rfl rfl (by decide +kernel) ?_
  refine s_bz (p' := 41) (z := (nI 0)) rfl rfl rfl (by decide +kernel) ?_
  refine s_if (p' := 55) true rfl (by decide +kernel) rfl ?_
  refine s_incz (p' := 58) (w := (nI 3)) (ls' := [_, _, _]) rfl rfl rfl (by decide +kernel) rfl rfl ?_
  refine s_goto (p' := 22) rfl rfl ?_
  refine s_ildn (p' := 23) rfl rfl rfl ?_
  refine s_con (p' := 24) rfl rfl ?_
  refine s_icmp (p' := 61) true rfl (by decide +kernel) rfl ?_
  refine s_con (p' := 62) rfl rfl ?_
  refine s_istn (p' := 63) (ls' := [_, _, _]) rfl rfl rfl rfl ?_
  refine s_ildn (p' := 64) rfl rfl rfl ?_
  refine s_con (p' := 65) rfl rfl ?_
  refine s_icmp (p' := 68) false rfl (by decide +kernel) rfl ?_
  refine s_aldn (p' := 69) rfl rfl rfl ?_
  refine s_gf (p' := 72) rfl (rd_ss rfl (rd_sn rfl (rd_sn rfl (rd_sn rfl (rd_sn rfl (rd_sn rfl (rd_sn rfl (rd_sn rfl (rd_sn rfl H393))))))))) rfl rfl ?_
  refine s_ildn (p' := 73) rfl rfl rfl ?_
  refine s_ialz (p' := 74) (m := 1) (v := (nI 1)) rfl (rd_sn rfl (rd_ss rfl (rd_ss rfl (rd_ss rfl (rd_ss rfl (rd_ss rfl (rd_ss rfl (rd_ss rfl (rd_ss rfl H395))))))))) (by decide +kernel) rfl (by decide +kernel) rfl ?_
  refine s_ildn (p' := 75) rfl rfl rfl ?_
  refine s_con (p' := 76) rfl rfl ?_
  refine s_bz (p' := 77) (z := (nI 4294967294)) rfl rfl rfl (by decide +kernel) ?_
  refine s_bz (p' := 78) (z := (nI 0)) rfl rfl rfl (by decide +kernel) ?_
  refine s_con (p' := 79) rfl rfl ?_
  refine s_ildn (p' := 80) rfl rfl rfl ?_
  refine s_bz (p' := 81) (z := (nI 1)) rfl rfl rfl (by decide +kernel) ?_
  refine s_bz (p' := 82) (z := (nI 0)) rfl rfl rfl (by decide +kernel) ?_
  refine s_if (p' := 91) true rfl (by decide +kernel) rfl ?_
  refine s_incz (p' := 94) (w := (nI 1)) (ls' := [_, _, _]) rfl rfl rfl (by decide +kernel) rfl rfl ?_
  refine s_goto (p' := 63) rfl rfl ?_
  refine s_ildn (p' := 64) rfl rfl rfl ?_
  refine s_con (p' := 65) rfl rfl ?_
  refine s_icmp (p' := 68) false rfl (by decide +kernel) rfl ?_
  refine s_aldn (p' := 69) rfl rfl rfl ?_
  refine s_gf (p' := 72) rfl (rd_ss rfl (rd_sn rfl (rd_sn rfl (rd_sn rfl (rd_sn rfl (rd_sn rfl (rd_sn rfl (rd_sn rfl (rd_sn rfl H393))))))))) rfl rfl ?_
  refine s_ildn (p' := 73) rfl rfl rfl ?_
  refine s_ialz (p' := 74) (m := 1) (v := (nI 1)) rfl (rd_sn rfl (rd_ss rfl (rd_ss rfl (rd_ss rfl (rd_ss rfl (rd_ss rfl (rd_ss rfl (rd_ss rfl (rd_ss rfl H395))))))))) (by decide +kernel) rfl (by decide +kernel) rfl ?_
  refine s_ildn (p' := 75) rfl rfl rfl ?_
  refine s_con (p' := 76) rfl rfl ?_
  refine s_bz (p' := 77) (z := (nI 4294967294)) rfl rfl rfl (by decide +kernel) ?_
  refine s_bz (p' := 78) (z := (nI 0)) rfl rfl rfl (by decide +kernel) ?_
  refine s_con (p' := 79) rfl rfl ?_
  refine s_ildn (p' := 80) rfl rfl rfl ?_
  refine s_bz (p' := 81) (z := (nI 2)) rfl rfl rfl (by decide +kernel) ?_
  refine s_bz (p' := 82) (z := (nI 0)) rfl rfl rfl (by decide +kernel) ?_
  refine s_if (p' := 91) true rfl (by decide +kernel) rfl ?_
  refine s_incz (p' := 94) (w := (nI 2)) (ls' := [_, _, _]) rfl rfl rfl (by decide +kernel) rfl rfl ?_
  refine s_goto (p' := 63) rfl rfl ?_
  refine s_ildn (p' := 64) rfl rfl rfl ?_
  refine s_con (p' := 65) rfl rfl ?_
  refine s_icmp (p' := 68) false rfl (by decide +kernel) rfl ?_
  refine s_aldn (p' := 69) rfl rfl rfl ?_
  refine s_gf (p' := 72) rfl (rd_ss rfl (rd_sn rfl (rd_sn rfl (rd_sn rfl (rd_sn rfl (rd_sn rfl (rd_sn rfl (rd_sn rfl (rd_sn rfl H393))))))))) rfl rfl ?_
  refine s_ildn (p' := 73) rfl rfl rfl ?_
  refine s_ialz (p' := 74) (m := 1) (v := (nI 1)) rfl (rd_sn rfl (rd_ss rfl (rd_ss rfl (rd_ss rfl (rd_ss rfl (rd_ss rfl (rd_ss rfl (rd_ss rfl (rd_ss rfl H395))))))))) (by decide +kernel) rfl (by decide +kernel) rfl ?_
  refine s_ildn (p' := 75) rfl rfl rfl ?_
  refine s_con (p' := 76) rfl rfl ?_
  refine s_bz (p' := 77) (z := (nI 4294967294)) rfl rfl rfl (by decide +kernel) ?_
  refine s_bz (p' := 78) (z := (nI 0)) rfl rfl rfl (by decide +kernel) ?_
  refine s_con (p' := 79) rfl rfl ?_
  refine s_ildn (p' := 80) rfl rfl rfl ?_
  refine s_bz (p' := 81) (z := (nI 4)) rfl rfl rfl (by decide +kernel) ?_
  refine s_bz (p' := 82) (z := (nI 0)) rfl rfl rfl (by decide +kernel) ?_
  refine s_if (p' := 91) true rfl (by decide +kernel) rfl ?_
  refine s_incz (p' := 94) (w := (nI 3)) (ls' := [_, _, _]) rfl rfl rfl (by decide +kernel) rfl rfl ?_
  refine s_goto (p' := 63) rfl rfl ?_
  refine s_ildn (p' := 64) rfl rfl rfl ?_
  refine s_con (p' := 65) rfl rfl ?_
  refine s_icmp (p' := 97) true rfl (by decide +kernel) rfl ?_
  refine s_incz (p' := 100) (w := (nI 2)) (ls' := [_, _, _]) rfl rfl rfl (by decide +kernel) rfl rfl ?_
  refine s_goto (p' := 11) rfl rfl ?_
  refine s_ildn (p' := 12) rfl rfl rfl ?_
  refine s_aldn (p' := 13) rfl rfl rfl ?_
  refine s_gf (p' := 16) rfl (rd_ss rfl (rd_sn rfl (rd_sn rfl (rd_sn rfl (rd_sn rfl (rd_sn rfl (rd_sn rfl (rd_sn rfl (rd_sn rfl H393))))))))) rfl rfl ?_
  refine s_lenz (p' := 17) rfl (mj_rdA_is (rd_sn rfl (rd_ss rfl (rd_ss rfl (rd_ss rfl (rd_ss rfl (rd_ss rfl (rd_ss rfl (rd_ss rfl (rd_ss rfl H395))))))))) (by decide)) rfl rfl ?_
  refine s_icmp (p' := 20) false rfl (by decide +kernel) rfl ?_
  refine s_con (p' := 21) rfl rfl ?_
  refine s_istn (p' := 22) (ls' := [_, _, _]) rfl rfl rfl rfl ?_
  refine s_ildn (p' := 23) rfl rfl rfl ?_
  refine s_con (p' := 24) rfl rfl ?_
  refine s_icmp (p' := 27) false rfl (by decide +kernel) rfl ?_
  refine s_ildn (p' := 28) rfl rfl rfl ?_
  refine s_aldn (p' := 29) rfl rfl rfl ?_
  refine s_gf (p' := 32) rfl (rd_ss rfl (rd_sn rfl (rd_sn rfl (rd_sn rfl (rd_sn rfl (rd_sn rfl (rd_sn rfl (rd_sn rfl (rd_sn rfl H393))))))))) rfl rfl ?_
  refine s_ildn (p' := 33) rfl rfl rfl ?_
  refine s_ialz (p' := 34) (m := 2) (v := (nI 2)) rfl (rd_sn rfl (rd_ss rfl (rd_ss rfl (rd_ss rfl (rd_ss rfl (rd_ss rfl (rd_ss rfl (rd_ss rfl (rd_ss rfl H395))))))))) (by decide +kernel) rfl (by decide +kernel) rfl ?_
  refine s_con (p' := 35) rfl rfl ?_
  refine s_bz (p' := 36) (z := (nI 4294967293)) rfl rfl rfl (by decide +kernel) ?_
  refine s_bz (p' := 37) (z := (nI 0)) rfl rfl rfl (by decide +kernel) ?_
  refine s_con (p' := 38) rfl rfl ?_
  refine s_ildn (p' := 39) rfl rfl rfl ?_
  refine s_bz (p' := 40) (z := (nI 1)) rfl rfl rfl (by decide +kernel) ?_
  refine s_bz (p' := 41) (z := (nI 0)) rfl rfl rfl (by decide +kernel) ?_
  refine s_if (p' := 55) true rfl (by decide +kernel) rfl ?_
  refine s_incz (p' := 58) (w := (nI 1)) (ls' := [_, _, _]) rfl rfl rfl (by decide +kernel) rfl rfl ?_
  refine s_goto (p' := 22) rfl rfl ?_
  refine s_ildn (p' := 23) rfl rfl rfl ?_
  refine s_con (p' := 24) rfl rfl ?_
  refine s_icmp (p' := 27) false rfl (by decide +kernel) rfl ?_
  refine s_ildn (p' := 28) rfl rfl rfl ?_
  refine s_aldn (p' := 29) rfl rfl rfl ?_
  refine s_gf (p' := 32) rfl (rd_ss rfl (rd_sn rfl (rd_sn rfl (rd_sn rfl (rd_sn rfl (rd_sn rfl (rd_sn rfl (rd_sn rfl (rd_sn rfl H393))))))))) rfl rfl ?_
  refine s_ildn (p' := 33) rfl rfl rfl ?_
  refine s_ialz (p' := 34) (m := 2) (v := (nI 2)) rfl (rd_sn rfl (rd_ss rfl (rd_ss rfl (rd_ss rfl (rd_ss rfl (rd_ss rfl (rd_ss rfl (rd_ss rfl (rd_ss rfl H395))))))))) (by decide +kernel) rfl (by decide +kernel) rfl ?_
  refine s_con (p' := 35) rfl rfl ?_
  refine s_bz (p' := 36) (z := (nI 4294967293)) rfl rfl rfl (by decide +kernel) ?_
  refine s_bz (p' := 37) (z := (nI 0)) rfl rfl rfl (by decide +kernel) ?_
  refine s_con (p' := 38) rfl rfl ?_
  refine s_ildn (p' := 39) rfl rfl rfl ?_
  refine s_bz (p' := 40) (z := (nI 2)) rfl rfl rfl (by decide +kernel) ?_
  refine s_bz (p' := 41) (z := (nI 0)) rfl rfl rfl (by decide +kernel) ?_
  refine s_if (p' := 55) true rfl (by decide +kernel) rfl ?_
  refine s_incz (p' := 58) (w := (nI 2)) (ls' := [_, _, _]) rfl rfl rfl (by decide +kernel) rfl rfl ?_
  refine s_goto (p' := 22) rfl rfl ?_
  refine s_ildn (p' := 23) rfl rfl rfl ?_
  refine s_con (p' := 24) rfl rfl ?_
  refine s_icmp (p' := 27) false rfl (by decide +kernel) rfl ?_
  refine s_ildn (p' := 28) rfl rfl rfl ?_
  refine s_aldn (p' := 29) rfl rfl rfl ?_
  refine s_gf (p' := 32) rfl (rd_ss rfl (rd_sn rfl (rd_sn rfl (rd_sn rfl (rd_sn rfl (rd_sn rfl (rd_sn rfl (rd_sn rfl (rd_sn rfl H393))))))))) rfl rfl ?_
  refine s_ildn (p' := 33) rfl rfl rfl ?_
  refine s_ialz (p' := 34) (m := 2) (v := (nI 2)) rfl (rd_sn rfl (rd_ss rfl (rd_ss rfl (rd_ss rfl (rd_ss rfl (rd_ss rfl (rd_ss rfl (rd_ss rfl (rd_ss rfl H395))))))))) (by decide +kernel) rfl (by decide +kernel) rfl ?_
  refine s_con (p' := 35) rfl rfl ?_
  refine s_bz (p' := 36) (z := (nI 4294967293)) rfl rfl rfl (by decide +kernel) ?_
  refine s_bz (p' := 37) (z := (nI 0)) rfl rfl rfl (by decide +kernel) ?_
  refine s_con (p' := 38) rfl rfl ?_
  refine s_ildn (p' := 39) rfl rfl rfl ?_
  refine s_bz (p' := 40) (z := (nI 4)) rfl rfl rfl (by decide +kernel) ?_
  refine s_bz (p' := 41) (z := (nI 0)) rfl rfl rfl (by decide +kernel) ?_
  refine s_if (p' := 55) true rfl (by decide +kernel) rfl ?_
  refine s_incz (p' := 58) (w := (nI 3)) (ls' := [_, _, _]) rfl rfl rfl (by decide +kernel) rfl rfl ?_
  refine s_goto (p' := 22) rfl rfl ?_
  refine s_ildn (p' := 23) rfl rfl rfl ?_
  refine s_con (p' := 24) rfl rfl ?_
  refine s_icmp (p' := 61) true rfl (by decide +kernel) rfl ?_
  refine s_con (p' := 62) rfl rfl ?_
  refine s_istn (p' := 63) (ls' := [_, _, _]) rfl rfl rfl rfl ?_
  refine s_ildn (p' := 64) rfl rfl rfl ?_
  refine s_con (p' := 65) rfl rfl ?_
  refine s_icmp (p' := 68) false rfl (by decide +kernel) rfl ?_
  refine s_aldn (p' := 69) rfl rfl rfl ?_
  refine s_gf (p' := 72) rfl (rd_ss rfl (rd_sn rfl (rd_sn rfl (rd_sn rfl (rd_sn rfl (rd_sn rfl (rd_sn rfl (rd_sn rfl (rd_sn rfl H393))))))))) rfl rfl ?_
  refine s_ildn (p' := 73) rfl rfl rfl ?_
  refine s_ialz (p' := 74) (m := 2) (v := (nI 2)) rfl (rd_sn rfl (rd_ss rfl (rd_ss rfl (rd_ss rfl (rd_ss rfl (rd_ss rfl (rd_ss rfl (rd_ss rfl (rd_ss rfl H395))))))))) (by decide +kernel) rfl (by decide +kernel) rfl ?_
  refine s_ildn (p' := 75) rfl rfl rfl ?_
  refine s_con (p' := 76) rfl rfl ?_
  refine s_bz (p' := 77) (z := (nI 4294967293)) rfl rfl rfl (by decide +kernel) ?_
  refine s_bz (p' := 78) (z := (nI 0)) rfl rfl rfl (by decide +kernel) ?_
  refine s_con (p' := 79) rfl rfl ?_
  refine s_ildn (p' := 80) rfl rfl rfl ?_
  refine s_bz (p' := 81) (z := (nI 1)) rfl rfl rfl (by decide +kernel) ?_
  refine s_bz (p' := 82) (z := (nI 0)) rfl rfl rfl (by decide +kernel) ?_
  refine s_if (p' := 91) true rfl (by decide +kernel) rfl ?_
  refine s_incz (p' := 94) (w := (nI 1)) (ls' := [_, _, _]) rfl rfl rfl (by decide +kernel) rfl rfl ?_
  refine s_goto (p' := 63) rfl rfl ?_
  refine s_ildn (p' := 64) rfl rfl rfl ?_
  refine s_con (p' := 65) rfl rfl ?_
  refine s_icmp (p' := 68) false rfl (by decide +kernel) rfl ?_
  refine s_aldn (p' := 69) rfl rfl rfl ?_
  refine s_gf (p' := 72) rfl (rd_ss rfl (rd_sn rfl (rd_sn rfl (rd_sn rfl (rd_sn rfl (rd_sn rfl (rd_sn rfl (rd_sn rfl (rd_sn rfl H393))))))))) rfl rfl ?_
  refine s_ildn (p' := 73) rfl rfl rfl ?_
  refine s_ialz (p' := 74) (m := 2) (v := (nI 2)) rfl (rd_sn rfl (rd_ss rfl (rd_ss rfl (rd_ss rfl (rd_ss rfl (rd_ss rfl (rd_ss rfl (rd_ss rfl (rd_ss rfl H395))))))))) (by decide +kernel) rfl (by decide +kernel) rfl ?_
  refine s_ildn (p' := 75) rfl rfl rfl ?_
  refine s_con (p' := 76) rfl rfl ?_
  refine s_bz (p' := 77) (z := (nI 4294967293)) rfl rfl rfl (by decide +kernel) ?_
  refine s_bz (p' := 78) (z := (nI 0)) rfl rfl rfl (by decide +kernel) ?_
  refine s_con (p' := 79) rfl rfl ?_
  refine s_ildn (p' := 80) rfl rfl rfl ?_
  refine s_bz (p' := 81) (z := (nI 2)) rfl rfl rfl (by decide +kernel) ?_
  refine s_bz (p' := 82) (z := (nI 0)) rfl rfl rfl (by decide +kernel) ?_
  refine s_if (p' := 91) true rfl (by decide +kernel) rfl ?_
  refine s_incz (p' := 94) (w := (nI 2)) (ls' := [_, _, _]) rfl rfl rfl (by decide +kernel) rfl rfl ?_
  refine s_goto (p' := 63) rfl rfl ?_
  refine s_ildn (p' := 64) rfl rfl rfl ?_
  refine s_con (p' := 65) rfl rfl ?_
  refine s_icmp (p' := 68) false rfl (by decide +kernel) rfl ?_
  refine s_aldn (p' := 69) rfl rfl rfl ?_
  refine s_gf (p' := 72) rfl (rd_ss rfl (rd_sn rfl (rd_sn rfl (rd_sn rfl (rd_sn rfl (rd_sn rfl (rd_sn rfl (rd_sn rfl (rd_sn rfl H393))))))))) rfl rfl ?_
  refine s_ildn (p' := 73) rfl rfl rfl ?_
  refine s_ialz (p' := 74) (m := 2) (v := (nI 2)) rfl (rd_sn rfl (rd_ss rfl (rd_ss rfl (rd_ss rfl (rd_ss rfl (rd_ss rfl (rd_ss rfl (rd_ss rfl (rd_ss rfl H395))))))))) (by decide +kernel) rfl (by decide +kernel) rfl ?_
  refine s_ildn (p' := 75) rfl rfl rfl ?_
  refine s_con (p' := 76) rfl rfl ?_
  refine s_bz (p' := 77) (z := (nI 4294967293)) rfl rfl rfl (by decide +kernel) ?_
  refine s_bz (p' := 78) (z := (nI 0)) rfl rfl rfl (by decide +kernel) ?_
  refine s_con (p' := 79) rfl rfl ?_
  refine s_ildn (p' := 80) rfl rfl rfl ?_
  refine s_bz (p' := 81) (z := (nI 4)) rfl rfl rfl (by decide +kernel) ?_
  refine s_bz (p' := 82) (z := (nI 0)) rfl rfl rfl (by decide +kernel) ?_
  refine s_if (p' := 91) true rfl (by decide +kernel) rfl ?_
  refine s_incz (p' := 94) (w := (nI 3)) (ls' := [_, _, _]) rfl rfl rfl (by decide +kernel) rfl rfl ?_
  refine s_goto (p' := 63) rfl rfl ?_
  refine s_ildn (p' := 64) rfl rfl rfl ?_
  refine s_con (p' := 65) rfl rfl ?_
  refine s_icmp (p' := 97) true rfl (by decide +kernel) rfl ?_
  refine s_incz (p' := 100) (w := (nI 3)) (ls' := [_, _, _]) rfl rfl rfl (by decide +kernel) rfl rfl ?_
  refine s_goto (p' := 11) rfl rfl ?_
  refine s_ildn (p' := 12) rfl rfl rfl ?_
  refine s_aldn (p' := 13) rfl rfl rfl ?_
  refine s_gf (p' := 16) rfl (rd_ss rfl (rd_sn rfl (rd_sn rfl (rd_sn rfl (rd_sn rfl (rd_sn rfl (rd_sn rfl (rd_sn rfl (rd_sn rfl H393))))))))) rfl rfl ?_
  refine s_lenz (p' := 17) rfl (mj_rdA_is (rd_sn rfl (rd_ss rfl (rd_ss rfl (rd_ss rfl (rd_ss rfl (rd_ss rfl (rd_ss rfl (rd_ss rfl (rd_ss rfl H395))))))))) (by decide)) rfl rfl ?_
  refine s_icmp (p' := 20) false rfl (by decide +kernel) rfl ?_
  refine s_con (p' := 21) rfl rfl ?_
  refine s_istn (p' := 22) (ls' := [_, _, _]) rfl rfl rfl rfl ?_
  refine s_ildn (p' := 23) rfl rfl rfl ?_
  refine s_con (p' := 24) rfl rfl ?_
  refine s_icmp (p' := 27) false rfl (by decide +kernel) rfl ?_
  refine s_ildn (p' := 28) rfl rfl rfl ?_
  refine s_aldn (p' := 29) rfl rfl rfl ?_
  refine s_gf (p' := 32) rfl (rd_ss rfl (rd_sn rfl (rd_sn rfl (rd_sn rfl (rd_sn rfl (rd_sn rfl (rd_sn rfl (rd_sn rfl (rd_sn rfl H393))))))))) rfl rfl ?_
  refine s_ildn (p' := 33) rfl rfl rfl ?_
  refine s_ialz (p' := 34) (m := 3) (v := (nI 3)) rfl (rd_sn rfl (rd_ss rfl (rd_ss rfl (rd_ss rfl (rd_ss rfl (rd_ss rfl (rd_ss rfl (rd_ss rfl (rd_ss rfl H395))))))))) (by decide +kernel) rfl (by decide +kernel) rfl ?_
  refine s_con (p' := 35) rfl rfl ?_
  refine s_bz (p' := 36) (z := (nI 4294967292)) rfl rfl rfl (by decide +kernel) ?_
  refine s_bz (p' := 37) (z := (nI 0)) rfl rfl rfl (by decide +kernel) ?_
  refine s_con (p' := 38) rfl rfl ?_
  refine s_ildn (p' := 39) rfl rfl rfl ?_
  refine s_bz (p' := 40) (z := (nI 1)) rfl rfl rfl (by decide +kernel) ?_
  refine s_bz (p' := 41) (z := (nI 0)) rfl rfl rfl (by decide +kernel) ?_
  refine s_if (p' := 55) true rfl (by decide +kernel) rfl ?_
  refine s_incz (p' := 58) (w := (nI 1)) (ls' := [_, _, _]) rfl rfl rfl (by decide +kernel) rfl rfl ?_
  refine s_goto (p' := 22) rfl rfl ?_
  refine s_ildn (p' := 23) rfl rfl rfl ?_
  refine s_con (p' := 24) rfl rfl ?_
  refine s_icmp (p' := 27) false rfl (by decide +kernel) rfl ?_
  refine s_ildn (p' := 28) rfl rfl rfl ?_
  refine s_aldn (p' := 29) rfl rfl rfl ?_
  refine s_gf (p' := 32) rfl (rd_ss rfl (rd_sn rfl (rd_sn rfl (rd_sn rfl (rd_sn rfl (rd_sn rfl (rd_sn rfl (rd_sn rfl (rd_sn rfl H393))))))))) rfl rfl ?_
  refine s_ildn (p' := 33) rfl rfl rfl ?_
  refine s_ialz (p' := 34) (m := 3) (v := (nI 3)) rfl (rd_sn rfl (rd_ss rfl (rd_ss rfl (rd_ss rfl (rd_ss rfl (rd_ss rfl (rd_ss rfl (rd_ss rfl (rd_ss rfl H395))))))))) (by decide +kernel) rfl (by decide +kernel) rfl ?_
  refine s_con (p' := 35) rfl rfl ?_
  refine s_bz (p' := 36) (z := (nI 4294967292)) rfl rfl rfl (by decide +kernel) ?_
  refine s_bz (p' := 37) (z := (nI 0)) rfl rfl rfl (by decide +kernel) ?_
  refine s_con (p' := 38) rfl rfl ?_
  refine s_ildn (p' := 39) rfl rfl rfl ?_
  refine s_bz (p' := 40) (z := (nI 2)) rfl rfl rfl (by decide +kernel) ?_
  refine s_bz (p' := 41) (z := (nI 0)) rfl rfl rfl (by decide +kernel) ?_
  refine s_if (p' := 55) true rfl (by decide +kernel) rfl ?_
  refine s_incz (p' := 58) (w := (nI 2)) (ls' := [_, _, _]) rfl rfl rfl (by decide +kernel) rfl rfl ?_
  refine s_goto (p' := 22) rfl rfl ?_
  refine s_ildn (p' := 23) rfl rfl rfl ?_
  refine s_con (p' := 24) rfl rfl ?_
  refine s_icmp (p' := 27) false rfl (by decide +kernel) rfl ?_
  refine s_ildn (p' := 28) rfl rfl rfl ?_
  refine s_aldn (p' := 29) rfl rfl rfl ?_
  refine s_gf (p' := 32) rfl (rd_ss rfl (rd_sn rfl (rd_sn rfl (rd_sn rfl (rd_sn rfl (rd_sn rfl (rd_sn rfl (rd_sn rfl (rd_sn rfl H393))))))))) rfl rfl ?_
  refine s_ildn (p' := 33) rfl rfl rfl ?_
  refine s_ialz (p' := 34) (m := 3) (v := (nI 3)) rfl (rd_sn rfl (rd_ss rfl (rd_ss rfl (rd_ss rfl (rd_ss rfl (rd_ss rfl (rd_ss rfl (rd_ss rfl (rd_ss rfl H395))))))))) (by decide +kernel) rfl (by decide +kernel) rfl ?_
  refine s_con (p' := 35) rfl rfl ?_
  refine s_bz (p' := 36) (z := (nI 4294967292)) rfl rfl rfl (by decide +kernel) ?_
  refine s_bz (p' := 37) (z := (nI 0)) rfl rfl rfl (by decide +kernel) ?_
  refine s_con (p' := 38) rfl rfl ?_
  refine s_ildn (p' := 39) rfl rfl rfl ?_
  refine s_bz (p' := 40) (z := (nI 4)) rfl rfl rfl (by decide +kernel) ?_
  refine s_bz (p' := 41) (z := (nI 0)) rfl rfl rfl (by decide +kernel) ?_
  refine s_if (p' := 55) true rfl (by decide +kernel) rfl ?_
  refine s_incz (p' := 58) (w := (nI 3)) (ls' := [_, _, _]) rfl rfl rfl (by decide +kernel) rfl rfl ?_
  refine s_goto (p' := 22) rfl rfl ?_
  refine s_ildn (p' := 23) rfl rfl rfl ?_
  refine s_con (p' := 24) rfl rfl ?_
  refine s_icmp (p' := 61) true rfl (by decide +kernel) rfl ?_
  refine s_con (p' := 62) rfl rfl ?_
  refine s_istn (p' := 63) (ls' := [_, _, _]) rfl rfl rfl rfl ?_
  refine s_ildn (p' := 64) rfl rfl rfl ?_
  refine s_con (p' := 65) rfl rfl ?_
  refine s_icmp (p' := 68) false rfl (by decide +kernel) rfl ?_
  refine s_aldn (p' := 69) rfl rfl rfl ?_
  refine s_gf (p' := 72) rfl (rd_ss rfl (rd_sn rfl (rd_sn rfl (rd_sn rfl (rd_sn rfl (rd_sn rfl (rd_sn rfl (rd_sn rfl (rd_sn rfl H393))))))))) rfl rfl ?_
  refine s_ildn (p' := 73) rfl rfl rfl ?_
  refine s_ialz (p' := 74) (m := 3) (v := (nI 3)) rfl (rd_sn rfl (rd_ss rfl (rd_ss rfl (rd_ss rfl (rd_ss rfl (rd_ss rfl (rd_ss rfl (rd_ss rfl (rd_ss rfl H395))))))))) (by decide +kernel) rfl (by decide +kernel) rfl ?_
  refine s_ildn (p' := 75) rfl rfl rfl ?_
  refine s_con (p' := 76) rfl rfl ?_
  refine s_bz (p' := 77) (z := (nI 4294967292)) rfl rfl rfl (by decide +kernel) ?_
  refine s_bz (p' := 78) (z := (nI 0)) rfl rfl rfl (by decide +kernel) ?_
  refine s_con (p' := 79) rfl rfl ?_
  refine s_ildn (p' := 80) rfl rfl rfl ?_
  refine s_bz (p' := 81) (z := (nI 1)) rfl rfl rfl (by decide +kernel) ?_
  refine s_bz (p' := 82) (z := (nI 0)) rfl rfl rfl (by decide +kernel) ?_
  refine s_if (p' := 91) true rfl (by decide +kernel) rfl ?_
  refine s_incz (p' := 94) (w := (nI 1)) (ls' := [_, _, _]) rfl rfl rfl (by decide +kernel) rfl rfl ?_
  refine s_goto (p' := 63) rfl rfl ?_
  refine s_ildn (p' := 64) rfl rfl rfl ?_
  refine s_con (p' := 65) rfl rfl ?_
  refine s_icmp (p' := 68) false rfl (by decide +kernel) rfl ?_
  refine s_aldn (p' := 69) rfl rfl rfl ?_
  refine s_gf (p' := 72) rfl (rd_ss rfl (rd_sn rfl (rd_sn rfl (rd_sn rfl (rd_sn rfl (rd_sn rfl (rd_sn rfl (rd_sn rfl (rd_sn rfl H393))))))))) rfl rfl ?_
  refine s_ildn (p' := 73) rfl rfl rfl ?_
  refine s_ialz (p' := 74) (m := 3) (v := (nI 3)) rfl (rd_sn rfl (rd_ss rfl (rd_ss rfl (rd_ss rfl (rd_ss rfl (rd_ss rfl (rd_ss rfl (rd_ss rfl (rd_ss rfl H395))))))))) (by decide +kernel) rfl (by decide +kernel) rfl ?_
  refine s_ildn (p' := 75) rfl rfl rfl ?_
  refine s_con (p' := 76) rfl rfl ?_
  refine s_bz (p' := 77) (z := (nI 4294967292)) rfl rfl rfl (by decide +kernel) ?_
  refine s_bz (p' := 78) (z := (nI 0)) rfl rfl rfl (by decide +kernel) ?_
  refine s_con (p' := 79) rfl rfl ?_
  refine s_ildn (p' := 80) rfl rfl rfl ?_
  refine s_bz (p' := 81) (z := (nI 2)) rfl rfl rfl (by decide +kernel) ?_
  refine s_bz (p' := 82) (z := (nI 0)) rfl rfl rfl (by decide +kernel) ?_
  refine s_if (p' := 91) true rfl (by decide +kernel) rfl ?_
  refine s_incz (p' := 94) (w := (nI 2)) (ls' := [_, _, _]) rfl rfl rfl (by decide +kernel) rfl rfl ?_
  refine s_goto (p' := 63) rfl rfl ?_
  refine s_ildn (p' := 64) rfl rfl rfl ?_
  refine s_con (p' := 65) rfl rfl ?_
  refine s_icmp (p' := 68) false rfl (by decide +kernel) rfl ?_
  refine s_aldn (p' := 69) rfl rfl rfl ?_
  refine s_gf (p' := 72) rfl (rd_ss rfl (rd_sn rfl (rd_sn rfl (rd_sn rfl (rd_sn rfl (rd_sn rfl (rd_sn rfl (rd_sn rfl (rd_sn rfl H393))))))))) rfl rfl ?_
  refine s_ildn (p' := 73) rfl rfl rfl ?_
  refine s_ialz (p' := 74) (m := 3) (v := (nI 3)) rfl (rd_sn rfl (rd_ss rfl (rd_ss rfl (rd_ss rfl (rd_ss rfl (rd_ss rfl (rd_ss rfl (rd_ss rfl (rd_ss rfl H395))))))))) (by decide +kernel) rfl (by decide +kernel) rfl ?_
  refine s_ildn (p' := 75) rfl rfl rfl ?_
  refine s_con (p' := 76) rfl rfl ?_
  refine s_bz (p' := 77) (z := (nI 4294967292)) rfl rfl rfl (by decide +kernel) ?_
  refine s_bz (p' := 78) (z := (nI 0)) rfl rfl rfl (by decide +kernel) ?_
  refine s_con (p' := 79) rfl rfl ?_
  refine s_ildn (p' := 80) rfl rfl rfl ?_
  refine s_bz (p' := 81) (z := (nI 4)) rfl rfl rfl (by decide +kernel) ?_
  refine s_bz (p' := 82) (z := (nI 0)) rfl rfl rfl (by decide +kernel) ?_
  refine s_if (p' := 91) true rfl (by decide +kernel) rfl ?_
  refine s_incz (p' := 94) (w := (nI 3)) (ls' := [_, _, _]) rfl rfl rfl (by decide +kernel) rfl rfl ?_
  refine s_goto (p' := 63) rfl rfl ?_
  refine s_ildn (p' := 64) rfl rfl rfl ?_
  refine s_con (p' := 65) rfl rfl ?_
  refine s_icmp (p' := 97) true rfl (by decide +kernel) rfl ?_
  refine s_incz (p' := 100) (w := (nI 4)) (ls' := [_, _, _]) rfl rfl rfl (by decide +kernel) rfl rfl ?_
  refine s_goto (p' := 11) rfl rfl ?_
  refine s_ildn (p' := 12) rfl rfl rfl ?_
  refine s_aldn (p' := 13) rfl rfl rfl ?_
  refine s_gf (p' := 16) rfl (rd_ss rfl (rd_sn rfl (rd_sn rfl (rd_sn rfl (rd_sn rfl (rd_sn rfl (rd_sn rfl (rd_sn rfl (rd_sn rfl H393))))))))) rfl rfl ?_
  refine s_lenz (p' := 17) rfl (mj_rdA_is (rd_sn rfl (rd_ss rfl (rd_ss rfl (rd_ss rfl (rd_ss rfl (rd_ss rfl (rd_ss rfl (rd_ss rfl (rd_ss rfl H395))))))))) (by decide)) rfl rfl ?_
  refine s_icmp (p' := 20) false rfl (by decide +kernel) rfl ?_
  refine s_con (p' := 21) rfl rfl ?_
  refine s_istn (p' := 22) (ls' := [_, _, _]) rfl rfl rfl rfl ?_
  refine s_ildn (p' := 23) rfl rfl rfl ?_
  refine s_con (p' := 24) rfl rfl ?_
  refine s_icmp (p' := 27) false rfl (by decide +kernel) rfl ?_
  refine s_ildn (p' := 28) rfl rfl rfl ?_
  refine s_aldn (p' := 29) rfl rfl rfl ?_
  refine s_gf (p' := 32) rfl (rd_ss rfl (rd_sn rfl (rd_sn rfl (rd_sn rfl (rd_sn rfl (rd_sn rfl (rd_sn rfl (rd_sn rfl (rd_sn rfl H393))))))))) rfl rfl ?_
  refine s_ildn (p' := 33) rfl rfl rfl ?_
  refine s_ialz (p' := 34) (m := 4) (v := (nI 4)) rfl (rd_sn rfl (rd_ss rfl (rd_ss rfl (rd_ss rfl (rd_ss rfl (rd_ss rfl (rd_ss rfl (rd_ss rfl (rd_ss rfl H395))))))))) (by decide +kernel) rfl (by decide +kernel) rfl ?_
  refine s_con (p' := 35) rfl rfl ?_
  refine s_bz (p' := 36) (z := (nI 4294967291)) rfl rfl rfl (by decide +kernel) ?_
  refine s_bz (p' := 37) (z := (nI 0)) rfl rfl rfl (by decide +kernel) ?_
  refine s_con (p' := 38) rfl rfl ?_
  refine s_ildn (p' := 39) rfl rfl rfl ?_
  refine s_bz (p' := 40) (z := (nI 1)) rfl rfl rfl (by decide +kernel) ?_
  refine s_bz (p' := 41) (z := (nI 0)) rfl rfl rfl (by decide +kernel) ?_
  refine s_if (p' := 55) true rfl (by decide +kernel) rfl ?_
  refine s_incz (p' := 58) (w := (nI 1)) (ls' := [_, _, _]) rfl rfl rfl (by decide +kernel) rfl rfl ?_
  refine s_goto (p' := 22) rfl rfl ?_
  refine s_ildn (p' := 23) rfl rfl rfl ?_
  refine s_con (p' := 24) rfl rfl ?_
  refine s_icmp (p' := 27) false rfl (by decide +kernel) rfl ?_
  refine s_ildn (p' := 28) rfl rfl rfl ?_
  refine s_aldn (p' := 29) rfl rfl rfl ?_
  refine s_gf (p' := 32) rfl (rd_ss rfl (rd_sn rfl (rd_sn rfl (rd_sn rfl (rd_sn rfl (rd_sn rfl (rd_sn rfl (rd_sn rfl (rd_sn rfl H393))))))))) rfl rfl ?_
  refine s_ildn (p' := 33) rfl rfl rfl ?_
  refine s_ialz (p' := 34) (m := 4) (v := (nI 4)) rfl (rd_sn rfl (rd_ss rfl (rd_ss rfl (rd_ss rfl (rd_ss rfl (rd_ss rfl (rd_ss rfl (rd_ss rfl (rd_ss rfl H395))))))))) (by decide +kernel) rfl (by decide +kernel) rfl ?_
  refine s_con (p' := 35) rfl rfl ?_
  refine s_bz (p' := 36) (z := (nI 4294967291)) rfl rfl rfl (by decide +kernel) ?_
  refine s_bz (p' := 37) (z := (nI 0)) rfl rfl rfl (by decide +kernel) ?_
  refine s_con (p' := 38) rfl rfl ?_
  refine s_ildn (p' := 39) rfl rfl rfl ?_
  refine s_bz (p' := 40) (z := (nI 2)) rfl rfl rfl (by decide +kernel) ?_
  refine s_bz (p' := 41) (z := (nI 0)) rfl rfl rfl (by decide +kernel) ?_
  refine s_if (p' := 55) true rfl (by decide +kernel) rfl ?_
  refine s_incz (p' := 58) (w := (nI 2)) (ls' := [_, _, _]) rfl rfl rfl (by decide +kernel) rfl rfl ?_
  refine s_goto (p' := 22) rfl rfl ?_
  refine s_ildn (p' := 23) rfl rfl rfl ?_
  refine s_con (p' := 24) rfl rfl ?_
  refine s_icmp (p' := 27) false rfl (by decide +kernel) rfl ?_
  refine s_ildn (p' := 28) rfl rfl rfl ?_
  refine s_aldn (p' := 29) rfl rfl rfl ?_
  refine s_gf (p' := 32) rfl (rd_ss rfl (rd_sn rfl (rd_sn rfl (rd_sn rfl (rd_sn rfl (rd_sn rfl (rd_sn rfl (rd_sn rfl (rd_sn rfl H393))))))))) rfl rfl ?_
  refine s_ildn (p' := 33) rfl rfl rfl ?_
  refine s_ialz (p' := 34) (m := 4) (v := (nI 4)) rfl (rd_sn rfl (rd_ss rfl (rd_ss rfl (rd_ss rfl (rd_ss rfl (rd_ss rfl (rd_ss rfl (rd_ss rfl (rd_ss rfl H395))))))))) (by decide +kernel) rfl (by decide +kernel) rfl ?_
  refine s_con (p' := 35) rfl rfl ?_
  refine s_bz (p' := 36) (z := (nI 4294967291)) rfl rfl rfl (by decide +kernel) ?_
  refine s_bz (p' := 37) (z := (nI 0)) rfl rfl rfl (by decide +kernel) ?_
  refine s_con (p' := 38) rfl rfl ?_
  refine s_ildn (p' := 39) rfl rfl rfl ?_
  refine s_bz (p' := 40) (z := (nI 4)) rfl rfl rfl (by decide +kernel) ?_
  refine s_bz (p' := 41) (z := (nI 0)) rfl rfl rfl (by decide +kernel) ?_
  refine s_if (p' := 55) true rfl (by decide +kernel) rfl ?_
  refine s_incz (p' := 58) (w := (nI 3)) (ls' := [_, _, _]) rfl rfl rfl (by decide +kernel) rfl rfl ?_
  refine s_goto (p' := 22) rfl rfl ?_
  refine s_ildn (p' := 23) rfl rfl rfl ?_
  refine s_con (p' := 24) rfl rfl ?_
  refine s_icmp (p' := 61) true rfl (by decide +kernel) rfl ?_
  refine s_con (p' := 62) rfl rfl ?_
  refine s_istn (p' := 63) (ls' := [_, _, _]) rfl rfl rfl rfl ?_
  refine s_ildn (p' := 64) rfl rfl rfl ?_
  refine s_con (p' := 65) rfl rfl ?_
  refine s_icmp (p' := 68) false rfl (by decide +kernel) rfl ?_
  refine s_aldn (p' := 69) rfl rfl rfl ?_
  refine s_gf (p' := 72) rfl (rd_ss rfl (rd_sn rfl (rd_sn rfl (rd_sn rfl (rd_sn rfl (rd_sn rfl (rd_sn rfl (rd_sn rfl (rd_sn rfl H393))))))))) rfl rfl ?_
  refine s_ildn (p' := 73) rfl rfl rfl ?_
  refine s_ialz (p' := 74) (m := 4) (v := (nI 4)) rfl (rd_sn rfl (rd_ss rfl (rd_ss rfl (rd_ss rfl (rd_ss rfl (rd_ss rfl (rd_ss rfl (rd_ss rfl (rd_ss rfl H395))))))))) (by decide +kernel) rfl (by decide +kernel) rfl ?_
  refine s_ildn (p' := 75) rfl rfl rfl ?_
  refine s_con (p' := 76) rfl rfl ?_
  refine s_bz (p' := 77) (z := (nI 4294967291)) rfl rfl rfl (by decide +kernel) ?_
  refine s_bz (p' := 78) (z := (nI 0)) rfl rfl rfl (by decide +kernel) ?_
  refine s_con (p' := 79) rfl rfl ?_
  refine s_ildn (p' := 80) rfl rfl rfl ?_
  refine s_bz (p' := 81) (z := (nI 1)) rfl rfl rfl (by decide +kernel) ?_
  refine s_bz (p' := 82) (z := (nI 0)) rfl rfl rfl (by decide +kernel) ?_
  refine s_if (p' := 91) true rfl (by decide +kernel) rfl ?_
  refine s_incz (p' := 94) (w := (nI 1)) (ls' := [_, _, _]) rfl rfl rfl (by decide +kernel) rfl rfl ?_
  refine s_goto (p' := 63) rfl rfl ?_
  refine s_ildn (p' := 64) rfl rfl rfl ?_
  refine s_con (p' := 65) rfl rfl ?_
  refine s_icmp (p' := 68) false rfl (by decide +kernel) rfl ?_
  refine s_aldn (p' := 69) rfl rfl rfl ?_
  refine s_gf (p' := 72) rfl (rd_ss rfl (rd_sn rfl (rd_sn rfl (rd_sn rfl (rd_sn rfl (rd_sn rfl (rd_sn rfl (rd_sn rfl (rd_sn rfl H393))))))))) rfl rfl ?_
  refine s_ildn (p' := 73) rfl rfl rfl ?_
  refine s_ialz (p' := 74) (m := 4) (v := (nI 4)) rfl (rd_sn rfl (rd_ss rfl (rd_ss rfl (rd_ss rfl (rd_ss rfl (rd_ss rfl (rd_ss rfl (rd_ss rfl (rd_ss rfl H395))))))))) (by decide +kernel) rfl (by decide +kernel) rfl ?_
  refine s_ildn (p' := 75) rfl rfl rfl ?_
  refine s_con (p' := 76) rfl rfl ?_
  refine s_bz (p' := 77) (z := (nI 4294967291)) rfl rfl rfl (by decide +kernel) ?_
  refine s_bz (p' := 78) (z := (nI 0)) rfl rfl rfl (by decide +kernel) ?_
  refine s_con (p' := 79) rfl rfl ?_
  refine s_ildn (p' := 80) rfl rfl rfl ?_
  refine s_bz (p' := 81) (z := (nI 2)) rfl rfl rfl (by decide +kernel) ?_
  refine s_bz (p' := 82) (z := (nI 0)) rfl rfl rfl (by decide +kernel) ?_
  refine s_if (p' := 91) true rfl (by decide +kernel) rfl ?_
  refine s_incz (p' := 94) (w := (nI 2)) (ls' := [_, _, _]) rfl rfl rfl (by decide +kernel) rfl rfl ?_
  refine s_goto (p' := 63) rfl rfl ?_
  refine s_ildn (p' := 64) rfl rfl rfl ?_
  refine s_con (p' := 65) rfl rfl ?_
  refine s_icmp (p' := 68) false rfl (by decide +kernel) rfl ?_
  refine s_aldn (p' := 69) rfl rfl rfl ?_
  refine s_gf (p' := 72) rfl (rd_ss rfl (rd_sn rfl (rd_sn rfl (rd_sn rfl (rd_sn rfl (rd_sn rfl (rd_sn rfl (rd_sn rfl (rd_sn rfl H393))))))))) rfl rfl ?_
  refine s_ildn (p' := 73) rfl rfl rfl ?_
  refine s_ialz (p' := 74) (m := 4) (v := (nI 4)) rfl (rd_sn rfl (rd_ss rfl (rd_ss rfl (rd_ss rfl (rd_ss rfl (rd_ss rfl (rd_ss rfl (rd_ss rfl (rd_ss rfl H395))))))))) (by decide +kernel) rfl (by decide +kernel) rfl ?_
  refine s_ildn (p' := 75) rfl rfl rfl ?_
  refine s_con (p' := 76) rfl rfl ?_
  refine s_bz (p' := 77) (z := (nI 4294967291)) rfl rfl rfl (by decide +kernel) ?_
  refine s_bz (p' := 78) (z := (nI 0)) rfl rfl rfl (by decide +kernel) ?_
  refine s_con (p' := 79) rfl rfl ?_
  refine s_ildn (p' := 80) rfl rfl rfl ?_
  refine s_bz (p' := 81) (z := (nI 4)) rfl rfl rfl (by decide +kernel) ?_
  refine s_bz (p' := 82) (z := (nI 0)) rfl rfl rfl (by decide +kernel) ?_
  refine s_if (p' := 91) true rfl (by decide +kernel) rfl ?_
  refine s_incz (p' := 94) (w := (nI 3)) (ls' := [_, _, _]) rfl rfl rfl (by decide +kernel) rfl rfl ?_
  refine s_goto (p' := 63) rfl rfl ?_
  refine s_ildn (p' := 64) rfl rfl rfl ?_
  refine s_con (p' := 65) rfl rfl ?_
  refine s_icmp (p' := 97) true rfl (by decide +kernel) rfl ?_
  refine s_incz (p' := 100) (w := (nI 5)) (ls' := [_, _, _]) rfl rfl rfl (by decide +kernel) rfl rfl ?_
  refine s_goto (p' := 11) rfl rfl ?_
  refine s_ildn (p' := 12) rfl rfl rfl ?_
  refine s_aldn (p' := 13) rfl rfl rfl ?_
  refine s_gf (p' := 16) rfl (rd_ss rfl (rd_sn rfl (rd_sn rfl (rd_sn rfl (rd_sn rfl (rd_sn rfl (rd_sn rfl (rd_sn rfl (rd_sn rfl H393))))))))) rfl rfl ?_
  refine s_lenz (p' := 17) rfl (mj_rdA_is (rd_sn rfl (rd_ss rfl (rd_ss rfl (rd_ss rfl (rd_ss rfl (rd_ss rfl (rd_ss rfl (rd_ss rfl (rd_ss rfl H395))))))))) (by decide)) rfl rfl ?_
  refine s_icmp (p' := 20) false rfl (by decide +kernel) rfl ?_
  refine s_con (p' := 21) rfl rfl ?_
  refine s_istn (p' := 22) (ls' := [_, _, _]) rfl rfl rfl rfl ?_
  refine s_ildn (p' := 23) rfl rfl rfl ?_
  refine s_con (p' := 24) rfl rfl ?_
  refine s_icmp (p' := 27) false rfl (by decide +kernel) rfl ?_
  refine s_ildn (p' := 28) rfl rfl rfl ?_
  refine s_aldn (p' := 29) rfl rfl rfl ?_
  refine s_gf (p' := 32) rfl (rd_ss rfl (rd_sn rfl (rd_sn rfl (rd_sn rfl (rd_sn rfl (rd_sn rfl (rd_sn rfl (rd_sn rfl (rd_sn rfl H393))))))))) rfl rfl ?_
  refine s_ildn (p' := 33) rfl rfl rfl ?_
  refine s_ialz (p' := 34) (m := 5) (v := (nI 5)) rfl (rd_sn rfl (rd_ss rfl (rd_ss rfl (rd_ss rfl (rd_ss rfl (rd_ss rfl (rd_ss rfl (rd_ss rfl (rd_ss rfl H395))))))))) (by decide +kernel) rfl (by decide +kernel) rfl ?_
  refine s_con (p' := 35) rfl rfl ?_
  refine s_bz (p' := 36) (z := (nI 4294967290)) rfl rfl rfl (by decide +kernel) ?_
  refine s_bz (p' := 37) (z := (nI 0)) rfl rfl rfl (by decide +kernel) ?_
  refine s_con (p' := 38) rfl rfl ?_
  refine s_ildn (p' := 39) rfl rfl rfl ?_
  refine s_bz (p' := 40) (z := (nI 1)) rfl rfl rfl (by decide +kernel) ?_
  refine s_bz (p' := 41) (z := (nI 0)) rfl rfl rfl (by decide +kernel) ?_
  refine s_if (p' := 55) true rfl (by decide +kernel) rfl ?_
  refine s_incz (p' := 58) (w := (nI 1)) (ls' := [_, _, _]) rfl rfl rfl (by decide +kernel) rfl rfl ?_
  refine s_goto (p' := 22) rfl rfl ?_
  refine s_ildn (p' := 23) rfl rfl rfl ?_
  refine s_con (p' := 24) rfl rfl ?_
  refine s_icmp (p' := 27) false rfl (by decide +kernel) rfl ?_
  refine s_ildn (p' := 28) rfl rfl rfl ?_
  refine s_aldn (p' := 29) rfl rfl rfl ?_
  refine s_gf (p' := 32) rfl (rd_ss rfl (rd_sn rfl (rd_sn rfl (rd_sn rfl (rd_sn rfl (rd_sn rfl (rd_sn rfl (rd_sn rfl (rd_sn rfl H393))))))))) rfl rfl ?_
  refine s_ildn (p' := 33) rfl rfl rfl ?_
  refine s_ialz (p' := 34) (m := 5) (v := (nI 5)) rfl (rd_sn rfl (rd_ss rfl (rd_ss rfl (rd_ss rfl (rd_ss rfl (rd_ss rfl (rd_ss rfl (rd_ss rfl (rd_ss rfl H395))))))))) (by decide +kernel) rfl (by decide +kernel) rfl ?_
  refine s_con (p' := 35) rfl rfl ?_
  refine s_bz (p' := 36) (z := (nI 4294967290)) rfl rfl rfl (by decide +kernel) ?_
  refine s_bz (p' := 37) (z := (nI 0)) rfl rfl rfl (by decide +kernel) ?_
  refine s_con (p' := 38) rfl rfl ?_
  refine s_ildn (p' := 39) rfl rfl rfl ?_
  refine s_bz (p' := 40) (z := (nI 2)) rfl rfl rfl (by decide +kernel) ?_
  refine s_bz (p' := 41) (z := (nI 0)) rfl rfl rfl (by decide +kernel) ?_
  refine s_if (p' := 55) true rfl (by decide +kernel) rfl ?_
  refine s_incz (p' := 58) (w := (nI 2)) (ls' := [_, _, _]) rfl rfl rfl (by decide +kernel) rfl rfl ?_
  refine s_goto (p' := 22) rfl rfl ?_
  refine s_ildn (p' := 23) rfl rfl rfl ?_
  refine s_con (p' := 24) rfl rfl ?_
  refine s_icmp (p' := 27) false rfl (by decide +kernel) rfl ?_
  refine s_ildn (p' := 28) rfl rfl rfl ?_
  refine s_aldn (p' := 29) rfl rfl rfl ?_
  refine s_gf (p' := 32) rfl (rd_ss rfl (rd_sn rfl (rd_sn rfl (rd_sn rfl (rd_sn rfl (rd_sn rfl (rd_sn rfl (rd_sn rfl (rd_sn rfl H393))))))))) rfl rfl ?_
  refine s_ildn (p' := 33) rfl rfl rfl ?_
  refine s_ialz (p' := 34) (m := 5) (v := (nI 5)) rfl (rd_sn rfl (rd_ss rfl (rd_ss rfl (rd_ss rfl (rd_ss rfl (rd_ss rfl (rd_ss rfl (rd_ss rfl (rd_ss rfl H395))))))))) (by decide +kernel) rfl (by decide +kernel) rfl ?_
  refine s_con (p' := 35) rfl rfl ?_
  refine s_bz (p' := 36) (z := (nI 4294967290)) rfl rfl rfl (by decide +kernel) ?_
  refine s_bz (p' := 37) (z := (nI 0)) rfl rfl rfl (by decide +kernel) ?_
  refine s_con (p' := 38) rfl rfl ?_
  refine s_ildn (p' := 39) rfl rfl rfl ?_
  refine s_bz (p' := 40) (z := (nI 4)) rfl rfl rfl (by decide +kernel) ?_
  refine s_bz (p' := 41) (z := (nI 0)) rfl rfl rfl (by decide +kernel) ?_
  refine s_if (p' := 55) true rfl (by decide +kernel) rfl ?_
  refine s_incz (p' := 58) (w := (nI 3)) (ls' := [_, _, _]) rfl rfl rfl (by decide +kernel) rfl rfl ?_
  refine s_goto (p' := 22) rfl rfl ?_
  refine s_ildn (p' := 23) rfl rfl rfl ?_
  refine s_con (p' := 24) rfl rfl ?_
  refine s_icmp (p' := 61) true rfl (by decide +kernel) rfl ?_
  refine s_con (p' := 62) rfl rfl ?_
  refine s_istn (p' := 63) (ls' := [_, _, _]) rfl rfl rfl rfl ?_
  refine s_ildn (p' := 64) rfl rfl rfl ?_
  refine s_con (p' := 65) rfl rfl ?_
  refine s_icmp (p' := 68) false rfl (by decide +kernel) rfl ?_
  refine s_aldn (p' := 69) rfl rfl rfl ?_
  refine s_gf (p' := 72) rfl (rd_ss rfl (rd_sn rfl (rd_sn rfl (rd_sn rfl (rd_sn rfl (rd_sn rfl (rd_sn rfl (rd_sn rfl (rd_sn rfl H393))))))))) rfl rfl ?_
  refine s_ildn (p' := 73) rfl rfl rfl ?_
  refine s_ialz (p' := 74) (m := 5) (v := (nI 5)) rfl (rd_sn rfl (rd_ss rfl (rd_ss rfl (rd_ss rfl (rd_ss rfl (rd_ss rfl (rd_ss rfl (rd_ss rfl (rd_ss rfl H395))))))))) (by decide +kernel) rfl (by decide +kernel) rfl ?_
  refine s_ildn (p' := 75) rfl rfl rfl ?_
  refine s_con (p' := 76) rfl rfl ?_
  refine s_bz (p' := 77) (z := (nI 4294967290)) rfl rfl rfl (by decide +kernel) ?_
  refine s_bz (p' := 78) (z := (nI 0)) rfl rfl rfl (by decide +kernel) ?_
  refine s_con (p' := 79) rfl rfl ?_
  refine s_ildn (p' := 80) rfl rfl rfl ?_
  refine s_bz (p' := 81) (z := (nI 1)) rfl rfl rfl (by decide +kernel) ?_
  refine s_bz (p' := 82) (z := (nI 0)) rfl rfl rfl (by decide +kernel) ?_
  refine s_if (p' := 91) true rfl (by decide +kernel) rfl ?_
  refine s_incz (p' := 94) (w := (nI 1)) (ls' := [_, _, _]) rfl rfl rfl (by decide +kernel) rfl rfl ?_
  refine s_goto (p' := 63) rfl rfl ?_
  refine s_ildn (p' := 64) rfl rfl rfl ?_
  refine s_con (p' := 65) rfl rfl ?_
  refine s_icmp (p' := 68) false rfl (by decide +kernel) rfl ?_
  refine s_aldn (p' := 69) rfl rfl rfl ?_
  refine s_gf (p' := 72) rfl (rd_ss rfl (rd_sn rfl (rd_sn rfl (rd_sn rfl (rd_sn rfl (rd_sn rfl (rd_sn rfl (rd_sn rfl (rd_sn rfl H393))))))))) rfl rfl ?_
  refine s_ildn (p' := 73) rfl rfl rfl ?_
  refine s_ialz (p' := 74) (m := 5) (v := (nI 5)) rfl (rd_sn rfl (rd_ss rfl (rd_ss rfl (rd_ss rfl (rd_ss rfl (rd_ss rfl (rd_ss rfl (rd_ss rfl (rd_ss rfl H395))))))))) (by decide +kernel) rfl (by decide +kernel) rfl ?_
  refine s_ildn (p' := 75) rfl rfl rfl ?_
  refine s_con (p' := 76) rfl rfl ?_
  refine s_bz (p' := 77) (z := (nI 4294967290)) rfl rfl rfl (by decide +kernel) ?_
  refine s_bz (p' := 78) (z := (nI 0)) rfl rfl rfl (by decide +kernel) ?_
  refine s_con (p' := 79) rfl rfl ?_
  refine s_ildn (p' := 80) rfl rfl rfl ?_
  refine s_bz (p' := 81) (z := (nI 2)) rfl rfl rfl (by decide +kernel) ?_
  refine s_bz (p' := 82) (z := (nI 0)) rfl rfl rfl (by decide +kernel) ?_
  refine s_if (p' := 91) true rfl (by decide +kernel) rfl ?_
  refine s_incz (p' := 94) (w := (nI 2)) (ls' := [_, _, _]) rfl rfl rfl (by decide +kernel) rfl rfl ?_
  refine s_goto (p' := 63) rfl rfl ?_
  refine s_ildn (p' := 64) rfl rfl rfl ?_
  refine s_con (p' := 65) rfl rfl ?_
  refine s_icmp (p' := 68) false rfl (by decide +kernel) rfl ?_
  refine s_aldn (p' := 69) rfl rfl rfl ?_
  refine s_gf (p' := 72) rfl (rd_ss rfl (rd_sn rfl (rd_sn rfl (rd_sn rfl (rd_sn rfl (rd_sn rfl (rd_sn rfl (rd_sn rfl (rd_sn rfl H393))))))))) rfl rfl ?_
  refine s_ildn (p' := 73) rfl rfl rfl ?_
  refine s_ialz (p' := 74) (m := 5) (v := (nI 5)) rfl (rd_sn rfl (rd_ss rfl (rd_ss rfl (rd_ss rfl (rd_ss rfl (rd_ss rfl (rd_ss rfl (rd_ss rfl (rd_ss rfl H395))))))))) (by decide +kernel) rfl (by decide +kernel) rfl ?_
  refine s_ildn (p' := 75) rfl rfl rfl ?_
  refine s_con (p' := 76) rfl rfl ?_
  refine s_bz (p' := 77) (z := (nI 4294967290)) rfl rfl rfl (by decide +kernel) ?_
  refine s_bz (p' := 78) (z := (nI 0)) rfl rfl rfl (by decide +kernel) ?_
  refine s_con (p' := 79) rfl rfl ?_
  refine s_ildn (p' := 80) rfl rfl rfl ?_
  refine s_bz (p' := 81) (z := (nI 4)) rfl rfl rfl (by decide +kernel) ?_
  refine s_bz (p' := 82) (z := (nI 0)) rfl rfl rfl (by decide +kernel) ?_
  refine s_if (p' := 91) true rfl (by decide +kernel) rfl ?_
  refine s_incz (p' := 94) (w := (nI 3)) (ls' := [_, _, _]) rfl rfl rfl (by decide +kernel) rfl rfl ?_
  refine s_goto (p' := 63) rfl rfl ?_
  refine s_ildn (p' := 64) rfl rfl rfl ?_
  refine s_con (p' := 65) rfl rfl ?_
  refine s_icmp (p' := 97) true rfl (by decide +kernel) rfl ?_
  refine s_incz (p' := 100) (w := (nI 6)) (ls' := [_, _, _]) rfl rfl rfl (by decide +kernel) rfl rfl ?_
  refine s_goto (p' := 11) rfl rfl ?_
  refine s_ildn (p' := 12) rfl rfl rfl ?_
  refine s_aldn (p' := 13) rfl rfl rfl ?_
  refine s_gf (p' := 16) rfl (rd_ss rfl (rd_sn rfl (rd_sn rfl (rd_sn rfl (rd_sn rfl (rd_sn rfl (rd_sn rfl (rd_sn rfl (rd_sn rfl H393))))))))) rfl rfl ?_
  refine s_lenz (p' := 17) rfl (mj_rdA_is (rd_sn rfl (rd_ss rfl (rd_ss rfl (rd_ss rfl (rd_ss rfl (rd_ss rfl (rd_ss rfl (rd_ss rfl (rd_ss rfl H395))))))))) (by decide)) rfl rfl ?_
  refine s_icmp (p' := 20) false rfl (by decide +kernel) rfl ?_
  refine s_con (p' := 21) rfl rfl ?_
  refine s_istn (p' := 22) (ls' := [_, _, _]) rfl rfl rfl rfl ?_
  refine s_ildn (p' := 23) rfl rfl rfl ?_
  refine s_con (p' := 24) rfl rfl ?_
  refine s_icmp (p' := 27) false rfl (by decide +kernel) rfl ?_
  refine s_ildn (p' := 28) rfl rfl rfl ?_
  refine s_aldn (p' := 29) rfl rfl rfl ?_
  refine s_gf (p' := 32) rfl (rd_ss rfl (rd_sn rfl (rd_sn rfl (rd_sn rfl (rd_sn rfl (rd_sn rfl (rd_sn rfl (rd_sn rfl (rd_sn rfl H393))))))))) rfl rfl ?_
  refine s_ildn (p' := 33) rfl rfl rfl ?_
  refine s_ialz (p' := 34) (m := 6) (v := (nI 6)) rfl (rd_sn rfl (rd_ss rfl (rd_ss rfl (rd_ss rfl (rd_ss rfl (rd_ss rfl (rd_ss rfl (rd_ss rfl (rd_ss rfl H395))))))))) (by decide +kernel) rfl (by decide +kernel) rfl ?_
  refine s_con (p' := 35) rfl rfl ?_
  refine s_bz (p' := 36) (z := (nI 4294967289)) rfl rfl rfl (by decide +kernel) ?_
  refine s_bz (p' := 37) (z := (nI 0)) rfl rfl rfl (by decide +kernel) ?_
  refine s_con (p' := 38) rfl rfl ?_
  refine s_ildn (p' := 39) rfl rfl rfl ?_
  refine s_bz (p' := 40) (z := (nI 1)) rfl rfl rfl (by decide +kernel) ?_
  refine s_bz (p' := 41) (z := (nI 0)) rfl rfl rfl (by decide +kernel) ?_
  refine s_if (p' := 55) true rfl (by decide +kernel) rfl ?_
  refine s_incz (p' := 58) (w := (nI 1)) (ls' := [_, _, _]) rfl rfl rfl (by decide +kernel) rfl rfl ?_
  refine s_goto (p' := 22) rfl rfl ?_
  refine s_ildn (p' := 23) rfl rfl rfl ?_
  refine s_con (p' := 24) rfl rfl ?_
  refine s_icmp (p' := 27) false rfl (by decide +kernel) rfl ?_
  refine s_ildn (p' := 28) rfl rfl rfl ?_
  refine s_aldn (p' := 29) rfl rfl rfl ?_
  refine s_gf (p' := 32) rfl (rd_ss rfl (rd_sn rfl (rd_sn rfl (rd_sn rfl (rd_sn rfl (rd_sn rfl (rd_sn rfl (rd_sn rfl (rd_sn rfl H393))))))))) rfl rfl ?_
  refine s_ildn (p' := 33) rfl rfl rfl ?_
  refine s_ialz (p' := 34) (m := 6) (v := (nI 6)) rfl (rd_sn rfl (rd_ss rfl (rd_ss rfl (rd_ss rfl (rd_ss rfl (rd_ss rfl (rd_ss rfl (rd_ss rfl (rd_ss rfl H395))))))))) (by decide +kernel) rfl (by decide +kernel) rfl ?_
  refine s_con (p' := 35) rfl rfl ?_
  refine s_bz (p' := 36) (z := (nI 4294967289)) rfl rfl rfl (by decide +kernel) ?_
  refine s_bz (p' := 37) (z := (nI 0)) rfl rfl rfl (by decide +kernel) ?_
  refine s_con (p' := 38) rfl rfl ?_
  refine s_ildn (p' := 39) rfl rfl rfl ?_
  refine s_bz (p' := 40) (z := (nI 2)) rfl rfl rfl (by decide +kernel) ?_
  refine s_bz (p' := 41) (z := (nI 0)) rfl rfl rfl (by decide +kernel) ?_
  refine s_if (p' := 55) true rfl (by decide +kernel) rfl ?_
  refine s_incz (p' := 58) (w := (nI 2)) (ls' := [_, _, _]) rfl rfl rfl (by decide +kernel) rfl rfl ?_
  refine s_goto (p' := 22) rfl rfl ?_
  refine s_ildn (p' := 23) rfl rfl rfl ?_
  refine s_con (p' := 24) rfl rfl ?_
  refine s_icmp (p' := 27) false rfl (by decide +kernel) rfl ?_
  refine s_ildn (p' := 28) rfl rfl rfl ?_
  refine s_aldn (p' := 29) rfl rfl rfl ?_
  refine s_gf (p' := 32) rfl (rd_ss rfl (rd_sn rfl (rd_sn rfl (rd_sn rfl (rd_sn rfl (rd_sn rfl (rd_sn rfl (rd_sn rfl (rd_sn rfl H393))))))))) rfl rfl ?_
  refine s_ildn (p' := 33) rfl rfl rfl ?_
  refine s_ialz (p' := 34) (m := 6) (v := (nI 6)) rfl (rd_sn rfl (rd_ss rfl (rd_ss rfl (rd_ss rfl (rd_ss rfl (rd_ss rfl (rd_ss rfl (rd_ss rfl (rd_ss rfl H395))))))))) (by decide +kernel) rfl (by decide +kernel) rfl ?_
  refine s_con (p' := 35) rfl rfl ?_
  refine s_bz (p' := 36) (z := (nI 4294967289)) rfl rfl rfl (by decide +kernel) ?_
  refine s_bz (p' := 37) (z := (nI 0)) rfl rfl rfl (by decide +kernel) ?_
  refine s_con (p' := 38) rfl rfl ?_
  refine s_ildn (p' := 39) rfl rfl rfl ?_
  refine s_bz (p' := 40) (z := (nI 4)) rfl rfl rfl (by decide +kernel) ?_
  refine s_bz (p' := 41) (z := (nI 0)) rfl rfl rfl (by decide +kernel) ?_
  refine s_if (p' := 55) true rfl (by decide +kernel) rfl ?_
  refine s_incz (p' := 58) (w := (nI 3)) (ls' := [_, _, _]) rfl rfl rfl (by decide +kernel) rfl rfl ?_
  refine s_goto (p' := 22) rfl rfl ?_
  refine s_ildn (p' := 23) rfl rfl rfl ?_
  refine s_con (p' := 24) rfl rfl ?_
  refine s_icmp (p' := 61) true rfl (by decide +kernel) rfl ?_
  refine s_con (p' := 62) rfl rfl ?_
  refine s_istn (p' := 63) (ls' := [_, _, _]) rfl rfl rfl rfl ?_
  refine s_ildn (p' := 64) rfl rfl rfl ?_
  refine s_con (p' := 65) rfl rfl ?_
  refine s_icmp (p' := 68) false rfl (by decide +kernel) rfl ?_
  refine s_aldn (p' := 69) rfl rfl rfl ?_
  refine s_gf (p' := 72) rfl (rd_ss rfl (rd_sn rfl (rd_sn rfl (rd_sn rfl (rd_sn rfl (rd_sn rfl (rd_sn rfl (rd_sn rfl (rd_sn rfl H393))))))))) rfl rfl ?_
  refine s_ildn (p' := 73) rfl rfl rfl ?_
  refine s_ialz (p' := 74) (m := 6) (v := (nI 6)) rfl (rd_sn rfl (rd_ss rfl (rd_ss rfl (rd_ss rfl (rd_ss rfl (rd_ss rfl (rd_ss rfl (rd_ss rfl (rd_ss rfl H395))))))))) (by decide +kernel) rfl (by decide +kernel) rfl ?_
  refine s_ildn (p' := 75) rfl rfl rfl ?_
  refine s_con (p' := 76) rfl rfl ?_
  refine s_bz (p' := 77) (z := (nI 4294967289)) rfl rfl rfl (by decide +kernel) ?_
  refine s_bz (p' := 78) (z := (nI 0)) rfl rfl rfl (by decide +kernel) ?_
  refine s_con (p' := 79) rfl rfl ?_
  refine s_ildn (p' := 80) rfl rfl rfl ?_
  refine s_bz (p' := 81) (z := (nI 1)) rfl rfl rfl (by decide +kernel) ?_
  refine s_bz (p' := 82) (z := (nI 0)) rfl rfl rfl (by decide +kernel) ?_
  refine s_if (p' := 91) true rfl (by decide +kernel) rfl ?_
  refine s_incz (p' := 94) (w := (nI 1)) (ls' := [_, _, _]) rfl rfl rfl (by decide +kernel) rfl rfl ?_
  refine s_goto (p' := 63) rfl rfl ?_
  refine s_ildn (p' := 64) rfl rfl rfl ?_
  refine s_con (p' := 65) rfl rfl ?_
  refine s_icmp (p' := 68) false rfl (by decide +kernel) rfl ?_
  refine s_aldn (p' := 69) rfl rfl rfl ?_
  refine s_gf (p' := 72) rfl (rd_ss rfl (rd_sn rfl (rd_sn rfl (rd_sn rfl (rd_sn rfl (rd_sn rfl (rd_sn rfl (rd_sn rfl (rd_sn rfl H393))))))))) rfl rfl ?_
  refine s_ildn (p' := 73) rfl rfl rfl ?_
  refine s_ialz (p' := 74) (m := 6) (v := (nI 6)) rfl (rd_sn rfl (rd_ss rfl (rd_ss rfl (rd_ss rfl (rd_ss rfl (rd_ss rfl (rd_ss rfl (rd_ss rfl (rd_ss rfl H395))))))))) (by decide +kernel) rfl (by decide +kernel) rfl ?_
  refine s_ildn (p' := 75) rfl rfl rfl ?_
  refine s_con (p' := 76) rfl rfl ?_
  refine s_bz (p' := 77) (z := (nI 4294967289)) rfl rfl rfl (by decide +kernel) ?_
  refine s_bz (p' := 78) (z := (nI 0)) rfl rfl rfl (by decide +kernel) ?_
  refine s_con (p' := 79) rfl rfl ?_
  refine s_ildn (p' := 80) rfl rfl rfl ?_
  refine s_bz (p' := 81) (z := (nI 2)) rfl rfl rfl (by decide +kernel) ?_
  refine s_bz (p' := 82) (z := (nI 0)) rfl rfl rfl (by decide +kernel) ?_
  refine s_if (p' := 91) true rfl (by decide +kernel) rfl ?_
  refine s_incz (p' := 94) (w := (nI 2)) (ls' := [_, _, _]) rfl rfl rfl (by decide +kernel) rfl rfl ?_
  refine s_goto (p' := 63) rfl rfl ?_
  refine s_ildn (p' := 64) rfl rfl rfl ?_
  refine s_con (p' := 65) rfl rfl ?_
  refine s_icmp (p' := 68) false rfl (by decide +kernel) rfl ?_
  refine s_aldn (p' := 69) rfl rfl rfl ?_
  refine s_gf (p' := 72) rfl (rd_ss rfl (rd_sn rfl (rd_sn rfl (rd_sn rfl (rd_sn rfl (rd_sn rfl (rd_sn rfl (rd_sn rfl (rd_sn rfl H393))))))))) rfl rfl ?_
  refine s_ildn (p' := 73) rfl rfl rfl ?_
  refine s_ialz (p' := 74) (m := 6) (v := (nI 6)) rfl (rd_sn rfl (rd_ss rfl (rd_ss rfl (rd_ss rfl (rd_ss rfl (rd_ss rfl (rd_ss rfl (rd_ss rfl (rd_ss rfl H395))))))))) (by decide +kernel) rfl (by decide +kernel) rfl ?_
  refine s_ildn (p' := 75) rfl rfl rfl ?_
  refine s_con (p' := 76) rfl rfl ?_
  refine s_bz (p' := 77) (z := (nI 4294967289)) rfl rfl rfl (by decide +kernel) ?_
  refine s_bz (p' := 78) (z := (nI 0)) rfl rfl rfl (by decide +kernel) ?_
  refine s_con (p' := 79) rfl rfl ?_
  refine s_ildn (p' := 80) rfl rfl rfl ?_
  refine s_bz (p' := 81) (z := (nI 4)) rfl rfl rfl (by decide +kernel) ?_
  refine s_bz (p' := 82) (z := (nI 0)) rfl rfl rfl (by decide +kernel) ?_
  refine s_if (p' := 91) true rfl (by decide +kernel) rfl ?_
  refine s_incz (p' := 94) (w := (nI 3)) (ls' := [_, _, _]) rfl rfl rfl (by decide +kernel) rfl rfl ?_
  refine s_goto (p' := 63) rfl rfl ?_
  refine s_ildn (p' := 64) rfl rfl rfl ?_
  refine s_con (p' := 65) rfl rfl ?_
  refine s_icmp (p' := 97) true rfl (by decide +kernel) rfl ?_
  refine s_incz (p' := 100) (w := (nI 7)) (ls' := [_, _, _]) rfl rfl rfl (by decide +kernel) rfl rfl ?_
  refine s_goto (p' := 11) rfl rfl ?_
  refine s_ildn (p' := 12) rfl rfl rfl ?_
  refine s_aldn (p' := 13) rfl rfl rfl ?_
  refine s_gf (p' := 16) rfl (rd_ss rfl (rd_sn rfl (rd_sn rfl (rd_sn rfl (rd_sn rfl (rd_sn rfl (rd_sn rfl (rd_sn rfl (rd_sn rfl H393))))))))) rfl rfl ?_
  refine s_lenz (p' := 17) rfl (mj_rdA_is (rd_sn rfl (rd_ss rfl (rd_ss rfl (rd_ss rfl (rd_ss rfl (rd_ss rfl (rd_ss rfl (rd_ss rfl (rd_ss rfl H395))))))))) (by decide)) rfl rfl ?_
  refine s_icmp (p' := 20) false rfl (by decide +kernel) rfl ?_
  refine s_con (p' := 21) rfl rfl ?_
  refine s_istn (p' := 22) (ls' := [_, _, _]) rfl rfl rfl rfl ?_
  refine s_ildn (p' := 23) rfl rfl rfl ?_
  refine s_con (p' := 24) rfl rfl ?_
  refine s_icmp (p' := 27) false rfl (by decide +kernel) rfl ?_
  refine s_ildn (p' := 28) rfl rfl rfl ?_
  refine s_aldn (p' := 29) rfl rfl rfl ?_
  refine s_gf (p' := 32) rfl (rd_ss rfl (rd_sn rfl (rd_sn rfl (rd_sn rfl (rd_sn rfl (rd_sn rfl (rd_sn rfl (rd_sn rfl (rd_sn rfl H393))))))))) rfl rfl ?_
  refine s_ildn (p' := 33) rfl rfl rfl ?_
  refine s_ialz (p' := 34) (m := 7) (v := (nI 7)) rfl (rd_sn rfl (rd_ss rfl (rd_ss rfl (rd_ss rfl (rd_ss rfl (rd_ss rfl (rd_ss rfl (rd_ss rfl (rd_ss rfl H395))))))))) (by decide +kernel) rfl (by decide +kernel) rfl ?_
  refine s_con (p' := 35) rfl rfl ?_
  refine s_bz (p' := 36) (z := (nI 4294967288)) rfl rfl rfl (by decide +kernel) ?_
  refine s_bz (p' := 37) (z := (nI 0)) rfl rfl rfl (by decide +kernel) ?_
  refine s_con (p' := 38) rfl rfl ?_
  refine s_ildn (p' := 39) rfl rfl rfl ?_
  refine s_bz (p' := 40) (z := (nI 1)) rfl rfl rfl (by decide +kernel) ?_
  refine s_bz (p' := 41) (z := (nI 0)) rfl rfl rfl (by decide +kernel) ?_
  refine s_if (p' := 55) true rfl (by decide +kernel) rfl ?_
  refine s_incz (p' := 58) (w := (nI 1)) (ls' := [_, _, _]) rfl rfl rfl (by decide +kernel) rfl rfl ?_
  refine s_goto (p' := 22) rfl rfl ?_
  refine s_ildn (p' := 23) rfl rfl rfl ?_
  refine s_con (p' := 24) rfl rfl ?_
  refine s_icmp (p' := 27) false rfl (by decide +kernel) rfl ?_
  refine s_ildn (p' := 28) rfl rfl rfl ?_
  refine s_aldn (p' := 29) rfl rfl rfl ?_
  refine s_gf (p' := 32) rfl (rd_ss rfl (rd_sn rfl (rd_sn rfl (rd_sn rfl (rd_sn rfl (rd_sn rfl (rd_sn rfl (rd_sn rfl (rd_sn rfl H393))))))))) rfl rfl ?_
  refine s_ildn (p' := 33) rfl rfl rfl ?_
  refine s_ialz (p' := 34) (m := 7) (v := (nI 7)) rfl (rd_sn rfl (rd_ss rfl (rd_ss rfl (rd_ss rfl (rd_ss rfl (rd_ss rfl (rd_ss rfl (rd_ss rfl (rd_ss rfl H395))))))))) (by decide +kernel) rfl (by decide +kernel) rfl ?_
  refine s_con (p' := 35) rfl rfl ?_
  refine s_bz (p' := 36) (z := (nI 4294967288)) rfl rfl rfl (by decide +kernel) ?_
  refine s_bz (p' := 37) (z := (nI 0)) rfl rfl rfl (by decide +kernel) ?_
  refine s_con (p' := 38) rfl rfl ?_
  refine s_ildn (p' := 39) rfl rfl rfl ?_
  refine s_bz (p' := 40) (z := (nI 2)) rfl rfl rfl (by decide +kernel) ?_
  refine s_bz (p' := 41) (z := (nI 0)) rfl rfl rfl (by decide +kernel) ?_
  refine s_if (p' := 55) true rfl (by decide +kernel) rfl ?_
  refine s_incz (p' := 58) (w := (nI 2)) (ls' := [_, _, _]) rfl rfl rfl (by decide +kernel) rfl rfl ?_
  refine s_goto (p' := 22) rfl rfl ?_
  refine s_ildn (p' := 23) rfl rfl rfl ?_
  refine s_con (p' := 24) rfl rfl ?_
  refine s_icmp (p' := 27) false rfl (by decide +kernel) rfl ?_
  refine s_ildn (p' := 28) rfl rfl rfl ?_
  refine s_aldn (p' := 29) rfl rfl rfl ?_
  refine s_gf (p' := 32) rfl (rd_ss rfl (rd_sn rfl (rd_sn rfl (rd_sn rfl (rd_sn rfl (rd_sn rfl (rd_sn rfl (rd_sn rfl (rd_sn rfl H393))))))))) rfl rfl ?_
  refine s_ildn (p' := 33) rfl rfl rfl ?_
  refine s_ialz (p' := 34) (m := 7) (v := (nI 7)) rfl (rd_sn rfl (rd_ss rfl (rd_ss rfl (rd_ss rfl (rd_ss rfl (rd_ss rfl (rd_ss rfl (rd_ss rfl (rd_ss rfl H395))))))))) (by decide +kernel) rfl (by decide +kernel) rfl ?_
  refine s_con (p' := 35) rfl rfl ?_
  refine s_bz (p' := 36) (z := (nI 4294967288)) rfl rfl rfl (by decide +kernel) ?_
  refine s_bz (p' := 37) (z := (nI 0)) rfl rfl rfl (by decide +kernel) ?_
  refine s_con (p' := 38) rfl rfl ?_
  refine s_ildn (p' := 39) rfl rfl rfl ?_
  refine s_bz (p' := 40) (z := (nI 4)) rfl rfl rfl (by decide +kernel) ?_
  refine s_bz (p' := 41) (z := (nI 0)) rfl rfl rfl (by decide +kernel) ?_
  refine s_if (p' := 55) true rfl (by decide +kernel) rfl ?_
  refine s_incz (p' := 58) (w := (nI 3)) (ls' := [_, _, _]) rfl rfl rfl (by decide +kernel) rfl rfl ?_
  refine s_goto (p' := 22) rfl rfl ?_
  refine s_ildn (p' := 23) rfl rfl rfl ?_
  refine s_con (p' := 24) rfl rfl ?_
  refine s_icmp (p' := 61) true rfl (by decide +kernel) rfl ?_
  refine s_con (p' := 62) rfl rfl ?_
  refine s_istn (p' := 63) (ls' := [_, _, _]) rfl rfl rfl rfl ?_
  refine s_ildn (p' := 64) rfl rfl rfl ?_
  refine s_con (p' := 65) rfl rfl ?_
  refine s_icmp (p' := 68) false rfl (by decide +kernel) rfl ?_
  refine s_aldn (p' := 69) rfl rfl rfl ?_
  refine s_gf (p' := 72) rfl (rd_ss rfl (rd_sn rfl (rd_sn rfl (rd_sn rfl (rd_sn rfl (rd_sn rfl (rd_sn rfl (rd_sn rfl (rd_sn rfl H393))))))))) rfl rfl ?_
  refine s_ildn (p' := 73) rfl rfl rfl ?_
  refine s_ialz (p' := 74) (m := 7) (v := (nI 7)) rfl (rd_sn rfl (rd_ss rfl (rd_ss rfl (rd_ss rfl (rd_ss rfl (rd_ss rfl (rd_ss rfl (rd_ss rfl (rd_ss rfl H395))))))))) (by decide +kernel) rfl (by decide +kernel) rfl ?_
  refine s_ildn (p' := 75) rfl rfl rfl ?_
  refine s_con (p' := 76) rfl rfl ?_
  refine s_bz (p' := 77) (z := (nI 4294967288)) rfl rfl rfl (by decide +kernel) ?_
  refine s_bz (p' := 78) (z := (nI 0)) rfl rfl rfl (by decide +kernel) ?_
  refine s_con (p' := 79) rfl rfl ?_
  refine s_ildn (p' := 80) rfl rfl rfl ?_
  refine s_bz (p' := 81) (z := (nI 1)) rfl rfl rfl (by decide +kernel) ?_
  refine s_bz (p' := 82) (z := (nI 0)) rfl rfl rfl (by decide +kernel) ?_
  refine s_if (p' := 91) true rfl (by decide +kernel) rfl ?_
  refine s_incz (p' := 94) (w := (nI 1)) (ls' := [_, _, _]) rfl rfl rfl (by decide +kernel) rfl rfl ?_
  refine s_goto (p' := 63) rfl rfl ?_
  refine s_ildn (p' := 64) rfl rfl rfl ?_
  refine s_con (p' := 65) rfl rfl ?_
  refine s_icmp (p' := 68) false rfl (by decide +kernel) rfl ?_
  refine s_aldn (p' := 69) rfl rfl rfl ?_
  refine s_gf (p' := 72) rfl (rd_ss rfl (rd_sn rfl (rd_sn rfl (rd_sn rfl (rd_sn rfl (rd_sn rfl (rd_sn rfl (rd_sn rfl (rd_sn rfl H393))))))))) rfl rfl ?_
  refine s_ildn (p' := 73) rfl rfl rfl ?_
  refine s_ialz (p' := 74) (m := 7) (v := (nI 7)) rfl (rd_sn rfl (rd_ss rfl (rd_ss rfl (rd_ss rfl (rd_ss rfl (rd_ss rfl (rd_ss rfl (rd_ss rfl (rd_ss rfl H395))))))))) (by decide +kernel) rfl (by decide +kernel) rfl ?_
  refine s_ildn (p' := 75) rfl rfl rfl ?_
  refine s_con (p' := 76) rfl rfl ?_
  refine s_bz (p' := 77) (z := (nI 4294967288)) rfl rfl rfl (by decide +kernel) ?_
  refine s_bz (p' := 78) (z := (nI 0)) rfl rfl rfl (by decide +kernel) ?_
  refine s_con (p' := 79) rfl rfl ?_
  refine s_ildn (p' := 80) rfl rfl rfl ?_
  refine s_bz (p' := 81) (z := (nI 2)) rfl rfl rfl (by decide +kernel) ?_
  refine s_bz (p' := 82) (z := (nI 0)) rfl rfl rfl (by decide +kernel) ?_
  refine s_if (p' := 91) true rfl (by decide +kernel) rfl ?_
  refine s_incz (p' := 94) (w := (nI 2)) (ls' := [_, _, _]) rfl rfl rfl (by decide +kernel) rfl rfl ?_
  refine s_goto (p' := 63) rfl rfl ?_
  refine s_ildn (p' := 64) rfl rfl rfl ?_
  refine s_con (p' := 65) rfl rfl ?_
  refine s_icmp (p' := 68) false rfl (by decide +kernel) rfl ?_
  refine s_aldn (p' := 69) rfl rfl rfl ?_
  refine s_gf (p' := 72) rfl (rd_ss rfl (rd_sn rfl (rd_sn rfl (rd_sn rfl (rd_sn rfl (rd_sn rfl (rd_sn rfl (rd_sn rfl (rd_sn rfl H393))))))))) rfl rfl ?_
  refine s_ildn (p' := 73) rfl rfl rfl ?_
  refine s_ialz (p' := 74) (m := 7) (v := (nI 7)) rfl (rd_sn rfl (rd_ss rfl (rd_ss rfl (rd_ss rfl (rd_ss rfl (rd_ss rfl (rd_ss rfl (rd_ss rfl (rd_ss rfl H395))))))))) (by decide +kernel) rfl (by decide +kernel) rfl ?_
  refine s_ildn (p' := 75) rfl rfl rfl ?_
  refine s_con (p' := 76) rfl rfl ?_
  refine s_bz (p' := 77) (z := (nI 4294967288)) rfl rfl rfl (by decide +kernel) ?_
  refine s_bz (p' := 78) (z := (nI 0)) rfl rfl rfl (by decide +kernel) ?_
  refine s_con (p' := 79) rfl rfl ?_
  refine s_ildn (p' := 80) rfl rfl rfl ?_
  refine s_bz (p' := 81) (z := (nI 4)) rfl rfl rfl (by decide +kernel) ?_
  refine s_bz (p' := 82) (z := (nI 0)) rfl rfl rfl (by decide +kernel) ?_
  refine s_if (p' := 91) true rfl (by decide +kernel) rfl ?_
  refine s_incz (p' := 94) (w := (nI 3)) (ls' := [_, _, _]) rfl rfl rfl (by decide +kernel) rfl rfl ?_
  refine s_goto (p' := 63) rfl rfl ?_
  refine s_ildn (p' := 64) rfl rfl rfl ?_
  refine s_con (p' := 65) rfl rfl ?_
  refine s_icmp (p' := 97) true rfl (by decide +kernel) rfl ?_
  refine s_incz (p' := 100) (w := (nI 8)) (ls' := [_, _, _]) rfl rfl rfl (by decide +kernel) rfl rfl ?_
  refine s_goto (p' := 11) rfl rfl ?_
  refine s_ildn (p' := 12) rfl rfl rfl ?_
  refine s_aldn (p' := 13) rfl rfl rfl ?_
  refine s_gf (p' := 16) rfl (rd_ss rfl (rd_sn rfl (rd_sn rfl (rd_sn rfl (rd_sn rfl (rd_sn rfl (rd_sn rfl (rd_sn rfl (rd_sn rfl H393))))))))) rfl rfl ?_
  refine s_lenz (p' := 17) rfl (mj_rdA_is (rd_sn rfl (rd_ss rfl (rd_ss rfl (rd_ss rfl (rd_ss rfl (rd_ss rfl (rd_ss rfl (rd_ss rfl (rd_ss rfl H395))))))))) (by decide)) rfl rfl ?_
  refine s_icmp (p' := 103) true rfl (by decide +kernel) rfl ?_
  refine s_aldn (p' := 104) rfl rfl rfl ?_
  refine s_gf (p' := 107) rfl (rd_ss rfl (rd_sn rfl (rd_sn rfl (rd_sn rfl (rd_sn rfl (rd_sn rfl (rd_sn rfl (rd_sn rfl (rd_sn rfl H393))))))))) rfl rfl ?_
  refine c_iret rfl rfl ?_
  refine s_sp (p' := 8) (ls' := _) rfl rfl rfl ?_
  refine s_con (p' := 9) rfl rfl ?_
  refine s_istn (p' := 10) (ls' := [_, _, _]) rfl rfl rfl rfl ?_
  refine s_ildn (p' := 11) rfl rfl rfl ?_
  refine s_bip (p' := 13) rfl rfl ?_
  refine s_icmp (p' := 16) false rfl (by decide +kernel) rfl ?_
  refine s_aldn (p' := 17) rfl rfl rfl ?_
  refine s_gf (p' := 20) rfl (rd_sn rfl (rd_sn rfl (rd_sn rfl (rd_sn rfl (rd_sn rfl (rd_sn rfl (rd_sn rfl (rd_sn rfl (rd_sn rfl H0))))))))) rfl rfl ?_
  refine s_ildn (p' := 21) rfl rfl rfl ?_
  refine c_call (p' := 24) (kc := 97) (ls0 := [_, _, _, _]) rfl rfl rfl rfl rfl (mj_rcv_is (rd_ss rfl (rd_sn rfl (rd_sn rfl (rd_sn rfl (rd_sn rfl (rd_sn rfl (rd_sn rfl (rd_sn rfl (rd_sn rfl H393)))))))))) rfl rfl rfl ?_
  refine s_ildn (p' := 1) rfl rfl rfl ?_
  refine s_istn (p' := 2) (ls' := [_, _, _, _]) rfl rfl rfl rfl ?_
  refine s_con (p' := 3) rfl rfl ?_
  refine s_istn (p' := 4) (ls' := [_, _, _, _]) rfl rfl rfl rfl ?_
  refine s_ildn (p' := 5) rfl rfl rfl ?_
  refine s_aldn (p' := 6) rfl rfl rfl ?_
  refine s_gf (p' := 9) rfl (rd_ss rfl (rd_sn rfl (rd_sn rfl (rd_sn rfl (rd_sn rfl (rd_sn rfl (rd_sn rfl (rd_sn rfl (rd_sn rfl H393))))))))) rfl rfl ?_
  refine s_icmp (p' := 38) true rfl (by decide +kernel) rfl ?_
  refine s_ildn (p' := 39) rfl rfl rfl ?_
  refine c_iret rfl rfl ?_
  refine s_istn (p' := 25) (ls' := [_, _, _]) rfl rfl rfl rfl ?_
  refine s_aldn (p' := 26) rfl rfl rfl ?_
  refine s_gf (p' := 29) rfl (rd_sn rfl (rd_sn rfl (rd_sn rfl (rd_sn rfl (rd_sn rfl (rd_sn rfl (rd_sn rfl (rd_sn rfl (rd_sn rfl H0))))))))) rfl rfl ?_
  refine s_ildn (p' := 30) rfl rfl rfl ?_
  refine c_call (p' := 33) (kc := 97) (ls0 := [_, _, _, _]) rfl rfl rfl rfl rfl (mj_rcv_is (rd_ss rfl (rd_sn rfl (rd_sn rfl (rd_sn rfl (rd_sn rfl (rd_sn rfl (rd_sn rfl (rd_sn rfl (rd_sn rfl H393)))))))))) rfl rfl rfl ?_
  refine s_ildn (p' := 1) rfl rfl rfl ?_
  refine s_istn (p' := 2) (ls' := [_, _, _, _]) rfl rfl rfl rfl ?_
  refine s_aldn (p' := 3) rfl rfl rfl ?_
  refine s_gf (p' := 6) rfl (rd_ss rfl (rd_sn rfl (rd_sn rfl (rd_sn rfl (rd_sn rfl (rd_sn rfl (rd_sn rfl (rd_sn rfl (rd_sn rfl H393))))))))) rfl rfl ?_
  refine s_aldn (p' := 7) rfl rfl rfl ?_
  refine s_gf (p' := 10) rfl (rd_ss rfl (rd_sn rfl (rd_sn rfl (rd_sn rfl (rd_sn rfl (rd_sn rfl (rd_sn rfl (rd_sn rfl (rd_sn rfl H393))))))))) rfl rfl ?_
  refine s_lenz (p' := 11) rfl (mj_rdA_is (rd_sn rfl (rd_sn rfl (rd_sn rfl (rd_sn rfl (rd_sn rfl (rd_sn rfl (rd_sn rfl (rd_sn rfl (rd_sn rfl H394))))))))) (by decide)) rfl rfl ?_
  refine s_primV (p' := 14) (q := 5) rfl rfl rfl rfl rfl rfl (p_min (x := (nI 0)) (y := (nI 24)) (z := (nI 0)) (by decide +kernel)) rfl ?_
  refine s_con (p' := 15) rfl rfl ?_
  refine s_bz (p' := 16) (z := (nI 4294967295)) rfl rfl rfl (by decide +kernel) ?_
  refine s_istn (p' := 17) (ls' := [_, _, _, _]) rfl rfl rfl rfl ?_
  refine s_ildn (p' := 18) rfl rfl rfl ?_
  refine s_if (p' := 38) true rfl (by decide +kernel) rfl ?_
  refine s_ildn (p' := 39) rfl rfl rfl ?_
  refine c_iret rfl rfl ?_
  refine s_ildn (p' := 34) rfl rfl rfl ?_
  refine s_icmp (p' := 37) false rfl (by decide +kernel) rfl ?_
  refine s_aldn (p' := 38) rfl rfl rfl ?_
  refine s_gf (p' := 41) rfl (rd_sn rfl (rd_sn rfl (rd_sn rfl (rd_sn rfl (rd_sn rfl (rd_sn rfl (rd_sn rfl (rd_sn rfl (rd_sn rfl H0))))))))) rfl rfl ?_
  refine s_ildn (p' := 42) rfl rfl rfl ?_
  refine c_call (p' := 45) (kc := 97) (ls0 := [_, _, _, _]) rfl rfl rfl rfl rfl (mj_rcv_is (rd_ss rfl (rd_sn rfl (rd_sn rfl (rd_sn rfl (rd_sn rfl (rd_sn rfl (rd_sn rfl (rd_sn rfl (rd_sn rfl H393)))))))))) rfl rfl rfl ?_
  refine s_ildn (p' := 1) rfl rfl rfl ?_
  refine s_istn (p' := 2) (ls' := [_, _, _, _]) rfl rfl rfl rfl ?_
  refine s_con (p' := 3) rfl rfl ?_
  refine s_istn (p' := 4) (ls' := [_, _, _, _]) rfl rfl rfl rfl ?_
  refine s_ildn (p' := 5) rfl rfl rfl ?_
  refine s_aldn (p' := 6) rfl rfl rfl ?_
  refine s_gf (p' := 9) rfl (rd_ss rfl (rd_sn rfl (rd_sn rfl (rd_sn rfl (rd_sn rfl (rd_sn rfl (rd_sn rfl (rd_sn rfl (rd_sn rfl H393))))))))) rfl rfl ?_
  refine s_icmp (p' := 28) true rfl (by decide +kernel) rfl ?_
  refine s_ildn (p' := 29) rfl rfl rfl ?_
  refine c_iret rfl rfl ?_
  refine s_ildn (p' := 46) rfl rfl rfl ?_
  refine s_icmp (p' := 51) true rfl (by decide +kernel) rfl ?_
  refine s_incz (p' := 54) (w := (nI 1)) (ls' := [_, _, _]) rfl rfl rfl (by decide +kernel) rfl rfl ?_
  refine s_goto (p' := 10) rfl rfl ?_
  refine s_ildn (p' := 11) rfl rfl rfl ?_
  refine s_bip (p' := 13) rfl rfl ?_
  refine s_icmp (p' := 16) false rfl (by decide +kernel) rfl ?_
  refine s_aldn (p' := 17) rfl rfl rfl ?_
  refine s_gf (p' := 20) rfl (rd_sn rfl (rd_sn rfl (rd_sn rfl (rd_sn rfl (rd_sn rfl (rd_sn rfl (rd_sn rfl (rd_sn rfl (rd_sn rfl H0))))))))) rfl rfl ?_
  refine s_ildn (p' := 21) rfl rfl rfl ?_
  refine c_call (p' := 24) (kc := 97) (ls0 := [_, _, _, _]) rfl rfl rfl rfl rfl (mj_rcv_is (rd_ss rfl (rd_sn rfl (rd_sn rfl (rd_sn rfl (rd_sn rfl (rd_sn rfl (rd_sn rfl (rd_sn rfl (rd_sn rfl H393)))))))))) rfl rfl rfl ?_
  refine s_ildn (p' := 1) rfl rfl rfl ?_
  refine s_istn (p' := 2) (ls' := [_, _, _, _]) rfl rfl rfl rfl ?_
  refine s_con (p' := 3) rfl rfl ?_
  refine s_istn (p' := 4) (ls' := [_, _, _, _]) rfl rfl rfl rfl ?_
  refine s_ildn (p' := 5) rfl rfl rfl ?_
  refine s_aldn (p' := 6) rfl rfl rfl ?_
  refine s_gf (p' := 9) rfl (rd_ss rfl (rd_sn rfl (rd_sn rfl (rd_sn rfl (rd_sn rfl (rd_sn rfl (rd_sn rfl (rd_sn rfl (rd_sn rfl H393))))))))) rfl rfl ?_
  refine s_icmp (p' := 38) true rfl (by decide +kernel) rfl ?_
  refine s_ildn (p' := 39) rfl rfl rfl ?_
  refine c_iret rfl rfl ?_
  refine s_istn (p' := 25) (ls' := [_, _, _]) rfl rfl rfl rfl ?_
  refine s_aldn (p' := 26) rfl rfl rfl ?_
  refine s_gf (p' := 29) rfl (rd_sn rfl (rd_sn rfl (rd_sn rfl (rd_sn rfl (rd_sn rfl (rd_sn rfl (rd_sn rfl (rd_sn rfl (rd_sn rfl H0))))))))) rfl rfl ?_
  refine s_ildn (p' := 30) rfl rfl rfl ?_
  refine c_call (p' := 33) (kc := 97) (ls0 := [_, _, _, _]) rfl rfl rfl rfl rfl (mj_rcv_is (rd_ss rfl (rd_sn rfl (rd_sn rfl (rd_sn rfl (rd_sn rfl (rd_sn rfl (rd_sn rfl (rd_sn rfl (rd_sn rfl H393)))))))))) rfl rfl rfl ?_
  refine s_ildn (p' := 1) rfl rfl rfl ?_
  refine s_istn (p' := 2) (ls' := [_, _, _, _]) rfl rfl rfl rfl ?_
  refine s_aldn (p' := 3) rfl rfl rfl ?_
  refine s_gf (p' := 6) rfl (rd_ss rfl (rd_sn rfl (rd_sn rfl (rd_sn rfl (rd_sn rfl (rd_sn rfl (rd_sn rfl (rd_sn rfl (rd_sn rfl H393))))))))) rfl rfl ?_
  refine s_aldn (p' := 7) rfl rfl rfl ?_
  refine s_gf (p' := 10) rfl (rd_ss rfl (rd_sn rfl (rd_sn rfl (rd_sn rfl (rd_sn rfl (rd_sn rfl (rd_sn rfl (rd_sn rfl (rd_sn rfl H393))))))))) rfl rfl ?_
  refine s_lenz (p' := 11) rfl (mj_rdA_is (rd_sn rfl (rd_sn rfl (rd_sn rfl (rd_sn rfl (rd_sn rfl (rd_sn rfl (rd_sn rfl (rd_sn rfl (rd_sn rfl H394))))))))) (by decide)) rfl rfl ?_
  refine s_primV (p' := 14) (q := 5) rfl rfl rfl rfl rfl rfl (p_min (x := (nI 0)) (y := (nI 24)) (z := (nI 0)) (by decide +kernel)) rfl ?_
  refine s_con (p' := 15) rfl rfl ?_
  refine s_bz (p' := 16) (z := (nI 4294967295)) rfl rfl rfl (by decide +kernel) ?_
  refine s_istn (p' := 17) (ls' := [_, _, _, _]) rfl rfl rfl rfl ?_
  refine s_ildn (p' := 18) rfl rfl rfl ?_
  refine s_if (p' := 38) true rfl (by decide +kernel) rfl ?_
  refine s_ildn (p' := 39) rfl rfl rfl ?_
  refine c_iret rfl rfl ?_
  refine s_ildn (p' := 34) rfl rfl rfl ?_
  refine s_icmp (p' := 37) false rfl (by decide +kernel) rfl ?_
  refine s_aldn (p' := 38) rfl rfl rfl ?_
  refine s_gf (p' := 41) rfl (rd_sn rfl (rd_sn rfl (rd_sn rfl (rd_sn rfl (rd_sn rfl (rd_sn rfl (rd_sn rfl (rd_sn rfl (rd_sn rfl H0))))))))) rfl rfl ?_
  refine s_ildn (p' := 42) rfl rfl rfl ?_
  refine c_call (p' := 45) (kc := 97) (ls0 := [_, _, _, _]) rfl rfl rfl rfl rfl (mj_rcv_is (rd_ss rfl (rd_sn rfl (rd_sn rfl (rd_sn rfl (rd_sn rfl (rd_sn rfl (rd_sn rfl (rd_sn rfl (rd_sn rfl H393)))))))))) rfl rfl rfl ?_
  refine s_ildn (p' := 1) rfl rfl rfl ?_
  refine s_istn (p' := 2) (ls' := [_, _, _, _]) rfl rfl rfl rfl ?_
  refine s_con (p' := 3) rfl rfl ?_
  refine s_istn (p' := 4) (ls' := [_, _, _, _]) rfl rfl rfl rfl ?_
  refine s_ildn (p' := 5) rfl rfl rfl ?_
  refine s_aldn (p' := 6) rfl rfl rfl ?_
  refine s_gf (p' := 9) rfl (rd_ss rfl (rd_sn rfl (rd_sn rfl (rd_sn rfl (rd_sn rfl (rd_sn rfl (rd_sn rfl (rd_sn rfl (rd_sn rfl H393))))))))) rfl rfl ?_
  refine s_icmp (p' := 28) true rfl (by decide +kernel) rfl ?_
  refine s_ildn (p' := 29) rfl rfl rfl ?_
  refine c_iret rfl rfl ?_
  refine s_ildn (p' := 46) rfl rfl rfl ?_
  refine s_icmp (p' := 51) true rfl (by decide +kernel) rfl ?_
  refine s_incz (p' := 54) (w := (nI 2)) (ls' := [_, _, _]) rfl rfl rfl (by decide +kernel) rfl rfl ?_
  refine s_goto (p' := 10) rfl rfl ?_
  refine s_ildn (p' := 11) rfl rfl rfl ?_
  refine s_bip (p' := 13) rfl rfl ?_
  refine s_icmp (p' := 16) false rfl (by decide +kernel) rfl ?_
  refine s_aldn (p' := 17) rfl rfl rfl ?_
  refine s_gf (p' := 20) rfl (rd_sn rfl (rd_sn rfl (rd_sn rfl (rd_sn rfl (rd_sn rfl (rd_sn rfl (rd_sn rfl (rd_sn rfl (rd_sn rfl H0))))))))) rfl rfl ?_
  refine s_ildn (p' := 21) rfl rfl rfl ?_
  refine c_call (p' := 24) (kc := 97) (ls0 := [_, _, _, _]) rfl rfl rfl rfl rfl (mj_rcv_is (rd_ss rfl (rd_sn rfl (rd_sn rfl (rd_sn rfl (rd_sn rfl (rd_sn rfl (rd_sn rfl (rd_sn rfl (rd_sn rfl H393)))))))))) rfl rfl rfl ?_
  refine s_ildn (p' := 1) rfl rfl rfl ?_
  refine s_istn (p' := 2) (ls' := [_, _, _, _]) rfl rfl rfl rfl ?_
  refine s_con (p' := 3) rfl rfl ?_
  refine s_istn (p' := 4) (ls' := [_, _, _, _]) rfl rfl rfl rfl ?_
  refine s_ildn (p' := 5) rfl rfl rfl ?_
  refine s_aldn (p' := 6) rfl rfl rfl ?_
  refine s_gf (p' := 9) rfl (rd_ss rfl (rd_sn rfl (rd_sn rfl (rd_sn rfl (rd_sn rfl (rd_sn rfl (rd_sn rfl (rd_sn rfl (rd_sn rfl H393))))))))) rfl rfl ?_
  refine s_icmp (p' := 38) true rfl (by decide +kernel) rfl ?_
  refine s_ildn (p' := 39) rfl rfl rfl ?_
  refine c_iret rfl rfl ?_
  refine s_istn (p' := 25) (ls' := [_, _, _]) rfl rfl rfl rfl ?_
  refine s_aldn (p' := 26) rfl rfl rfl ?_
  refine s_gf (p' := 29) rfl (rd_sn rfl (rd_sn rfl (rd_sn rfl (rd_sn rfl (rd_sn rfl (rd_sn rfl (rd_sn rfl (rd_sn rfl (rd_sn rfl H0))))))))) rfl rfl ?_
  refine s_ildn (p' := 30) rfl rfl rfl ?_
  refine c_call (p' := 33) (kc := 97) (ls0 := [_, _, _, _]) rfl rfl rfl rfl rfl (mj_rcv_is (rd_ss rfl (rd_sn rfl (rd_sn rfl (rd_sn rfl (rd_sn rfl (rd_sn rfl (rd_sn rfl (rd_sn rfl (rd_sn rfl H393)))))))))) rfl rfl rfl ?_
  refine s_ildn (p' := 1) rfl rfl rfl ?_
  refine s_istn (p' := 2) (ls' := [_, _, _, _]) rfl rfl rfl rfl ?_
  refine s_aldn (p' := 3) rfl rfl rfl ?_
  refine s_gf (p' := 6) rfl (rd_ss rfl (rd_sn rfl (rd_sn rfl (rd_sn rfl (rd_sn rfl (rd_sn rfl (rd_sn rfl (rd_sn rfl (rd_sn rfl H393))))))))) rfl rfl ?_
  refine s_aldn (p' := 7) rfl rfl rfl ?_
  refine s_gf (p' := 10) rfl (rd_ss rfl (rd_sn rfl (rd_sn rfl (rd_sn rfl (rd_sn rfl (rd_sn rfl (rd_sn rfl (rd_sn rfl (rd_sn rfl H393))))))))) rfl rfl ?_
  refine s_lenz (p' := 11) rfl (mj_rdA_is (rd_sn rfl (rd_sn rfl (rd_sn rfl (rd_sn rfl (rd_sn rfl (rd_sn rfl (rd_sn rfl (rd_sn rfl (rd_sn rfl H394))))))))) (by decide)) rfl rfl ?_
  refine s_primV (p' := 14) (q := 5) rfl rfl rfl rfl rfl rfl (p_min (x := (nI 0)) (y := (nI 24)) (z := (nI 0)) (by decide +kernel)) rfl ?_
  refine s_con (p' := 15) rfl rfl ?_
  refine s_bz (p' := 16) (z := (nI 4294967295)) rfl rfl rfl (by decide +kernel) ?_
  refine s_istn (p' := 17) (ls' := [_, _, _, _]) rfl rfl rfl rfl ?_
  refine s_ildn (p' := 18) rfl rfl rfl ?_
  refine s_if (p' := 38) true rfl (by decide +kernel) rfl ?_
  refine s_ildn (p' := 39) rfl rfl rfl ?_
  refine c_iret rfl rfl ?_
  refine s_ildn (p' := 34) rfl rfl rfl ?_
  refine s_icmp (p' := 37) false rfl (by decide +kernel) rfl ?_
  refine s_aldn (p' := 38) rfl rfl rfl ?_
  refine s_gf (p' := 41) rfl (rd_sn rfl (rd_sn rfl (rd_sn rfl (rd_sn rfl (rd_sn rfl (rd_sn rfl (rd_sn rfl (rd_sn rfl (rd_sn rfl H0))))))))) rfl rfl ?_
  refine s_ildn (p' := 42) rfl rfl rfl ?_
  refine c_call (p' := 45) (kc := 97) (ls0 := [_, _, _, _]) rfl rfl rfl rfl rfl (mj_rcv_is (rd_ss rfl (rd_sn rfl (rd_sn rfl (rd_sn rfl (rd_sn rfl (rd_sn rfl (rd_sn rfl (rd_sn rfl (rd_sn rfl H393)))))))))) rfl rfl rfl ?_
  refine s_ildn (p' := 1) rfl rfl rfl ?_
  refine s_istn (p' := 2) (ls' := [_, _, _, _]) rfl rfl rfl rfl ?_
  refine s_con (p' := 3) rfl rfl ?_
  refine s_istn (p' := 4) (ls' := [_, _, _, _]) rfl rfl rfl rfl ?_
  refine s_ildn (p' := 5) rfl rfl rfl ?_
  refine s_aldn (p' := 6) rfl rfl rfl ?_
  refine s_gf (p' := 9) rfl (rd_ss rfl (rd_sn rfl (rd_sn rfl (rd_sn rfl (rd_sn rfl (rd_sn rfl (rd_sn rfl (rd_sn rfl (rd_sn rfl H393))))))))) rfl rfl ?_
  refine s_icmp (p' := 28) true rfl (by decide +kernel) rfl ?_
  refine s_ildn (p' := 29) rfl rfl rfl ?_
  refine c_iret rfl rfl ?_
  refine s_ildn (p' := 46) rfl rfl rfl ?_
  refine s_icmp (p' := 51) true rfl (by decide +kernel) rfl ?_
  refine s_incz (p' := 54) (w := (nI 3)) (ls' := [_, _, _]) rfl rfl rfl (by decide +kernel) rfl rfl ?_
  refine s_goto (p' := 10) rfl rfl ?_
  refine s_ildn (p' := 11) rfl rfl rfl ?_
  refine s_bip (p' := 13) rfl rfl ?_
  refine s_icmp (p' := 16) false rfl (by decide +kernel) rfl ?_
  refine s_aldn (p' := 17) rfl rfl rfl ?_
  refine s_gf (p' := 20) rfl (rd_sn rfl (rd_sn rfl (rd_sn rfl (rd_sn rfl (rd_sn rfl (rd_sn rfl (rd_sn rfl (rd_sn rfl (rd_sn rfl H0))))))))) rfl rfl ?_
  refine s_ildn (p' := 21) rfl rfl rfl ?_
  refine c_call (p' := 24) (kc := 97) (ls0 := [_, _, _, _]) rfl rfl rfl rfl rfl (mj_rcv_is (rd_ss rfl (rd_sn rfl (rd_sn rfl (rd_sn rfl (rd_sn rfl (rd_sn rfl (rd_sn rfl (rd_sn rfl (rd_sn rfl H393)))))))))) rfl rfl rfl ?_
  refine s_ildn (p' := 1) rfl rfl rfl ?_
  refine s_istn (p' := 2) (ls' := [_, _, _, _]) rfl rfl rfl rfl ?_
  refine s_con (p' := 3) rfl rfl ?_
  refine s_istn (p' := 4) (ls' := [_, _, _, _]) rfl rfl rfl rfl ?_
  refine s_ildn (p' := 5) rfl rfl rfl ?_
  refine s_aldn (p' := 6) rfl rfl rfl ?_
  refine s_gf (p' := 9) rfl (rd_ss rfl (rd_sn rfl (rd_sn rfl (rd_sn rfl (rd_sn rfl (rd_sn rfl (rd_sn rfl (rd_sn rfl (rd_sn rfl H393))))))))) rfl rfl ?_
  refine s_icmp (p' := 38) true rfl (by decide +kernel) rfl ?_
  refine s_ildn (p' := 39) rfl rfl rfl ?_
  refine c_iret rfl rfl ?_
  refine s_istn (p' := 25) (ls' := [_, _, _]) rfl rfl rfl rfl ?_
  refine s_aldn (p' := 26) rfl rfl rfl ?_
  refine s_gf (p' := 29) rfl (rd_sn rfl (rd_sn rfl (rd_sn rfl (rd_sn rfl (rd_sn rfl (rd_sn rfl (rd_sn rfl (rd_sn rfl (rd_sn rfl H0))))))))) rfl rfl ?_
  refine s_ildn (p' := 30) rfl rfl rfl ?_
  refine c_call (p' := 33) (kc := 97) (ls0 := [_, _, _, _]) rfl rfl rfl rfl rfl (mj_rcv_is (rd_ss rfl (rd_sn rfl (rd_sn rfl (rd_sn rfl (rd_sn rfl (rd_sn rfl (rd_sn rfl (rd_sn rfl (rd_sn rfl H393)))))))))) rfl rfl rfl ?_
  refine s_ildn (p' := 1) rfl rfl rfl ?_
  refine s_istn (p' := 2) (ls' := [_, _, _, _]) rfl rfl rfl rfl ?_
  refine s_aldn (p' := 3) rfl rfl rfl ?_
  refine s_gf (p' := 6) rfl (rd_ss rfl (rd_sn rfl (rd_sn rfl (rd_sn rfl (rd_sn rfl (rd_sn rfl (rd_sn rfl (rd_sn rfl (rd_sn rfl H393))))))))) rfl rfl ?_
  refine s_aldn (p' := 7) rfl rfl rfl ?_
  refine s_gf (p' := 10) rfl (rd_ss rfl (rd_sn rfl (rd_sn rfl (rd_sn rfl (rd_sn rfl (rd_sn rfl (rd_sn rfl (rd_sn rfl (rd_sn rfl H393))))))))) rfl rfl ?_
  refine s_lenz (p' := 11) rfl (mj_rdA_is (rd_sn rfl (rd_sn rfl (rd_sn rfl (rd_sn rfl (rd_sn rfl (rd_sn rfl (rd_sn rfl (rd_sn rfl (rd_sn rfl H394))))))))) (by decide)) rfl rfl ?_
  refine s_primV (p' := 14) (q := 5) rfl rfl rfl rfl rfl rfl (p_min (x := (nI 0)) (y := (nI 24)) (z := (nI 0)) (by decide +kernel)) rfl ?_
  refine s_con (p' := 15) rfl rfl ?_
  refine s_bz (p' := 16) (z := (nI 4294967295)) rfl rfl rfl (by decide +kernel) ?_
  refine s_istn (p' := 17) (ls' := [_, _, _, _]) rfl rfl rfl rfl ?_
  refine s_ildn (p' := 18) rfl rfl rfl ?_
  refine s_if (p' := 38) true rfl (by decide +kernel) rfl ?_
  refine s_ildn (p' := 39) rfl rfl rfl ?_
  refine c_iret rfl rfl ?_
  refine s_ildn (p' := 34) rfl rfl rfl ?_
  refine s_icmp (p' := 37) false rfl (by decide +kernel) rfl ?_
  refine s_aldn (p' := 38) rfl rfl rfl ?_
  refine s_gf (p' := 41) rfl (rd_sn rfl (rd_sn rfl (rd_sn rfl (rd_sn rfl (rd_sn rfl (rd_sn rfl (rd_sn rfl (rd_sn rfl (rd_sn rfl H0))))))))) rfl rfl ?_
  refine s_ildn (p' := 42) rfl rfl rfl ?_
  refine c_call (p' := 45) (kc := 97) (ls0 := [_, _, _, _]) rfl rfl rfl rfl rfl (mj_rcv_is (rd_ss rfl (rd_sn rfl (rd_sn rfl (rd_sn rfl (rd_sn rfl (rd_sn rfl (rd_sn rfl (rd_sn rfl (rd_sn rfl H393)))))))))) rfl rfl rfl ?_
  refine s_ildn (p' := 1) rfl rfl rfl ?_
  refine s_istn (p' := 2) (ls' := [_, _, _, _]) rfl rfl rfl rfl ?_
  refine s_con (p' := 3) rfl rfl ?_
  refine s_istn (p' := 4) (ls' := [_, _, _, _]) rfl rfl rfl rfl ?_
  refine s_ildn (p' := 5) rfl rfl rfl ?_
  refine s_aldn (p' := 6) rfl rfl rfl ?_
  refine s_gf (p' := 9) rfl (rd_ss rfl (rd_sn rfl (rd_sn rfl (rd_sn rfl (rd_sn rfl (rd_sn rfl (rd_sn rfl (rd_sn rfl (rd_sn rfl H393))))))))) rfl rfl ?_
  refine s_icmp (p' := 28) true rfl (by decide +kernel) rfl ?_
  refine s_ildn (p' := 29) rfl rfl rfl ?_
  refine c_iret rfl rfl ?_
  refine s_ildn (p' := 46) rfl rfl rfl ?_
  refine s_icmp (p' := 51) true rfl (by decide +kernel) rfl ?_
  refine s_incz (p' := 54) (w := (nI 4)) (ls' := [_, _, _]) rfl rfl rfl (by decide +kernel) rfl rfl ?_
  refine s_goto (p' := 10) rfl rfl ?_
  refine s_ildn (p' := 11) rfl rfl rfl ?_
  refine s_bip (p' := 13) rfl rfl ?_
  refine s_icmp (p' := 16) false rfl (by decide +kernel) rfl ?_
  refine s_aldn (p' := 17) rfl rfl rfl ?_
  refine s_gf (p' := 20) rfl (rd_sn rfl (rd_sn rfl (rd_sn rfl (rd_sn rfl (rd_sn rfl (rd_sn rfl (rd_sn rfl (rd_sn rfl (rd_sn rfl H0))))))))) rfl rfl ?_
  refine s_ildn (p' := 21) rfl rfl rfl ?_
  refine c_call (p' := 24) (kc := 97) (ls0 := [_, _, _, _]) rfl rfl rfl rfl rfl (mj_rcv_is (rd_ss rfl (rd_sn rfl (rd_sn rfl (rd_sn rfl (rd_sn rfl (rd_sn rfl (rd_sn rfl (rd_sn rfl (rd_sn rfl H393)))))))))) rfl rfl rfl ?_
  refine s_ildn (p' := 1) rfl rfl rfl ?_
  refine s_istn (p' := 2) (ls' := [_, _, _, _]) rfl rfl rfl rfl ?_
  refine s_con (p' := 3) rfl rfl ?_
  refine s_istn (p' := 4) (ls' := [_, _, _, _]) rfl rfl rfl rfl ?_
  refine s_ildn (p' := 5) rfl rfl rfl ?_
  refine s_aldn (p' := 6) rfl rfl rfl ?_
  refine s_gf (p' := 9) rfl (rd_ss rfl (rd_sn rfl (rd_sn rfl (rd_sn rfl (rd_sn rfl (rd_sn rfl (rd_sn rfl (rd_sn rfl (rd_sn rfl H393))))))))) rfl rfl ?_
  refine s_icmp (p' := 38) true rfl (by decide +kernel) rfl ?_
  refine s_ildn (p' := 39) rfl rfl rfl ?_
  refine c_iret rfl rfl ?_
  refine s_istn (p' := 25) (ls' := [_, _, _]) rfl rfl rfl rfl ?_
  refine s_aldn (p' := 26) rfl rfl rfl ?_
  refine s_gf (p' := 29) rfl (rd_sn rfl (rd_sn rfl (rd_sn rfl (rd_sn rfl (rd_sn rfl (rd_sn rfl (rd_sn rfl (rd_sn rfl (rd_sn rfl H0))))))))) rfl rfl ?_
  refine s_ildn (p' := 30) rfl rfl rfl ?_
  refine c_call (p' := 33) (kc := 97) (ls0 := [_, _, _, _]) rfl rfl rfl rfl rfl (mj_rcv_is (rd_ss rfl (rd_sn rfl (rd_sn rfl (rd_sn rfl (rd_sn rfl (rd_sn rfl (rd_sn rfl (rd_sn rfl (rd_sn rfl H393)))))))))) rfl rfl rfl ?_
  refine s_ildn (p' := 1) rfl rfl rfl ?_
  refine s_istn (p' := 2) (ls' := [_, _, _, _]) rfl rfl rfl rfl ?_
  refine s_aldn (p' := 3) rfl rfl rfl ?_
  refine s_gf (p' := 6) rfl (rd_ss rfl (rd_sn rfl (rd_sn rfl (rd_sn rfl (rd_sn rfl (rd_sn rfl (rd_sn rfl (rd_sn rfl (rd_sn rfl H393))))))))) rfl rfl ?_
  refine s_aldn (p' := 7) rfl rfl rfl ?_
  refine s_gf (p' := 10) rfl (rd_ss rfl (rd_sn rfl (rd_sn rfl (rd_sn rfl (rd_sn rfl (rd_sn rfl (rd_sn rfl (rd_sn rfl (rd_sn rfl H393))))))))) rfl rfl ?_
  refine s_lenz (p' := 11) rfl (mj_rdA_is (rd_sn rfl (rd_sn rfl (rd_sn rfl (rd_sn rfl (rd_sn rfl (rd_sn rfl (rd_sn rfl (rd_sn rfl (rd_sn rfl H394))))))))) (by decide)) rfl rfl ?_
  refine s_primV (p' := 14) (q := 5) rfl rfl rfl rfl rfl rfl (p_min (x := (nI 0)) (y := (nI 24)) (z := (nI 0)) (by decide +kernel)) rfl ?_
  refine s_con (p' := 15) rfl rfl ?_
  refine s_bz (p' := 16) (z := (nI 4294967295)) rfl rfl rfl (by decide +kernel) ?_
  refine s_istn (p' := 17) (ls' := [_, _, _, _]) rfl rfl rfl rfl ?_
  refine s_ildn (p' := 18) rfl rfl rfl ?_
  refine s_if (p' := 38) true rfl (by decide +kernel) rfl ?_
  refine s_ildn (p' := 39) rfl rfl rfl ?_
  refine c_iret rfl rfl ?_
  refine s_ildn (p' := 34) rfl rfl rfl ?_
  refine s_icmp (p' := 37) false rfl (by decide +kernel) rfl ?_
  refine s_aldn (p' := 38) rfl rfl rfl ?_
  refine s_gf (p' := 41) rfl (rd_sn rfl (rd_sn rfl (rd_sn rfl (rd_sn rfl (rd_sn rfl (rd_sn rfl (rd_sn rfl (rd_sn rfl (rd_sn rfl H0))))))))) rfl rfl ?_
  refine s_ildn (p' := 42) rfl rfl rfl ?_
  refine c_call (p' := 45) (kc := 97) (ls0 := [_, _, _, _]) rfl rfl rfl rfl rfl (mj_rcv_is (rd_ss rfl (rd_sn rfl (rd_sn rfl (rd_sn rfl (rd_sn rfl (rd_sn rfl (rd_sn rfl (rd_sn rfl (rd_sn rfl H393)))))))))) rfl rfl rfl ?_
  refine s_ildn (p' := 1) rfl rfl rfl ?_
  refine s_istn (p' := 2) (ls' := [_, _, _, _]) rfl rfl rfl rfl ?_
  refine s_con (p' := 3) rfl rfl ?_
  refine s_istn (p' := 4) (ls' := [_, _, _, _]) rfl rfl rfl rfl ?_
  refine s_ildn (p' := 5) rfl rfl rfl ?_
  refine s_aldn (p' := 6) rfl rfl rfl ?_
  refine s_gf (p' := 9) rfl (rd_ss rfl (rd_sn rfl (rd_sn rfl (rd_sn rfl (rd_sn rfl (rd_sn rfl (rd_sn rfl (rd_sn rfl (rd_sn rfl H393))))))))) rfl rfl ?_
  refine s_icmp (p' := 28) true rfl (by decide +kernel) rfl ?_
  refine s_ildn (p' := 29) rfl rfl rfl ?_
  refine c_iret rfl rfl ?_
  refine s_ildn (p' := 46) rfl rfl rfl ?_
  refine s_icmp (p' := 51) true rfl (by decide +kernel) rfl ?_
  refine s_incz (p' := 54) (w := (nI 5)) (ls' := [_, _, _]) rfl rfl rfl (by decide +kernel) rfl rfl ?_
  refine s_goto (p' := 10) rfl rfl ?_
  refine s_ildn (p' := 11) rfl rfl rfl ?_
  refine s_bip (p' := 13) rfl rfl ?_
  refine s_icmp (p' := 16) false rfl (by decide +kernel) rfl ?_
  refine s_aldn (p' := 17) rfl rfl rfl ?_
  refine s_gf (p' := 20) rfl (rd_sn rfl (rd_sn rfl (rd_sn rfl (rd_sn rfl (rd_sn rfl (rd_sn rfl (rd_sn rfl (rd_sn rfl (rd_sn rfl H0))))))))) rfl rfl ?_
  refine s_ildn (p' := 21) rfl rfl rfl ?_
  refine c_call (p' := 24) (kc := 97) (ls0 := [_, _, _, _]) rfl rfl rfl rfl rfl (mj_rcv_is (rd_ss rfl (rd_sn rfl (rd_sn rfl (rd_sn rfl (rd_sn rfl (rd_sn rfl (rd_sn rfl (rd_sn rfl (rd_sn rfl H393)))))))))) rfl rfl rfl ?_
  refine s_ildn (p' := 1) rfl rfl rfl ?_
  refine s_istn (p' := 2) (ls' := [_, _, _, _]) rfl rfl rfl rfl ?_
  refine s_con (p' := 3) rfl rfl ?_
  refine s_istn (p' := 4) (ls' := [_, _, _, _]) rfl rfl rfl rfl ?_
  refine s_ildn (p' := 5) rfl rfl rfl ?_
  refine s_aldn (p' := 6) rfl rfl rfl ?_
  refine s_gf (p' := 9) rfl (rd_ss rfl (rd_sn rfl (rd_sn rfl (rd_sn rfl (rd_sn rfl (rd_sn rfl (rd_sn rfl (rd_sn rfl (rd_sn rfl H393))))))))) rfl rfl ?_
  refine s_icmp (p' := 38) true rfl (by decide +kernel) rfl ?_
  refine s_ildn (p' := 39) rfl rfl rfl ?_
  refine c_iret rfl rfl ?_
  refine s_istn (p' := 25) (ls' := [_, _, _]) rfl rfl rfl rfl ?_
  refine s_aldn (p' := 26) rfl rfl rfl ?_
  refine s_gf (p' := 29) rfl (rd_sn rfl (rd_sn rfl (rd_sn rfl (rd_sn rfl (rd_sn rfl (rd_sn rfl (rd_sn rfl (rd_sn rfl (rd_sn rfl H0))))))))) rfl rfl ?_
  refine s_ildn (p' := 30) rfl rfl rfl ?_
  refine c_call (p' := 33) (kc := 97) (ls0 := [_, _, _, _]) rfl rfl rfl rfl rfl (mj_rcv_is (rd_ss rfl (rd_sn rfl (rd_sn rfl (rd_sn rfl (rd_sn rfl (rd_sn rfl (rd_sn rfl (rd_sn rfl (rd_sn rfl H393)))))))))) rfl rfl rfl ?_
  refine s_ildn (p' := 1) rfl rfl rfl ?_
  refine s_istn (p' := 2) (ls' := [_, _, _, _]) rfl rfl rfl rfl ?_
  refine s_aldn (p' := 3) rfl rfl rfl ?_
  refine s_gf (p' := 6) rfl (rd_ss rfl (rd_sn rfl (rd_sn rfl (rd_sn rfl (rd_sn rfl (rd_sn rfl (rd_sn rfl (rd_sn rfl (rd_sn rfl H393))))))))) rfl rfl ?_
  refine s_aldn (p' := 7) rfl rfl rfl ?_
  refine s_gf (p' := 10) rfl (rd_ss rfl (rd_sn rfl (rd_sn rfl (rd_sn rfl (rd_sn rfl (rd_sn rfl (rd_sn rfl (rd_sn rfl (rd_sn rfl H393))))))))) rfl rfl ?_
  refine s_lenz (p' := 11) rfl (mj_rdA_is (rd_sn rfl (rd_sn rfl (rd_sn rfl (rd_sn rfl (rd_sn rfl (rd_sn rfl (rd_sn rfl (rd_sn rfl (rd_sn rfl H394))))))))) (by decide)) rfl rfl ?_
  refine s_primV (p' := 14) (q := 5) rfl rfl rfl rfl rfl rfl (p_min (x := (nI 0)) (y := (nI 24)) (z := (nI 0)) (by decide +kernel)) rfl ?_
  refine s_con (p' := 15) rfl rfl ?_
  refine s_bz (p' := 16) (z := (nI 4294967295)) rfl rfl rfl (by decide +kernel) ?_
  refine s_istn (p' := 17) (ls' := [_, _, _, _]) rfl rfl rfl rfl ?_
  refine s_ildn (p' := 18) rfl rfl rfl ?_
  refine s_if (p' := 38) true rfl (by decide +kernel) rfl ?_
  refine s_ildn (p' := 39) rfl rfl rfl ?_
  refine c_iret rfl rfl ?_
  refine s_ildn (p' := 34) rfl rfl rfl ?_
  refine s_icmp (p' := 37) false rfl (by decide +kernel) rfl ?_
  refine s_aldn (p' := 38) rfl rfl rfl ?_
  refine s_gf (p' := 41) rfl (rd_sn rfl (rd_sn rfl (rd_sn rfl (rd_sn rfl (rd_sn rfl (rd_sn rfl (rd_sn rfl (rd_sn rfl (rd_sn rfl H0))))))))) rfl rfl ?_
  refine s_ildn (p' := 42) rfl rfl rfl ?_
  refine c_call (p' := 45) (kc := 97) (ls0 := [_, _, _, _]) rfl rfl rfl rfl rfl (mj_rcv_is (rd_ss rfl (rd_sn rfl (rd_sn rfl (rd_sn rfl (rd_sn rfl (rd_sn rfl (rd_sn rfl (rd_sn rfl (rd_sn rfl H393)))))))))) rfl rfl rfl ?_
  refine s_ildn (p' := 1) rfl rfl rfl ?_
  refine s_istn (p' := 2) (ls' := [_, _, _, _]) rfl rfl rfl rfl ?_
  refine s_con (p' := 3) rfl rfl ?_
  refine s_istn (p' := 4) (ls' := [_, _, _, _]) rfl rfl rfl rfl ?_
  refine s_ildn (p' := 5) rfl rfl rfl ?_
  refine s_aldn (p' := 6) rfl rfl rfl ?_
  refine s_gf (p' := 9) rfl (rd_ss rfl (rd_sn rfl (rd_sn rfl (rd_sn rfl (rd_sn rfl (rd_sn rfl (rd_sn rfl (rd_sn rfl (rd_sn rfl H393))))))))) rfl rfl ?_
  refine s_icmp (p' := 28) true rfl (by decide +kernel) rfl ?_
  refine s_ildn (p' := 29) rfl rfl rfl ?_
  refine c_iret rfl rfl ?_
  refine s_ildn (p' := 46) rfl rfl rfl ?_
  refine s_icmp (p' := 51) true rfl (by decide +kernel) rfl ?_
  refine s_incz (p' := 54) (w := (nI 6)) (ls' := [_, _, _]) rfl rfl rfl (by decide +kernel) rfl rfl ?_
  refine s_goto (p' := 10) rfl rfl ?_
  refine s_ildn (p' := 11) rfl rfl rfl ?_
  refine s_bip (p' := 13) rfl rfl ?_
  refine s_icmp (p' := 16) false rfl (by decide +kernel) rfl ?_
  refine s_aldn (p' := 17) rfl rfl rfl ?_
  refine s_gf (p' := 20) rfl (rd_sn rfl (rd_sn rfl (rd_sn rfl (rd_sn rfl (rd_sn rfl (rd_sn rfl (rd_sn rfl (rd_sn rfl (rd_sn rfl H0))))))))) rfl rfl ?_
  refine s_ildn (p' := 21) rfl rfl rfl ?_
  refine c_call (p' := 24) (kc := 97) (ls0 := [_, _, _, _]) rfl rfl rfl rfl rfl (mj_rcv_is (rd_ss rfl (rd_sn rfl (rd_sn rfl (rd_sn rfl (rd_sn rfl (rd_sn rfl (rd_sn rfl (rd_sn rfl (rd_sn rfl H393)))))))))) rfl rfl rfl ?_
  refine s_ildn (p' := 1) rfl rfl rfl ?_
  refine s_istn (p' := 2) (ls' := [_, _, _, _]) rfl rfl rfl rfl ?_
  refine s_con (p' := 3) rfl rfl ?_
  refine s_istn (p' := 4) (ls' := [_, _, _, _]) rfl rfl rfl rfl ?_
  refine s_ildn (p' := 5) rfl rfl rfl ?_
  refine s_aldn (p' := 6) rfl rfl rfl ?_
  refine s_gf (p' := 9) rfl (rd_ss rfl (rd_sn rfl (rd_sn rfl (rd_sn rfl (rd_sn rfl (rd_sn rfl (rd_sn rfl (rd_sn rfl (rd_sn rfl H393))))))))) rfl rfl ?_
  refine s_icmp (p' := 38) true rfl (by decide +kernel) rfl ?_
  refine s_ildn (p' := 39) rfl rfl rfl ?_
  refine c_iret rfl rfl ?_
  refine s_istn (p' := 25) (ls' := [_, _, _]) rfl rfl rfl rfl ?_
  refine s_aldn (p' := 26) rfl rfl rfl ?_
  refine s_gf (p' := 29) rfl (rd_sn rfl (rd_sn rfl (rd_sn rfl (rd_sn rfl (rd_sn rfl (rd_sn rfl (rd_sn rfl (rd_sn rfl (rd_sn rfl H0))))))))) rfl rfl ?_
  refine s_ildn (p' := 30) rfl rfl rfl ?_
  refine c_call (p' := 33) (kc := 97) (ls0 := [_, _, _, _]) rfl rfl rfl rfl rfl (mj_rcv_is (rd_ss rfl (rd_sn rfl (rd_sn rfl (rd_sn rfl (rd_sn rfl (rd_sn rfl (rd_sn rfl (rd_sn rfl (rd_sn rfl H393)))))))))) rfl rfl rfl ?_
  refine s_ildn (p' := 1) rfl rfl rfl ?_
  refine s_istn (p' := 2) (ls' := [_, _, _, _]) rfl rfl rfl rfl ?_
  refine s_aldn (p' := 3) rfl rfl rfl ?_
  refine s_gf (p' := 6) rfl (rd_ss rfl (rd_sn rfl (rd_sn rfl (rd_sn rfl (rd_sn rfl (rd_sn rfl (rd_sn rfl (rd_sn rfl (rd_sn rfl H393))))))))) rfl rfl ?_
  refine s_aldn (p' := 7) rfl rfl rfl ?_
  refine s_gf (p' := 10) rfl (rd_ss rfl (rd_sn rfl (rd_sn rfl (rd_sn rfl (rd_sn rfl (rd_sn rfl (rd_sn rfl (rd_sn rfl (rd_sn rfl H393))))))))) rfl rfl ?_
  refine s_lenz (p' := 11) rfl (mj_rdA_is (rd_sn rfl (rd_sn rfl (rd_sn rfl (rd_sn rfl (rd_sn rfl (rd_sn rfl (rd_sn rfl (rd_sn rfl (rd_sn rfl H394))))))))) (by decide)) rfl rfl ?_
  refine s_primV (p' := 14) (q := 5) rfl rfl rfl rfl rfl rfl (p_min (x := (nI 0)) (y := (nI 24)) (z := (nI 0)) (by decide +kernel)) rfl ?_
  refine s_con (p' := 15) rfl rfl ?_
  refine s_bz (p' := 16) (z := (nI 4294967295)) rfl rfl rfl (by decide +kernel) ?_
  refine s_istn (p' := 17) (ls' := [_, _, _, _]) rfl rfl rfl rfl ?_
  refine s_ildn (p' := 18) rfl rfl rfl ?_
  refine s_if (p' := 38) true rfl (by decide +kernel) rfl ?_
  refine s_ildn (p' := 39) rfl rfl rfl ?_
  refine c_iret rfl rfl ?_
  refine s_ildn (p' := 34) rfl rfl rfl ?_
  refine s_icmp (p' := 37) false rfl (by decide +kernel) rfl ?_
  refine s_aldn (p' := 38) rfl rfl rfl ?_
  refine s_gf (p' := 41) rfl (rd_sn rfl (rd_sn rfl (rd_sn rfl (rd_sn rfl (rd_sn rfl (rd_sn rfl (rd_sn rfl (rd_sn rfl (rd_sn rfl H0))))))))) rfl rfl ?_
  refine s_ildn (p' := 42) rfl rfl rfl ?_
  refine c_call (p' := 45) (kc := 97) (ls0 := [_, _, _, _]) rfl rfl rfl rfl rfl (mj_rcv_is (rd_ss rfl (rd_sn rfl (rd_sn rfl (rd_sn rfl (rd_sn rfl (rd_sn rfl (rd_sn rfl (rd_sn rfl (rd_sn rfl H393)))))))))) rfl rfl rfl ?_
  refine s_ildn (p' := 1) rfl rfl rfl ?_
  refine s_istn (p' := 2) (ls' := [_, _, _, _]) rfl rfl rfl rfl ?_
  refine s_con (p' := 3) rfl rfl ?_
  refine s_istn (p' := 4) (ls' := [_, _, _, _]) rfl rfl rfl rfl ?_
  refine s_ildn (p' := 5) rfl rfl rfl ?_
  refine s_aldn (p' := 6) rfl rfl rfl ?_
  refine s_gf (p' := 9) rfl (rd_ss rfl (rd_sn rfl (rd_sn rfl (rd_sn rfl (rd_sn rfl (rd_sn rfl (rd_sn rfl (rd_sn rfl (rd_sn rfl H393))))))))) rfl rfl ?_
  refine s_icmp (p' := 28) true rfl (by decide +kernel) rfl ?_
  refine s_ildn (p' := 29) rfl rfl rfl ?_
  refine c_iret rfl rfl ?_
  refine s_ildn (p' := 46) rfl rfl rfl ?_
  refine s_icmp (p' := 51) true rfl (by decide +kernel) rfl ?_
  refine s_incz (p' := 54) (w := (nI 7)) (ls' := [_, _, _]) rfl rfl rfl (by decide +kernel) rfl rfl ?_
  refine s_goto (p' := 10) rfl rfl ?_
  refine s_ildn (p' := 11) rfl rfl rfl ?_
  refine s_bip (p' := 13) rfl rfl ?_
  refine s_icmp (p' := 16) false rfl (by decide +kernel) rfl ?_
  refine s_aldn (p' := 17) rfl rfl rfl ?_
  refine s_gf (p' := 20) rfl (rd_sn rfl (rd_sn rfl (rd_sn rfl (rd_sn rfl (rd_sn rfl (rd_sn rfl (rd_sn rfl (rd_sn rfl (rd_sn rfl H0))))))))) rfl rfl ?_
  refine s_ildn (p' := 21) rfl rfl rfl ?_
  refine c_call (p' := 24) (kc := 97) (ls0 := [_, _, _, _]) rfl rfl rfl rfl rfl (mj_rcv_is (rd_ss rfl (rd_sn rfl (rd_sn rfl (rd_sn rfl (rd_sn rfl (rd_sn rfl (rd_sn rfl (rd_sn rfl (rd_sn rfl H393)))))))))) rfl rfl rfl ?_
  refine s_ildn (p' := 1) rfl rfl rfl ?_
  refine s_istn (p' := 2) (ls' := [_, _, _, _]) rfl rfl rfl rfl ?_
  refine s_con (p' := 3) rfl rfl ?_
  refine s_istn (p' := 4) (ls' := [_, _, _, _]) rfl rfl rfl rfl ?_
  refine s_ildn (p' := 5) rfl rfl rfl ?_
  refine s_aldn (p' := 6) rfl rfl rfl ?_
  refine s_gf (p' := 9) rfl (rd_ss rfl (rd_sn rfl (rd_sn rfl (rd_sn rfl (rd_sn rfl (rd_sn rfl (rd_sn rfl (rd_sn rfl (rd_sn rfl H393))))))))) rfl rfl ?_
  refine s_icmp (p' := 38) true rfl (by decide +kernel) rfl ?_
  refine s_ildn (p' := 39) rfl rfl rfl ?_
  refine c_iret rfl rfl ?_
  refine s_istn (p' := 25) (ls' := [_, _, _]) rfl rfl rfl rfl ?_
  refine s_aldn (p' := 26) rfl rfl rfl ?_
  refine s_gf (p' := 29) rfl (rd_sn rfl (rd_sn rfl (rd_sn rfl (rd_sn rfl (rd_sn rfl (rd_sn rfl (rd_sn rfl (rd_sn rfl (rd_sn rfl H0))))))))) rfl rfl ?_
  refine s_ildn (p' := 30) rfl rfl rfl ?_
  refine c_call (p' := 33) (kc := 97) (ls0 := [_, _, _, _]) rfl rfl rfl rfl rfl (mj_rcv_is (rd_ss rfl (rd_sn rfl (rd_sn rfl (rd_sn rfl (rd_sn rfl (rd_sn rfl (rd_sn rfl (rd_sn rfl (rd_sn rfl H393)))))))))) rfl rfl rfl ?_
  refine s_ildn (p' := 1) rfl rfl rfl ?_
  refine s_istn (p' := 2) (ls' := [_, _, _, _]) rfl rfl rfl rfl ?_
  refine s_aldn (p' := 3) rfl rfl rfl ?_
  refine s_gf (p' := 6) rfl (rd_ss rfl (rd_sn rfl (rd_sn rfl (rd_sn rfl (rd_sn rfl (rd_sn rfl (rd_sn rfl (rd_sn rfl (rd_sn rfl H393))))))))) rfl rfl ?_
  refine s_aldn (p' := 7) rfl rfl rfl ?_
  refine s_gf (p' := 10) rfl (rd_ss rfl (rd_sn rfl (rd_sn rfl (rd_sn rfl (rd_sn rfl (rd_sn rfl (rd_sn rfl (rd_sn rfl (rd_sn rfl H393))))))))) rfl rfl ?_
  refine s_lenz (p' := 11) rfl (mj_rdA_is (rd_sn rfl (rd_sn rfl (rd_sn rfl (rd_sn rfl (rd_sn rfl (rd_sn rfl (rd_sn rfl (rd_sn rfl (rd_sn rfl H394))))))))) (by decide)) rfl rfl ?_
  refine s_primV (p' := 14) (q := 5) rfl rfl rfl rfl rfl rfl (p_min (x := (nI 0)) (y := (nI 24)) (z := (nI 0)) (by decide +kernel)) rfl ?_
  refine s_con (p' := 15) rfl rfl ?_
  refine s_bz (p' := 16) (z := (nI 4294967295)) rfl rfl rfl (by decide +kernel) ?_
  refine s_istn (p' := 17) (ls' := [_, _, _, _]) rfl rfl rfl rfl ?_
  refine s_ildn (p' := 18) rfl rfl rfl ?_
  refine s_if (p' := 38) true rfl (by decide +kernel) rfl ?_
  refine s_ildn (p' := 39) rfl rfl rfl ?_
  refine c_iret rfl rfl ?_
  refine s_ildn (p' := 34) rfl rfl rfl ?_
  refine s_icmp (p' := 37) false rfl (by decide +kernel) rfl ?_
  refine s_aldn (p' := 38) rfl rfl rfl ?_
  refine s_gf (p' := 41) rfl (rd_sn rfl (rd_sn rfl (rd_sn rfl (rd_sn rfl (rd_sn rfl (rd_sn rfl (rd_sn rfl (rd_sn rfl (rd_sn rfl H0))))))))) rfl rfl ?_
  refine s_ildn (p' := 42) rfl rfl rfl ?_
  refine c_call (p' := 45) (kc := 97) (ls0 := [_, _, _, _]) rfl rfl rfl rfl rfl (mj_rcv_is (rd_ss rfl (rd_sn rfl (rd_sn rfl (rd_sn rfl (rd_sn rfl (rd_sn rfl (rd_sn rfl (rd_sn rfl (rd_sn rfl H393)))))))))) rfl rfl rfl ?_
  refine s_ildn (p' := 1) rfl rfl rfl ?_
  refine s_istn (p' := 2) (ls' := [_, _, _, _]) rfl rfl rfl rfl ?_
  refine s_con (p' := 3) rfl rfl ?_
  refine s_istn (p' := 4) (ls' := [_, _, _, _]) rfl rfl rfl rfl ?_
  refine s_ildn (p' := 5) rfl rfl rfl ?_
  refine s_aldn (p' := 6) rfl rfl rfl ?_
  refine s_gf (p' := 9) rfl (rd_ss rfl (rd_sn rfl (rd_sn rfl (rd_sn rfl (rd_sn rfl (rd_sn rfl (rd_sn rfl (rd_sn rfl (rd_sn rfl H393))))))))) rfl rfl ?_
  refine s_icmp (p' := 28) true rfl (by decide +kernel) rfl ?_
  refine s_ildn (p' := 29) rfl rfl rfl ?_
  refine c_iret rfl rfl ?_
  refine s_ildn (p' := 46) rfl rfl rfl ?_
  refine s_icmp (p' := 51) true rfl (by decide +kernel) rfl ?_
  refine s_incz (p' := 54) (w := (nI 8)) (ls' := [_, _, _]) rfl rfl rfl (by decide +kernel) rfl rfl ?_
  refine s_goto (p' := 10) rfl rfl ?_
  refine s_ildn (p' := 11) rfl rfl rfl ?_
  refine s_bip (p' := 13) rfl rfl ?_
  refine s_icmp (p' := 57) true rfl (by decide +kernel) rfl ?_
  refine s_con (p' := 58) rfl rfl ?_
  refine c_iret rfl (by decide +kernel) ?_
  refine k_iret rfl (by decide +kernel) ?_
  refine l_aldn (p' := 2533) rfl rfl rfl rfl ?_
  refine l_call (p' := 2536) (kc := 99) (ls0 := [_]) rfl rfl rfl rfl rfl rfl (mj_rcv_is (rd_sn rfl (rd_sn rfl (rd_sn rfl (rd_sn rfl (rd_sn rfl (rd_sn rfl (rd_sn rfl (rd_sn rfl (rd_sn rfl H400)))))))))) rfl rfl rfl ?_
  refine s_aldn (p' := 1) rfl rfl rfl ?_
  refine s_con (p' := 2) rfl rfl ?_
  refine s_pfz (p' := 5) (fs' := [_, _, _, _, _, _, _, _, _, _, _]) rfl rfl (rd_sn rfl (rd_sn rfl (rd_sn rfl (rd_sn rfl (rd_sn rfl (rd_sn rfl (rd_sn rfl (rd_sn rfl (rd_sn rfl H400))))))))) rfl rfl rfl rfl ?_
  refine s_con (p' := 6) rfl rfl ?_
  refine k_iret rfl (by decide +kernel) ?_
  refine l_icmp (p' := 2541) true rfl rfl (by decide +kernel) rfl ?_
  refine l_incz (p' := 2544) (w := (nI 4)) (ls' := [_, _, _, _, _, _, _, _, _, _]) rfl rfl rfl rfl (by decide +kernel) rfl rfl ?_
  refine l_goto (p' := 28) rfl rfl rfl ?_
  refine l_ild (p' := 30) rfl rfl rfl rfl ?_
  refine l_alds (p' := 31) rfl rfl rfl rfl ?_
  refine l_lens (p' := 32) rfl rfl rfl ?_
  refine l_con (p' := 33) rfl rfl rfl ?_
  refine l_bz (p' := 34) (z := (nI 0)) rfl rfl rfl rfl rfl (by decide +kernel) ?_
  refine l_icmp (p' := 2547) true rfl rfl (by decide +kernel) rfl ?_
  refine l_con (p' := 2548) rfl rfl rfl ?_
  refine l_end rfl rfl ?_
  exact ⟨Nat.le_trans (Nat.le_of_eq (len_s (len_s (len_s (len_s (len_s (len_s (len_s (len_s (len_s (len_s HL))))))))))) (Nat.le_of_ble_eq_true rfl), Nat.le_trans (sz_s rfl (rd_sn rfl (rd_sn rfl (rd_sn rfl (rd_sn rfl (rd_sn rfl (rd_sn rfl (rd_sn rfl (rd_sn rfl (rd_sn rfl H400))))))))) rfl (sz_s rfl (rd_sn rfl (rd_sn rfl (rd_sn rfl (rd_sn rfl (rd_sn rfl (rd_sn rfl (rd_sn rfl (rd_sn rfl H393)))))))) rfl (sz_sA rfl (rd_ss rfl (rd_ss rfl (rd_ss rfl (rd_ss rfl (rd_ss rfl (rd_ss rfl (rd_ss rfl H395))))))) (sz_sA rfl (rd_ss rfl (rd_ss rfl (rd_ss rfl (rd_ss rfl (rd_ss rfl (rd_ss rfl H395)))))) (sz_sA rfl (rd_ss rfl (rd_ss rfl (rd_ss rfl (rd_ss rfl (rd_ss rfl H395))))) (sz_sA rfl (rd_ss rfl (rd_ss rfl (rd_ss rfl (rd_ss rfl H395)))) (sz_sA rfl (rd_ss rfl (rd_ss rfl (rd_ss rfl H395))) (sz_sA rfl (rd_ss rfl (rd_ss rfl H395)) (sz_sA rfl (rd_ss rfl H395) (sz_sA rfl H395 HZ)))))))))) (Nat.le_of_ble_eq_true rfl)⟩
theorem p1_5_n {xs : Nat → Int32} {h : mj_H} (hk : xs 0 &&& nI 63 = nI 5) {p : Int32} (hx1 : xs 1 = p) (hp : p.toInt < 0) (HL : h.length = 414) (HZ : mj_sz h ≤ 20000) (H0 : mj_rd h 0 = some (.inr (0, [.ref 1, .ref 38, .ref 299, .ref 336, .ref 373, .ref 375, .ref 378, .ref 381, .ref 387, .ref 393, .null, .null, .ref 397, .ref 398, .ref 399, .long (lN 0), .long (lN 0)]))) (H38 : mj_rd h 38 = some (.inr (6, [.ref 39, .ref 40, .int (nI 0)]))) (H400 : mj_rd h 400 = some (.inr (17, [.int (nI 0), .ref 401, .ref 402, .ref 1000300, .long (lN 0), .long (lN 0), .ref 410, .null, .null, .null, .ref 411]))) (H401 : mj_rd h 401 = some (.inr (18, [.ref 1000000, .int (nI 0), .int (nI 0)]))) : mj_fin 4 xs h := by
  unfold mj_fin
  refine l_ild (p' := 30) rfl rfl rfl rfl ?_
  refine l_alds (p' := 31) rfl rfl rfl rfl ?_
  refine l_lens (p' := 32) rfl rfl rfl ?_
  refine l_con (p' := 33) rfl rfl rfl ?_
  refine l_bz (p' := 34) (z := (nI 0)) rfl rfl rfl rfl rfl (by decide +kernel) ?_
  refine l_icmp (p' := 37) false rfl rfl (by decide +kernel) rfl ?_
  refine l_alds (p' := 38) rfl rfl rfl rfl ?_
  refine l_ild (p' := 40) rfl rfl rfl rfl ?_
  refine l_ialz (p' := 41) (m := 0) (z := (xs 0)) rfl rfl (by decide +kernel) rfl rfl rfl ?_
  refine l_bip (p' := 43) rfl rfl rfl ?_
  refine l_bz (p' := 44) (z := (nI 5)) rfl rfl rfl rfl rfl hk ?_
  refine l_sp (p' := 463) (ls' := _) rfl rfl rfl rfl rfl ?_
  refine l_aldn (p' := 464) rfl rfl rfl rfl ?_
  refine l_alds (p' := 465) rfl rfl rfl rfl ?_
  refine l_ild (p' := 467) rfl rfl rfl rfl ?_
  refine l_con (p' := 468) rfl rfl rfl ?_
  refine l_bz (p' := 469) (z := (nI 1)) rfl rfl rfl rfl rfl (by decide +kernel) ?_
  refine l_ialz (p' := 470) (m := 1) (z := p) rfl rfl (by decide +kernel) rfl hx1 rfl ?_
  refine l_aldn (p' := 471) rfl rfl rfl rfl ?_
  refine l_call (p' := 474) (kc := 99) (ls0 := [_, _, _, _]) rfl rfl rfl rfl rfl rfl rfl rfl rfl rfl ?_
  refine s_aldn (p' := 1) rfl rfl rfl ?_
  refine s_con (p' := 2) rfl rfl ?_
  refine s_aldn (p' := 3) rfl rfl rfl ?_
  refine s_ildn (p' := 4) rfl rfl rfl ?_
  refine c_call (p' := 7) (kc := 98) (ls0 := [_, _, _]) rfl rfl rfl rfl rfl (mj_rcv_is H0) rfl rfl rfl ?_
  refine s_aldn (p' := 1) rfl rfl rfl ?_
  refine s_gf (p' := 4) rfl H0 rfl rfl ?_
  refine s_ildn (p' := 5) rfl rfl rfl ?_
  refine c_call (p' := 8) (kc := 97) (ls0 := [_, _]) rfl rfl rfl rfl rfl (mj_rcv_is H38) rfl rfl rfl ?_
  refine s_ildn (p' := 1) rfl rfl rfl ?_
  refine s_if (p' := 16) true rfl ((cg_lt (w := 0) (by decide +kernel)).trans (decide_eq_true (by omega))) rfl ?_
  refine s_con (p' := 17) rfl rfl ?_
  refine c_iret rfl (by decide +kernel) ?_
  refine s_if (p' := 11) false rfl (by decide +kernel) rfl ?_
  refine s_thrz (q := 414) rfl HL rfl ?_
  refine K_c (hp := 12) rfl (mj_ocl_is (rd_nw rfl HL)) rfl ?_
  refine s_astn (p' := 13) (ls' := [_, _, _, _]) rfl rfl rfl rfl ?_
  refine s_con (p' := 14) rfl rfl ?_
  refine k_iret rfl rfl ?_
  refine l_ist (p' := 476) (ls' := [_, _, _, _, _, _, _, _, _, _]) rfl rfl rfl rfl rfl ?_
  refine l_aldn (p' := 477) rfl rfl rfl rfl ?_
  refine l_alds (p' := 478) rfl rfl rfl rfl ?_
  refine l_ild (p' := 480) rfl rfl rfl rfl ?_
  refine l_con (p' := 481) rfl rfl rfl ?_
  refine l_bz (p' := 482) (z := (nI 1)) rfl rfl rfl rfl rfl (by decide +kernel) ?_
  refine l_ialz (p' := 483) (m := 1) (z := p) rfl rfl (by decide +kernel) rfl hx1 rfl ?_
  refine l_call (p' := 486) (kc := 99) (ls0 := [_, _, _]) rfl rfl rfl rfl rfl rfl (mj_rcv_is (rd_app H400)) rfl rfl rfl ?_
  refine s_aldn (p' := 1) rfl rfl rfl ?_
  refine s_aldn (p' := 2) rfl rfl rfl ?_
  refine s_ildn (p' := 3) rfl rfl rfl ?_
  refine c_call (p' := 6) (kc := 98) (ls0 := [_, _]) rfl rfl rfl rfl rfl (mj_rcv_is (rd_app H400)) rfl rfl rfl ?_
  refine s_ildn (p' := 1) rfl rfl rfl ?_
  refine s_con (p' := 2) rfl rfl ?_
  refine s_aldn (p' := 3) rfl rfl rfl ?_
  refine s_gf (p' := 6) rfl (rd_app H400) rfl rfl ?_
  refine c_call (p' := 11) (kc := 97) (ls0 := [_]) rfl rfl rfl rfl rfl (mj_rcv_is (rd_app H401)) rfl rfl rfl ?_
  refine s_aldn (p' := 1) rfl rfl rfl ?_
  refine s_gf (p' := 4) rfl (rd_app H401) rfl rfl ?_
  refine c_iret rfl rfl ?_
  refine s_con (p' := 12) rfl rfl ?_
  refine s_bz (p' := 13) (z := (nI 4294967295)) rfl rfl rfl (by decide +kernel) ?_
  refine c_call (p' := 16) (kc := 97) (ls0 := [_, _, _]) rfl rfl rfl rfl rfl rfl rfl rfl rfl ?_
  refine s_ildn (p' := 1) rfl rfl rfl ?_
  refine s_ildn (p' := 2) rfl rfl rfl ?_
  refine s_icmp (p' := 14) true rfl ((ch_gt (w := 0) (by decide +kernel)).trans (decide_eq_true (by omega))) rfl ?_
  refine s_con (p' := 15) rfl rfl ?_
  refine c_iret rfl (by decide +kernel) ?_
  refine c_iret rfl (by decide +kernel) ?_
  refine s_if (p' := 9) false rfl (by decide +kernel) rfl ?_
  refine s_con (p' := 10) rfl rfl ?_
  refine s_goto (p' := 32) rfl rfl ?_
  refine c_call (p' := 35) (kc := 98) (ls0 := [_, _]) rfl rfl rfl rfl rfl (mj_rcv_is (rd_app H400)) rfl rfl rfl ?_
  refine s_aldn (p' := 1) rfl rfl rfl ?_
  refine s_ildn (p' := 2) rfl rfl rfl ?_
  refine s_pfz (p' := 5) (fs' := [_, _, _, _, _, _, _, _, _, _, _]) rfl rfl (rd_app H400) rfl rfl rfl rfl ?_
  refine s_ildn (p' := 6) rfl rfl rfl ?_
  refine s_if (p' := 9) false rfl (by decide +kernel) rfl ?_
  refine s_con (p' := 10) rfl rfl ?_
  refine s_goto (p' := 14) rfl rfl ?_
  refine c_iret rfl (by decide +kernel) ?_
  refine s_if (p' := 38) false rfl (by decide +kernel) rfl ?_
  refine s_con (p' := 39) rfl rfl ?_
  refine k_iret rfl rfl ?_
  refine l_ist (p' := 488) (ls' := [_, _, _, _, _, _, _, _, _, _]) rfl rfl rfl rfl rfl ?_
  refine l_aldn (p' := 489) rfl rfl rfl rfl ?_
  refine l_call (p' := 492) (kc := 99) (ls0 := [_]) rfl rfl rfl rfl rfl rfl (mj_rcv_is (rd_ss rfl (rd_app H400))) rfl rfl rfl ?_
  refine s_aldn (p' := 1) rfl rfl rfl ?_
  refine s_gf (p' := 4) rfl (rd_ss rfl (rd_app H400)) rfl rfl ?_
  refine k_iret rfl rfl ?_
  refine l_ild (p' := 494) rfl rfl rfl rfl ?_
  refine l_icmp (p' := 499) true rfl rfl (by decide +kernel) rfl ?_
  refine l_ild (p' := 501) rfl rfl rfl rfl ?_
  refine l_if (p' := 516) true rfl rfl (by decide +kernel) rfl ?_
  refine l_goto (p' := 2541) rfl rfl rfl ?_
  refine l_incz (p' := 2544) (w := (nI 4)) (ls' := [_, _, _, _, _, _, _, _, _, _]) rfl rfl rfl rfl (by decide +kernel) rfl rfl ?_
  refine l_goto (p' := 28) rfl rfl rfl ?_
  refine l_ild (p' := 30) rfl rfl rfl rfl ?_
  refine l_alds (p' := 31) rfl rfl rfl rfl ?_
  refine l_lens (p' := 32) rfl rfl rfl ?_
  refine l_con (p' := 33) rfl rfl rfl ?_
  refine l_bz (p' := 34) (z := (nI 0)) rfl rfl rfl rfl rfl (by decide +kernel) ?_
  refine l_icmp (p' := 2547) true rfl rfl (by decide +kernel) rfl ?_
  refine l_con (p' := 2548) rfl rfl rfl ?_
  refine l_end rfl rfl ?_
  exact ⟨Nat.le_trans (Nat.le_of_eq (len_s (len_a HL rfl))) (Nat.le_of_ble_eq_true rfl), Nat.le_trans (sz_s rfl (rd_app H400) rfl (sz_aa (k := 6) (m := 20006) rfl rfl HZ)) (Nat.le_of_ble_eq_true rfl)⟩
theorem p1_5_p {xs : Nat → Int32} {h : mj_H} (hk : xs 0 &&& nI 63 = nI 5) {p : Int32} (hx1 : xs 1 = p) (hp : 0 ≤ p.toInt) (HL : h.length = 414) (HZ : mj_sz h ≤ 20000) (H0 : mj_rd h 0 = some (.inr (0, [.ref 1, .ref 38, .ref 299, .ref 336, .ref 373, .ref 375, .ref 378, .ref 381, .ref 387, .ref 393, .null, .null, .ref 397, .ref 398, .ref 399, .long (lN 0), .long (lN 0)]))) (H38 : mj_rd h 38 = some (.inr (6, [.ref 39, .ref 40, .int (nI 0)]))) (H400 : mj_rd h 400 = some (.inr (17, [.int (nI 0), .ref 401, .ref 402, .ref 1000300, .long (lN 0), .long (lN 0), .ref 410, .null, .null, .null, .ref 411]))) (H401 : mj_rd h 401 = some (.inr (18, [.ref 1000000, .int (nI 0), .int (nI 0)]))) : mj_fin 4 xs h := by
  unfold mj_fin
  refine l_ild (p' := 30) rfl rfl rfl rfl ?_
  refine l_alds (p' := 31) rfl rfl rfl rfl ?_
  refine l_lens (p' := 32) rfl rfl rfl ?_
  refine l_con (p' := 33) rfl rfl rfl ?_
  refine l_bz (p' := 34) (z := (nI 0)) rfl rfl rfl rfl rfl (by decide +kernel) ?_
  refine l_icmp (p' := 37) false rfl rfl (by decide +kernel) rfl ?_
  refine l_alds (p' := 38) rfl rfl rfl rfl ?_
  refine l_ild (p' := 40) rfl rfl rfl rfl ?_
  refine l_ialz (p' := 41) (m := 0) (z := (xs 0)) rfl rfl (by decide +kernel) rfl rfl rfl ?_
  refine l_bip (p' := 43) rfl rfl rfl ?_
  refine l_bz (p' := 44) (z := (nI 5)) rfl rfl rfl rfl rfl hk ?_
  refine l_sp (p' := 463) (ls' := _) rfl rfl rfl rfl rfl ?_
  refine l_aldn (p' := 464) rfl rfl rfl rfl ?_
  refine l_alds (p' := 465) rfl rfl rfl rfl ?_
  refine l_ild (p' := 467) rfl rfl rfl rfl ?_
  refine l_con (p' := 468) rfl rfl rfl ?_
  refine l_bz (p' := 469) (z := (nI 1)) rfl rfl rfl rfl rfl (by decide +kernel) ?_
  refine l_ialz (p' := 470) (m := 1) (z := p) rfl rfl (by decide +kernel) rfl hx1 rfl ?_
  refine l_aldn (p' := 471) rfl rfl rfl rfl ?_
  refine l_call (p' := 474) (kc := 99) (ls0 := [_, _, _, _]) rfl rfl rfl rfl rfl rfl rfl rfl rfl rfl ?_
  refine s_aldn (p' := 1) rfl rfl rfl ?_
  refine s_con (p' := 2) rfl rfl ?_
  refine s_aldn (p' := 3) rfl rfl rfl ?_
  refine s_ildn (p' := 4) rfl rfl rfl ?_
  refine c_call (p' := 7) (kc := 98) (ls0 := [_, _, _]) rfl rfl rfl rfl rfl (mj_rcv_is H0) rfl rfl rfl ?_
  refine s_aldn (p' := 1) rfl rfl rfl ?_
  refine s_gf (p' := 4) rfl H0 rfl rfl ?_
  refine s_ildn (p' := 5) rfl rfl rfl ?_
  refine c_call (p' := 8) (kc := 97) (ls0 := [_, _]) rfl rfl rfl rfl rfl (mj_rcv_is H38) rfl rfl rfl ?_
  refine s_ildn (p' := 1) rfl rfl rfl ?_
  refine s_if (p' := 4) false rfl ((cg_lt (w := 0) (by decide +kernel)).trans (decide_eq_false (by omega))) rfl ?_
  refine s_ildn (p' := 5) rfl rfl rfl ?_
  refine s_aldn (p' := 6) rfl rfl rfl ?_
  refine s_gf (p' := 9) rfl H38 rfl rfl ?_
  refine s_icmp (p' := 16) true rfl ((cg_ge (w := 0) (by decide +kernel)).trans (decide_eq_true (by omega))) rfl ?_
  refine s_con (p' := 17) rfl rfl ?_
  refine c_iret rfl (by decide +kernel) ?_
  refine s_if (p' := 11) false rfl (by decide +kernel) rfl ?_
  refine s_thrz (q := 414) rfl HL rfl ?_
  refine K_c (hp := 12) rfl (mj_ocl_is (rd_nw rfl HL)) rfl ?_
  refine s_astn (p' := 13) (ls' := [_, _, _, _]) rfl rfl rfl rfl ?_
  refine s_con (p' := 14) rfl rfl ?_
  refine k_iret rfl rfl ?_
  refine l_ist (p' := 476) (ls' := [_, _, _, _, _, _, _, _, _, _]) rfl rfl rfl rfl rfl ?_
  refine l_aldn (p' := 477) rfl rfl rfl rfl ?_
  refine l_alds (p' := 478) rfl rfl rfl rfl ?_
  refine l_ild (p' := 480) rfl rfl rfl rfl ?_
  refine l_con (p' := 481) rfl rfl rfl ?_
  refine l_bz (p' := 482) (z := (nI 1)) rfl rfl rfl rfl rfl (by decide +kernel) ?_
  refine l_ialz (p' := 483) (m := 1) (z := p) rfl rfl (by decide +kernel) rfl hx1 rfl ?_
  refine l_call (p' := 486) (kc := 99) (ls0 := [_, _, _]) rfl rfl rfl rfl rfl rfl (mj_rcv_is (rd_app H400)) rfl rfl rfl ?_
  refine s_aldn (p' := 1) rfl rfl rfl ?_
  refine s_aldn (p' := 2) rfl rfl rfl ?_
  refine s_ildn (p' := 3) rfl rfl rfl ?_
  refine c_call (p' := 6) (kc := 98) (ls0 := [_, _]) rfl rfl rfl rfl rfl (mj_rcv_is (rd_app H400)) rfl rfl rfl ?_
  refine s_ildn (p' := 1) rfl rfl rfl ?_
  refine s_con (p' := 2) rfl rfl ?_
  refine s_aldn (p' := 3) rfl rfl rfl ?_
  refine s_gf (p' := 6) rfl (rd_app H400) rfl rfl ?_
  refine c_call (p' := 11) (kc := 97) (ls0 := [_]) rfl rfl rfl rfl rfl (mj_rcv_is (rd_app H401)) rfl rfl rfl ?_
  refine s_aldn (p' := 1) rfl rfl rfl ?_
  refine s_gf (p' := 4) rfl (rd_app H401) rfl rfl ?_
  refine c_iret rfl rfl ?_
  refine s_con (p' := 12) rfl rfl ?_
  refine s_bz (p' := 13) (z := (nI 4294967295)) rfl rfl rfl (by decide +kernel) ?_
  refine c_call (p' := 16) (kc := 97) (ls0 := [_, _, _]) rfl rfl rfl rfl rfl rfl rfl rfl rfl ?_
  refine s_ildn (p' := 1) rfl rfl rfl ?_
  refine s_ildn (p' := 2) rfl rfl rfl ?_
  refine s_icmp (p' := 5) false rfl ((ch_gt (w := 0) (by decide +kernel)).trans (decide_eq_false (by omega))) rfl ?_
  refine s_ildn (p' := 6) rfl rfl rfl ?_
  refine s_ildn (p' := 7) rfl rfl rfl ?_
  refine s_icmp (p' := 14) true rfl ((cg_gt (w := -1) (by decide +kernel)).trans (decide_eq_true (by omega))) rfl ?_
  refine s_con (p' := 15) rfl rfl ?_
  refine c_iret rfl (by decide +kernel) ?_
  refine c_iret rfl (by decide +kernel) ?_
  refine s_if (p' := 9) false rfl (by decide +kernel) rfl ?_
  refine s_con (p' := 10) rfl rfl ?_
  refine s_goto (p' := 32) rfl rfl ?_
  refine c_call (p' := 35) (kc := 98) (ls0 := [_, _]) rfl rfl rfl rfl rfl (mj_rcv_is (rd_app H400)) rfl rfl rfl ?_
  refine s_aldn (p' := 1) rfl rfl rfl ?_
  refine s_ildn (p' := 2) rfl rfl rfl ?_
  refine s_pfz (p' := 5) (fs' := [_, _, _, _, _, _, _, _, _, _, _]) rfl rfl (rd_app H400) rfl rfl rfl rfl ?_
  refine s_ildn (p' := 6) rfl rfl rfl ?_
  refine s_if (p' := 9) false rfl (by decide +kernel) rfl ?_
  refine s_con (p' := 10) rfl rfl ?_
  refine s_goto (p' := 14) rfl rfl ?_
  refine c_iret rfl (by decide +kernel) ?_
  refine s_if (p' := 38) false rfl (by decide +kernel) rfl ?_
  refine s_con (p' := 39) rfl rfl ?_
  refine k_iret rfl rfl ?_
  refine l_ist (p' := 488) (ls' := [_, _, _, _, _, _, _, _, _, _]) rfl rfl rfl rfl rfl ?_
  refine l_aldn (p' := 489) rfl rfl rfl rfl ?_
  refine l_call (p' := 492) (kc := 99) (ls0 := [_]) rfl rfl rfl rfl rfl rfl (mj_rcv_is (rd_ss rfl (rd_app H400))) rfl rfl rfl ?_
  refine s_aldn (p' := 1) rfl rfl rfl ?_
  refine s_gf (p' := 4) rfl (rd_ss rfl (rd_app H400)) rfl rfl ?_
  refine k_iret rfl rfl ?_
  refine l_ild (p' := 494) rfl rfl rfl rfl ?_
  refine l_icmp (p' := 499) true rfl rfl (by decide +kernel) rfl ?_
  refine l_ild (p' := 501) rfl rfl rfl rfl ?_
  refine l_if (p' := 516) true rfl rfl (by decide +kernel) rfl ?_
  refine l_goto (p' := 2541) rfl rfl rfl ?_
  refine l_incz (p' := 2544) (w := (nI 4)) (ls' := [_, _, _, _, _, _, _, _, _, _]) rfl rfl rfl rfl (by decide +kernel) rfl rfl ?_
  refine l_goto (p' := 28) rfl rfl rfl ?_
  refine l_ild (p' := 30) rfl rfl rfl rfl ?_
  refine l_alds (p' := 31) rfl rfl rfl rfl ?_
  refine l_lens (p' := 32) rfl rfl rfl ?_
  refine l_con (p' := 33) rfl rfl rfl ?_
  refine l_bz (p' := 34) (z := (nI 0)) rfl rfl rfl rfl rfl (by decide +kernel) ?_
  refine l_icmp (p' := 2547) true rfl rfl (by decide +kernel) rfl ?_
  refine l_con (p' := 2548) rfl rfl rfl ?_
  refine l_end rfl rfl ?_
  exact ⟨Nat.le_trans (Nat.le_of_eq (len_s (len_a HL rfl))) (Nat.le_of_ble_eq_true rfl), Nat.le_trans (sz_s rfl (rd_app H400) rfl (sz_aa (k := 6) (m := 20006) rfl rfl HZ)) (Nat.le_of_ble_eq_true rfl)⟩
theorem p1_6_n {xs : Nat → Int32} {h : mj_H} (hk : xs 0 &&& nI 63 = nI 6) {p : Int32} (hx1 : xs 1 = p) (hp : p.toInt < 0) (HL : h.length = 414) (HZ : mj_sz h ≤ 20000) (H0 : mj_rd h 0 = some (.inr (0, [.ref 1, .ref 38, .ref 299, .ref 336, .ref 373, .ref 375, .ref 378, .ref 381, .ref 387, .ref 393, .null, .null, .ref 397, .ref 398, .ref 399, .long (lN 0), .long (lN 0)]))) (H38 : mj_rd h 38 = some (.inr (6, [.ref 39, .ref 40, .int (nI 0)]))) (H400 : mj_rd h 400 = some (.inr (17, [.int (nI 0), .ref 401, .ref 402, .ref 1000300, .long (lN 0), .long (lN 0), .ref 410, .null, .null, .null, .ref 411]))) (H401 : mj_rd h 401 = some (.inr (18, [.ref 1000000, .int (nI 0), .int (nI 0)]))) : mj_fin 4 xs h := by
  unfold mj_fin
  refine l_ild (p' := 30) rfl rfl rfl rfl ?_
  refine l_alds (p' := 31) rfl rfl rfl rfl ?_
  refine l_lens (p' := 32) rfl rfl rfl ?_
  refine l_con (p' := 33) rfl rfl rfl ?_
  refine l_bz (p' := 34) (z := (nI 0)) rfl rfl rfl rfl rfl (by decide +kernel) ?_
  refine l_icmp (p' := 37) false rfl rfl (by decide +kernel) rfl ?_
  refine l_alds (p' := 38) rfl rfl rfl rfl ?_
  refine l_ild (p' := 40) rfl rfl rfl rfl ?_
  refine l_ialz (p' := 41) (m := 0) (z := (xs 0)) rfl rfl (by decide +kernel) rfl rfl rfl ?_
  refine l_bip (p' := 43) rfl rfl rfl ?_
  refine l_bz (p' := 44) (z := (nI 6)) rfl rfl rfl rfl rfl hk ?_
  refine l_sp (p' := 519) (ls' := _) rfl rfl rfl rfl rfl ?_
  refine l_aldn (p' := 520) rfl rfl rfl rfl ?_
  refine l_alds (p' := 521) rfl rfl rfl rfl ?_
  refine l_ild (p' := 523) rfl rfl rfl rfl ?_
  refine l_con (p' := 524) rfl rfl rfl ?_
  refine l_bz (p' := 525) (z := (nI 1)) rfl rfl rfl rfl rfl (by decide +kernel) ?_
  refine l_ialz (p' := 526) (m := 1) (z := p) rfl rfl (by decide +kernel) rfl hx1 rfl ?_
  refine l_aldn (p' := 527) rfl rfl rfl rfl ?_
  refine l_call (p' := 530) (kc := 99) (ls0 := [_, _, _, _]) rfl rfl rfl rfl rfl rfl rfl rfl rfl rfl ?_
  refine s_aldn (p' := 1) rfl rfl rfl ?_
  refine s_con (p' := 2) rfl rfl ?_
  refine s_aldn (p' := 3) rfl rfl rfl ?_
  refine s_ildn (p' := 4) rfl rfl rfl ?_
  refine c_call (p' := 7) (kc := 98) (ls0 := [_, _]) rfl rfl rfl rfl rfl (mj_rcv_is H0) rfl rfl rfl ?_
  refine s_aldn (p' := 1) rfl rfl rfl ?_
  refine s_gf (p' := 4) rfl H0 rfl rfl ?_
  refine s_ildn (p' := 5) rfl rfl rfl ?_
  refine c_call (p' := 8) (kc := 97) (ls0 := [_, _]) rfl rfl rfl rfl rfl (mj_rcv_is H38) rfl rfl rfl ?_
  refine s_ildn (p' := 1) rfl rfl rfl ?_
  refine s_if (p' := 16) true rfl ((cg_lt (w := 0) (by decide +kernel)).trans (decide_eq_true (by omega))) rfl ?_
  refine s_con (p' := 17) rfl rfl ?_
  refine c_iret rfl (by decide +kernel) ?_
  refine s_if (p' := 11) false rfl (by decide +kernel) rfl ?_
  refine s_thrz (q := 414) rfl HL rfl ?_
  refine K_c (hp := 12) rfl (mj_ocl_is (rd_nw rfl HL)) rfl ?_
  refine s_astn (p' := 13) (ls' := [_, _, _, _]) rfl rfl rfl rfl ?_
  refine s_con (p' := 14) rfl rfl ?_
  refine k_iret rfl rfl ?_
  refine l_ist (p' := 532) (ls' := [_, _, _, _, _, _, _, _, _, _]) rfl rfl rfl rfl rfl ?_
  refine l_aldn (p' := 533) rfl rfl rfl rfl ?_
  refine l_alds (p' := 534) rfl rfl rfl rfl ?_
  refine l_ild (p' := 536) rfl rfl rfl rfl ?_
  refine l_con (p' := 537) rfl rfl rfl ?_
  refine l_bz (p' := 538) (z := (nI 1)) rfl rfl rfl rfl rfl (by decide +kernel) ?_
  refine l_ialz (p' := 539) (m := 1) (z := p) rfl rfl (by decide +kernel) rfl hx1 rfl ?_
  refine l_call (p' := 542) (kc := 99) (ls0 := [_, _]) rfl rfl rfl rfl rfl rfl (mj_rcv_is (rd_app H400)) rfl rfl rfl ?_
  refine s_aldn (p' := 1) rfl rfl rfl ?_
  refine s_aldn (p' := 2) rfl rfl rfl ?_
  refine s_ildn (p' := 3) rfl rfl rfl ?_
  refine c_call (p' := 6) (kc := 98) (ls0 := [_, _]) rfl rfl rfl rfl rfl (mj_rcv_is (rd_app H400)) rfl rfl rfl ?_
  refine s_ildn (p' := 1) rfl rfl rfl ?_
  refine s_con (p' := 2) rfl rfl ?_
  refine s_aldn (p' := 3) rfl rfl rfl ?_
  refine s_gf (p' := 6) rfl (rd_app H400) rfl rfl ?_
  refine c_call (p' := 11) (kc := 97) (ls0 := [_]) rfl rfl rfl rfl rfl (mj_rcv_is (rd_app H401)) rfl rfl rfl ?_
  refine s_aldn (p' := 1) rfl rfl rfl ?_
  refine s_gf (p' := 4) rfl (rd_app H401) rfl rfl ?_
  refine c_iret rfl rfl ?_
  refine s_con (p' := 12) rfl rfl ?_
  refine s_bz (p' := 13) (z := (nI 4294967295)) rfl rfl rfl (by decide +kernel) ?_
  refine c_call (p' := 16) (kc := 97) (ls0 := [_, _, _]) rfl rfl rfl rfl rfl rfl rfl rfl rfl ?_
  refine s_ildn (p' := 1) rfl rfl rfl ?_
  refine s_ildn (p' := 2) rfl rfl rfl ?_
  refine s_icmp (p' := 14) true rfl ((ch_gt (w := 0) (by decide +kernel)).trans (decide_eq_true (by omega))) rfl ?_
  refine s_con (p' := 15) rfl rfl ?_
  refine c_iret rfl (by decide +kernel) ?_
  refine c_iret rfl (by decide +kernel) ?_
  refine s_if (p' := 13) true rfl (by decide +kernel) rfl ?_
  refine s_con (p' := 14) rfl rfl ?_
  refine c_call (p' := 17) (kc := 98) (ls0 := [_, _]) rfl rfl rfl rfl rfl (mj_rcv_is (rd_app H400)) rfl rfl rfl ?_
  refine s_aldn (p' := 1) rfl rfl rfl ?_
  refine s_ildn (p' := 2) rfl rfl rfl ?_
  refine s_pfz (p' := 5) (fs' := [_, _, _, _, _, _, _, _, _, _, _]) rfl rfl (rd_app H400) rfl rfl rfl rfl ?_
  refine s_ildn (p' := 6) rfl rfl rfl ?_
  refine s_if (p' := 9) false rfl (by decide +kernel) rfl ?_
  refine s_con (p' := 10) rfl rfl ?_
  refine s_goto (p' := 14) rfl rfl ?_
  refine c_iret rfl (by decide +kernel) ?_
  refine s_if (p' := 20) false rfl (by decide +kernel) rfl ?_
  refine s_con (p' := 21) rfl rfl ?_
  refine s_goto (p' := 43) rfl rfl ?_
  refine k_iret rfl rfl ?_
  refine l_ist (p' := 544) (ls' := [_, _, _, _, _, _, _, _, _, _]) rfl rfl rfl rfl rfl ?_
  refine l_aldn (p' := 545) rfl rfl rfl rfl ?_
  refine l_call (p' := 548) (kc := 99) (ls0 := [_]) rfl rfl rfl rfl rfl rfl (mj_rcv_is (rd_ss rfl (rd_app H400))) rfl rfl rfl ?_
  refine s_aldn (p' := 1) rfl rfl rfl ?_
  refine s_gf (p' := 4) rfl (rd_ss rfl (rd_app H400)) rfl rfl ?_
  refine k_iret rfl rfl ?_
  refine l_ild (p' := 550) rfl rfl rfl rfl ?_
  refine l_icmp (p' := 555) true rfl rfl (by decide +kernel) rfl ?_
  refine l_ild (p' := 557) rfl rfl rfl rfl ?_
  refine l_if (p' := 572) true rfl rfl (by decide +kernel) rfl ?_
  refine l_goto (p' := 2541) rfl rfl rfl ?_
  refine l_incz (p' := 2544) (w := (nI 4)) (ls' := [_, _, _, _, _, _, _, _, _, _]) rfl rfl rfl rfl (by decide +kernel) rfl rfl ?_
  refine l_goto (p' := 28) rfl rfl rfl ?_
  refine l_ild (p' := 30) rfl rfl rfl rfl ?_
  refine l_alds (p' := 31) rfl rfl rfl rfl ?_
  refine l_lens (p' := 32) rfl rfl rfl ?_
  refine l_con (p' := 33) rfl rfl rfl ?_
  refine l_bz (p' := 34) (z := (nI 0)) rfl rfl rfl rfl rfl (by decide +kernel) ?_
  refine l_icmp (p' := 2547) true rfl rfl (by decide +kernel) rfl ?_
  refine l_con (p' := 2548) rfl rfl rfl ?_
  refine l_end rfl rfl ?_
  exact ⟨Nat.le_trans (Nat.le_of_eq (len_s (len_a HL rfl))) (Nat.le_of_ble_eq_true rfl), Nat.le_trans (sz_s rfl (rd_app H400) rfl (sz_aa (k := 6) (m := 20006) rfl rfl HZ)) (Nat.le_of_ble_eq_true rfl)⟩
theorem p1_6_p {xs : Nat → Int32} {h : mj_H} (hk : xs 0 &&& nI 63 = nI 6) {p : Int32} (hx1 : xs 1 = p) (hp : 0 ≤ p.toInt) (HL : h.length = 414) (HZ : mj_sz h ≤ 20000) (H0 : mj_rd h 0 = some (.inr (0, [.ref 1, .ref 38, .ref 299, .ref 336, .ref 373, .ref 375, .ref 378, .ref 381, .ref 387, .ref 393, .null, .null, .ref 397, .ref 398, .ref 399, .long (lN 0), .long (lN 0)]))) (H38 : mj_rd h 38 = some (.inr (6, [.ref 39, .ref 40, .int (nI 0)]))) (H400 : mj_rd h 400 = some (.inr (17, [.int (nI 0), .ref 401, .ref 402, .ref 1000300, .long (lN 0), .long (lN 0), .ref 410, .null, .null, .null, .ref 411]))) (H401 : mj_rd h 401 = some (.inr (18, [.ref 1000000, .int (nI 0), .int (nI 0)]))) : mj_fin 4 xs h := by
  unfold mj_fin
  refine l_ild (p' := 30) rfl rfl rfl rfl ?_
  refine l_alds (p' := 31) rfl rfl rfl rfl ?_
  refine l_lens (p' := 32) rfl rfl rfl ?_
  refine l_con (p' := 33) rfl rfl rfl ?_
  refine l_bz (p' := 34) (z := (nI 0)) rfl rfl rfl rfl rfl (by decide +kernel) ?_
  refine l_icmp (p' := 37) false rfl rfl (by decide +kernel) rfl ?_
  refine l_alds (p' := 38) rfl rfl rfl rfl ?_
  refine l_ild (p' := 40) rfl rfl rfl rfl ?_
  refine l_ialz (p' := 41) (m := 0) (z := (xs 0)) rfl rfl (by decide +kernel) rfl rfl rfl ?_
  refine l_bip (p' := 43) rfl rfl rfl ?_
  refine l_bz (p' := 44) (z := (nI 6)) rfl rfl rfl rfl rfl hk ?_
  refine l_sp (p' := 519) (ls' := _) rfl rfl rfl rfl rfl ?_
  refine l_aldn (p' := 520) rfl rfl rfl rfl ?_
  refine l_alds (p' := 521) rfl rfl rfl rfl ?_
  refine l_ild (p' := 523) rfl rfl rfl rfl ?_
  refine l_con (p' := 524) rfl rfl rfl ?_
  refine l_bz (p' := 525) (z := (nI 1)) rfl rfl rfl rfl rfl (by decide +kernel) ?_
  refine l_ialz (p' := 526) (m := 1) (z := p) rfl rfl (by decide +kernel) rfl hx1 rfl ?_
  refine l_aldn (p' := 527) rfl rfl rfl rfl ?_
  refine l_call (p' := 530) (kc := 99) (ls0 := [_, _, _, _]) rfl rfl rfl rfl rfl rfl rfl rfl rfl rfl ?_
  refine s_aldn (p' := 1) rfl rfl rfl ?_
  refine s_con (p' := 2) rfl rfl ?_
  refine s_aldn (p' := 3) rfl rfl rfl ?_
  refine s_ildn (p' := 4) rfl rfl rfl ?_
  refine c_call (p' := 7) (kc := 98) (ls0 := [_, _]) rfl rfl rfl rfl rfl (mj_rcv_is H0) rfl rfl rfl ?_
  refine s_aldn (p' := 1) rfl rfl rfl ?_
  refine s_gf (p' := 4) rfl H0 rfl rfl ?_
  refine s_ildn (p' := 5) rfl rfl rfl ?_
  refine c_call (p' := 8) (kc := 97) (ls0 := [_, _]) rfl rfl rfl rfl rfl (mj_rcv_is H38) rfl rfl rfl ?_
  refine s_ildn (p' := 1) rfl rfl rfl ?_
  refine s_if (p' := 4) false rfl ((cg_lt (w := 0) (by decide +kernel)).trans (decide_eq_false (by omega))) rfl ?_
  refine s_ildn (p' := 5) rfl rfl rfl ?_
  refine s_aldn (p' := 6) rfl rfl rfl ?_
  refine s_gf (p' := 9) rfl H38 rfl rfl ?_
  refine s_icmp (p' := 16) true rfl ((cg_ge (w := 0) (by decide +kernel)).trans (decide_eq_true (by omega))) rfl ?_
  refine s_con (p' := 17) rfl rfl ?_
  refine c_iret rfl (by decide +kernel) ?_
  refine s_if (p' := 11) false rfl (by decide +kernel) rfl ?_
  refine s_thrz (q := 414) rfl HL rfl ?_
  refine K_c (hp := 12) rfl (mj_ocl_is (rd_nw rfl HL)) rfl ?_
  refine s_astn (p' := 13) (ls' := [_, _, _, _]) rfl rfl rfl rfl ?_
  refine s_con (p' := 14) rfl rfl ?_
  refine k_iret rfl rfl ?_
  refine l_ist (p' := 532) (ls' := [_, _, _, _, _, _, _, _, _, _]) rfl rfl rfl rfl rfl ?_
  refine l_aldn (p' := 533) rfl rfl rfl rfl ?_
  refine l_alds (p' := 534) rfl rfl rfl rfl ?_
  refine l_ild (p' := 536) rfl rfl rfl rfl ?_
  refine l_con (p' := 537) rfl rfl rfl ?_
  refine l_bz (p' := 538) (z := (nI 1)) rfl rfl rfl rfl rfl (by decide +kernel) ?_
  refine l_ialz (p' := 539) (m := 1) (z := p) rfl rfl (by decide +kernel) rfl hx1 rfl ?_
  refine l_call (p' := 542) (kc := 99) (ls0 := [_, _]) rfl rfl rfl rfl rfl rfl (mj_rcv_is (rd_app H400)) rfl rfl rfl ?_
  refine s_aldn (p' := 1) rfl rfl rfl ?_
  refine s_aldn (p' := 2) rfl rfl rfl ?_
  refine s_ildn (p' := 3) rfl rfl rfl ?_
  refine c_call (p' := 6) (kc := 98) (ls0 := [_, _]) rfl rfl rfl rfl rfl (mj_rcv_is (rd_app H400)) rfl rfl rfl ?_
  refine s_ildn (p' := 1) rfl rfl rfl ?_
  refine s_con (p' := 2) rfl rfl ?_
  refine s_aldn (p' := 3) rfl rfl rfl ?_
  refine s_gf (p' := 6) rfl (rd_app H400) rfl rfl ?_
  refine c_call (p' := 11) (kc := 97) (ls0 := [_]) rfl rfl rfl rfl rfl (mj_rcv_is (rd_app H401)) rfl rfl rfl ?_
  refine s_aldn (p' := 1) rfl rfl rfl ?_
  refine s_gf (p' := 4) rfl (rd_app H401) rfl rfl ?_
  refine c_iret rfl rfl ?_
  refine s_con (p' := 12) rfl rfl ?_
  refine s_bz (p' := 13) (z := (nI 4294967295)) rfl rfl rfl (by decide +kernel) ?_
  refine c_call (p' := 16) (kc := 97) (ls0 := [_, _, _]) rfl rfl rfl rfl rfl rfl rfl rfl rfl ?_
  refine s_ildn (p' := 1) rfl rfl rfl ?_
  refine s_ildn (p' := 2) rfl rfl rfl ?_
  refine s_icmp (p' := 5) false rfl ((ch_gt (w := 0) (by decide +kernel)).trans (decide_eq_false (by omega))) rfl ?_
  refine s_ildn (p' := 6) rfl rfl rfl ?_
  refine s_ildn (p' := 7) rfl rfl rfl ?_
  refine s_icmp (p' := 14) true rfl ((cg_gt (w := -1) (by decide +kernel)).trans (decide_eq_true (by omega))) rfl ?_
  refine s_con (p' := 15) rfl rfl ?_
  refine c_iret rfl (by decide +kernel) ?_
  refine c_iret rfl (by decide +kernel) ?_
  refine s_if (p' := 13) true rfl (by decide +kernel) rfl ?_
  refine s_con (p' := 14) rfl rfl ?_
  refine c_call (p' := 17) (kc := 98) (ls0 := [_, _]) rfl rfl rfl rfl rfl (mj_rcv_is (rd_app H400)) rfl rfl rfl ?_
  refine s_aldn (p' := 1) rfl rfl rfl ?_
  refine s_ildn (p' := 2) rfl rfl rfl ?_
  refine s_pfz (p' := 5) (fs' := [_, _, _, _, _, _, _, _, _, _, _]) rfl rfl (rd_app H400) rfl rfl rfl rfl ?_
  refine s_ildn (p' := 6) rfl rfl rfl ?_
  refine s_if (p' := 9) false rfl (by decide +kernel) rfl ?_
  refine s_con (p' := 10) rfl rfl ?_
  refine s_goto (p' := 14) rfl rfl ?_
  refine c_iret rfl (by decide +kernel) ?_
  refine s_if (p' := 20) false rfl (by decide +kernel) rfl ?_
  refine s_con (p' := 21) rfl rfl ?_
  refine s_goto (p' := 43) rfl rfl ?_
  refine k_iret rfl rfl ?_
  refine l_ist (p' := 544) (ls' := [_, _, _, _, _, _, _, _, _, _]) rfl rfl rfl rfl rfl ?_
  refine l_aldn (p' := 545) rfl rfl rfl rfl ?_
  refine l_call (p' := 548) (kc := 99) (ls0 := [_]) rfl rfl rfl rfl rfl rfl (mj_rcv_is (rd_ss rfl (rd_app H400))) rfl rfl rfl ?_
  refine s_aldn (p' := 1) rfl rfl rfl ?_
  refine s_gf (p' := 4) rfl (rd_ss rfl (rd_app H400)) rfl rfl ?_
  refine k_iret rfl rfl ?_
  refine l_ild (p' := 550) rfl rfl rfl rfl ?_
  refine l_icmp (p' := 555) true rfl rfl (by decide +kernel) rfl ?_
  refine l_ild (p' := 557) rfl rfl rfl rfl ?_
  refine l_if (p' := 572) true rfl rfl (by decide +kernel) rfl ?_
  refine l_goto (p' := 2541) rfl rfl rfl ?_
  refine l_incz (p' := 2544) (w := (nI 4)) (ls' := [_, _, _, _, _, _, _, _, _, _]) rfl rfl rfl rfl (by decide +kernel) rfl rfl ?_
  refine l_goto (p' := 28) rfl rfl rfl ?_
  refine l_ild (p' := 30) rfl rfl rfl rfl ?_
  refine l_alds (p' := 31) rfl rfl rfl rfl ?_
  refine l_lens (p' := 32) rfl rfl rfl ?_
  refine l_con (p' := 33) rfl rfl rfl ?_
  refine l_bz (p' := 34) (z := (nI 0)) rfl rfl rfl rfl rfl (by decide +kernel) ?_
  refine l_icmp (p' := 2547) true rfl rfl (by decide +kernel) rfl ?_
  refine l_con (p' := 2548) rfl rfl rfl ?_
  refine l_end rfl rfl ?_
  exact ⟨Nat.le_trans (Nat.le_of_eq (len_s (len_a HL rfl))) (Nat.le_of_ble_eq_true rfl), Nat.le_trans (sz_s rfl (rd_app H400) rfl (sz_aa (k := 6) (m := 20006) rfl rfl HZ)) (Nat.le_of_ble_eq_true rfl)⟩
theorem p1_8_n {xs : Nat → Int32} {h : mj_H} (hk : xs 0 &&& nI 63 = nI 8) {p : Int32} (hx1 : xs 1 = p) (hp : p.toInt < 0) (HL : h.length = 414) (HZ : mj_sz h ≤ 20000) (H0 : mj_rd h 0 = some (.inr (0, [.ref 1, .ref 38, .ref 299, .ref 336, .ref 373, .ref 375, .ref 378, .ref 381, .ref 387, .ref 393, .null, .null, .ref 397, .ref 398, .ref 399, .long (lN 0), .long (lN 0)]))) (H38 : mj_rd h 38 = some (.inr (6, [.ref 39, .ref 40, .int (nI 0)]))) (H400 : mj_rd h 400 = some (.inr (17, [.int (nI 0), .ref 401, .ref 402, .ref 1000300, .long (lN 0), .long (lN 0), .ref 410, .null, .null, .null, .ref 411]))) (H401 : mj_rd h 401 = some (.inr (18, [.ref 1000000, .int (nI 0), .int (nI 0)]))) : mj_fin 4 xs h := by
  unfold mj_fin
  refine l_ild (p' := 30) rfl rfl rfl rfl ?_
  refine l_alds (p' := 31) rfl rfl rfl rfl ?_
  refine l_lens (p' := 32) rfl rfl rfl ?_
  refine l_con (p' := 33) rfl rfl rfl ?_
  refine l_bz (p' := 34) (z := (nI 0)) rfl rfl rfl rfl rfl (by decide +kernel) ?_
  refine l_icmp (p' := 37) false rfl rfl (by decide +kernel) rfl ?_
  refine l_alds (p' := 38) rfl rfl rfl rfl ?_
  refine l_ild (p' := 40) rfl rfl rfl rfl ?_
  refine l_ialz (p' := 41) (m := 0) (z := (xs 0)) rfl rfl (by decide +kernel) rfl rfl rfl ?_
  refine l_bip (p' := 43) rfl rfl rfl ?_
  refine l_bz (p' := 44) (z := (nI 8)) rfl rfl rfl rfl rfl hk ?_
  refine l_sp (p' := 643) (ls' := _) rfl rfl rfl rfl rfl ?_
  refine l_aldn (p' := 644) rfl rfl rfl rfl ?_
  refine l_alds (p' := 645) rfl rfl rfl rfl ?_
  refine l_ild (p' := 647) rfl rfl rfl rfl ?_
  refine l_con (p' := 648) rfl rfl rfl ?_
  refine l_bz (p' := 649) (z := (nI 1)) rfl rfl rfl rfl rfl (by decide +kernel) ?_
  refine l_ialz (p' := 650) (m := 1) (z := p) rfl rfl (by decide +kernel) rfl hx1 rfl ?_
  refine l_aldn (p' := 651) rfl rfl rfl rfl ?_
  refine l_call (p' := 654) (kc := 99) (ls0 := [_, _, _, _]) rfl rfl rfl rfl rfl rfl rfl rfl rfl rfl ?_
  refine s_aldn (p' := 1) rfl rfl rfl ?_
  refine s_con (p' := 2) rfl rfl ?_
  refine s_aldn (p' := 3) rfl rfl rfl ?_
  refine s_ildn (p' := 4) rfl rfl rfl ?_
  refine c_call (p' := 7) (kc := 98) (ls0 := [_, _]) rfl rfl rfl rfl rfl (mj_rcv_is H0) rfl rfl rfl ?_
  refine s_aldn (p' := 1) rfl rfl rfl ?_
  refine s_gf (p' := 4) rfl H0 rfl rfl ?_
  refine s_ildn (p' := 5) rfl rfl rfl ?_
  refine c_call (p' := 8) (kc := 97) (ls0 := [_, _]) rfl rfl rfl rfl rfl (mj_rcv_is H38) rfl rfl rfl ?_
  refine s_ildn (p' := 1) rfl rfl rfl ?_
  refine s_if (p' := 16) true rfl ((cg_lt (w := 0) (by decide +kernel)).trans (decide_eq_true (by omega))) rfl ?_
  refine s_con (p' := 17) rfl rfl ?_
  refine c_iret rfl (by decide +kernel) ?_
  refine s_if (p' := 11) false rfl (by decide +kernel) rfl ?_
  refine s_thrz (q := 414) rfl HL rfl ?_
  refine K_c (hp := 12) rfl (mj_ocl_is (rd_nw rfl HL)) rfl ?_
  refine s_astn (p' := 13) (ls' := [_, _, _, _]) rfl rfl rfl rfl ?_
  refine s_con (p' := 14) rfl rfl ?_
  refine k_iret rfl rfl ?_
  refine l_ist (p' := 656) (ls' := [_, _, _, _, _, _, _, _, _, _]) rfl rfl rfl rfl rfl ?_
  refine l_aldn (p' := 657) rfl rfl rfl rfl ?_
  refine l_alds (p' := 658) rfl rfl rfl rfl ?_
  refine l_ild (p' := 660) rfl rfl rfl rfl ?_
  refine l_con (p' := 661) rfl rfl rfl ?_
  refine l_bz (p' := 662) (z := (nI 1)) rfl rfl rfl rfl rfl (by decide +kernel) ?_
  refine l_ialz (p' := 663) (m := 1) (z := p) rfl rfl (by decide +kernel) rfl hx1 rfl ?_
  refine l_call (p' := 666) (kc := 99) (ls0 := [_, _]) rfl rfl rfl rfl rfl rfl (mj_rcv_is (rd_app H400)) rfl rfl rfl ?_
  refine s_aldn (p' := 1) rfl rfl rfl ?_
  refine s_aldn (p' := 2) rfl rfl rfl ?_
  refine s_ildn (p' := 3) rfl rfl rfl ?_
  refine c_call (p' := 6) (kc := 98) (ls0 := [_, _]) rfl rfl rfl rfl rfl (mj_rcv_is (rd_app H400)) rfl rfl rfl ?_
  refine s_ildn (p' := 1) rfl rfl rfl ?_
  refine s_con (p' := 2) rfl rfl ?_
  refine s_aldn (p' := 3) rfl rfl rfl ?_
  refine s_gf (p' := 6) rfl (rd_app H400) rfl rfl ?_
  refine c_call (p' := 11) (kc := 97) (ls0 := [_]) rfl rfl rfl rfl rfl (mj_rcv_is (rd_app H401)) rfl rfl rfl ?_
  refine s_aldn (p' := 1) rfl rfl rfl ?_
  refine s_gf (p' := 4) rfl (rd_app H401) rfl rfl ?_
  refine c_iret rfl rfl ?_
  refine s_con (p' := 12) rfl rfl ?_
  refine s_bz (p' := 13) (z := (nI 4294967295)) rfl rfl rfl (by decide +kernel) ?_
  refine c_call (p' := 16) (kc := 97) (ls0 := [_, _, _]) rfl rfl rfl rfl rfl rfl rfl rfl rfl ?_
  refine s_ildn (p' := 1) rfl rfl rfl ?_
  refine s_ildn (p' := 2) rfl rfl rfl ?_
  refine s_icmp (p' := 14) true rfl ((ch_gt (w := 0) (by decide +kernel)).trans (decide_eq_true (by omega))) rfl ?_
  refine s_con (p' := 15) rfl rfl ?_
  refine c_iret rfl (by decide +kernel) ?_
  refine c_iret rfl (by decide +kernel) ?_
  refine s_if (p' := 13) true rfl (by decide +kernel) rfl ?_
  refine s_con (p' := 14) rfl rfl ?_
  refine c_call (p' := 17) (kc := 98) (ls0 := [_, _]) rfl rfl rfl rfl rfl (mj_rcv_is (rd_app H400)) rfl rfl rfl ?_
  refine s_aldn (p' := 1) rfl rfl rfl ?_
  refine s_ildn (p' := 2) rfl rfl rfl ?_
  refine s_pfz (p' := 5) (fs' := [_, _, _, _, _, _, _, _, _, _, _]) rfl rfl (rd_app H400) rfl rfl rfl rfl ?_
  refine s_ildn (p' := 6) rfl rfl rfl ?_
  refine s_if (p' := 9) false rfl (by decide +kernel) rfl ?_
  refine s_con (p' := 10) rfl rfl ?_
  refine s_goto (p' := 14) rfl rfl ?_
  refine c_iret rfl (by decide +kernel) ?_
  refine s_if (p' := 20) false rfl (by decide +kernel) rfl ?_
  refine s_con (p' := 21) rfl rfl ?_
  refine s_goto (p' := 45) rfl rfl ?_
  refine k_iret rfl rfl ?_
  refine l_ist (p' := 668) (ls' := [_, _, _, _, _, _, _, _, _, _]) rfl rfl rfl rfl rfl ?_
  refine l_aldn (p' := 669) rfl rfl rfl rfl ?_
  refine l_call (p' := 672) (kc := 99) (ls0 := [_]) rfl rfl rfl rfl rfl rfl (mj_rcv_is (rd_ss rfl (rd_app H400))) rfl rfl rfl ?_
  refine s_aldn (p' := 1) rfl rfl rfl ?_
  refine s_gf (p' := 4) rfl (rd_ss rfl (rd_app H400)) rfl rfl ?_
  refine k_iret rfl rfl ?_
  refine l_ild (p' := 674) rfl rfl rfl rfl ?_
  refine l_icmp (p' := 679) true rfl rfl (by decide +kernel) rfl ?_
  refine l_ild (p' := 681) rfl rfl rfl rfl ?_
  refine l_if (p' := 696) true rfl rfl (by decide +kernel) rfl ?_
  refine l_goto (p' := 2541) rfl rfl rfl ?_
  refine l_incz (p' := 2544) (w := (nI 4)) (ls' := [_, _, _, _, _, _, _, _, _, _]) rfl rfl rfl rfl (by decide +kernel) rfl rfl ?_
  refine l_goto (p' := 28) rfl rfl rfl ?_
  refine l_ild (p' := 30) rfl rfl rfl rfl ?_
  refine l_alds (p' := 31) rfl rfl rfl rfl ?_
  refine l_lens (p' := 32) rfl rfl rfl ?_
  refine l_con (p' := 33) rfl rfl rfl ?_
  refine l_bz (p' := 34) (z := (nI 0)) rfl rfl rfl rfl rfl (by decide +kernel) ?_
  refine l_icmp (p' := 2547) true rfl rfl (by decide +kernel) rfl ?_
  refine l_con (p' := 2548) rfl rfl rfl ?_
  refine l_end rfl rfl ?_
  exact ⟨Nat.le_trans (Nat.le_of_eq (len_s (len_a HL rfl))) (Nat.le_of_ble_eq_true rfl), Nat.le_trans (sz_s rfl (rd_app H400) rfl (sz_aa (k := 6) (m := 20006) rfl rfl HZ)) (Nat.le_of_ble_eq_true rfl)⟩
theorem p1_8_p {xs : Nat → Int32} {h : mj_H} (hk : xs 0 &&& nI 63 = nI 8) {p : Int32} (hx1 : xs 1 = p) (hp : 0 ≤ p.toInt) (HL : h.length = 414) (HZ : mj_sz h ≤ 20000) (H0 : mj_rd h 0 = some (.inr (0, [.ref 1, .ref 38, .ref 299, .ref 336, .ref 373, .ref 375, .ref 378, .ref 381, .ref 387, .ref 393, .null, .null, .ref 397, .ref 398, .ref 399, .long (lN 0), .long (lN 0)]))) (H38 : mj_rd h 38 = some (.inr (6, [.ref 39, .ref 40, .int (nI 0)]))) (H400 : mj_rd h 400 = some (.inr (17, [.int (nI 0), .ref 401, .ref 402, .ref 1000300, .long (lN 0), .long (lN 0), .ref 410, .null, .null, .null, .ref 411]))) (H401 : mj_rd h 401 = some (.inr (18, [.ref 1000000, .int (nI 0), .int (nI 0)]))) : mj_fin 4 xs h := by
  unfold mj_fin
  refine l_ild (p' := 30) rfl rfl rfl rfl ?_
  refine l_alds (p' := 31) rfl rfl rfl rfl ?_
  refine l_lens (p' := 32) rfl rfl rfl ?_
  refine l_con (p' := 33) rfl rfl rfl ?_
  refine l_bz (p' := 34) (z := (nI 0)) rfl rfl rfl rfl rfl (by decide +kernel) ?_
  refine l_icmp (p' := 37) false rfl rfl (by decide +kernel) rfl ?_
  refine l_alds (p' := 38) rfl rfl rfl rfl ?_
  refine l_ild (p' := 40) rfl rfl rfl rfl ?_
  refine l_ialz (p' := 41) (m := 0) (z := (xs 0)) rfl rfl (by decide +kernel) rfl rfl rfl ?_
  refine l_bip (p' := 43) rfl rfl rfl ?_
  refine l_bz (p' := 44) (z := (nI 8)) rfl rfl rfl rfl rfl hk ?_
  refine l_sp (p' := 643) (ls' := _) rfl rfl rfl rfl rfl ?_
  refine l_aldn (p' := 644) rfl rfl rfl rfl ?_
  refine l_alds (p' := 645) rfl rfl rfl rfl ?_
  refine l_ild (p' := 647) rfl rfl rfl rfl ?_
  refine l_con (p' := 648) rfl rfl rfl ?_
  refine l_bz (p' := 649) (z := (nI 1)) rfl rfl rfl rfl rfl (by decide +kernel) ?_
  refine l_ialz (p' := 650) (m := 1) (z := p) rfl rfl (by decide +kernel) rfl hx1 rfl ?_
  refine l_aldn (p' := 651) rfl rfl rfl rfl ?_
  refine l_call (p' := 654) (kc := 99) (ls0 := [_, _, _, _]) rfl rfl rfl rfl rfl rfl rfl rfl rfl rfl ?_
  refine s_aldn (p' := 1) rfl rfl rfl ?_
  refine s_con (p' := 2) rfl rfl ?_
  refine s_aldn (p' := 3) rfl rfl rfl ?_
  refine s_ildn (p' := 4) rfl rfl rfl ?_
  refine c_call (p' := 7) (kc := 98) (ls0 := [_, _]) rfl rfl rfl rfl rfl (mj_rcv_is H0) rfl rfl rfl ?_
  refine s_aldn (p' := 1) rfl rfl rfl ?_
  refine s_gf (p' := 4) rfl H0 rfl rfl ?_
  refine s_ildn (p' := 5) rfl rfl rfl ?_
  refine c_call (p' := 8) (kc := 97) (ls0 := [_, _]) rfl rfl rfl rfl rfl (mj_rcv_is H38) rfl rfl rfl ?_
  refine s_ildn (p' := 1) rfl rfl rfl ?_
  refine s_if (p' := 4) false rfl ((cg_lt (w := 0) (by decide +kernel)).trans (decide_eq_false (by omega))) rfl ?_
  refine s_ildn (p' := 5) rfl rfl rfl ?_
  refine s_aldn (p' := 6) rfl rfl rfl ?_
  refine s_gf (p' := 9) rfl H38 rfl rfl ?_
  refine s_icmp (p' := 16) true rfl ((cg_ge (w := 0) (by decide +kernel)).trans (decide_eq_true (by omega))) rfl ?_
  refine s_con (p' := 17) rfl rfl ?_
  refine c_iret rfl (by decide +kernel) ?_
  refine s_if (p' := 11) false rfl (by decide +kernel) rfl ?_
  refine s_thrz (q := 414) rfl HL rfl ?_
  refine K_c (hp := 12) rfl (mj_ocl_is (rd_nw rfl HL)) rfl ?_
  refine s_astn (p' := 13) (ls' := [_, _, _, _]) rfl rfl rfl rfl ?_
  refine s_con (p' := 14) rfl rfl ?_
  refine k_iret rfl rfl ?_
  refine l_ist (p' := 656) (ls' := [_, _, _, _, _, _, _, _, _, _]) rfl rfl rfl rfl rfl ?_
  refine l_aldn (p' := 657) rfl rfl rfl rfl ?_
  refine l_alds (p' := 658) rfl rfl rfl rfl ?_
  refine l_ild (p' := 660) rfl rfl rfl rfl ?_
  refine l_con (p' := 661) rfl rfl rfl ?_
  refine l_bz (p' := 662) (z := (nI 1)) rfl rfl rfl rfl rfl (by decide +kernel) ?_
  refine l_ialz (p' := 663) (m := 1) (z := p) rfl rfl (by decide +kernel) rfl hx1 rfl ?_
  refine l_call (p' := 666) (kc := 99) (ls0 := [_, _]) rfl rfl rfl rfl rfl rfl (mj_rcv_is (rd_app H400)) rfl rfl rfl ?_
  refine s_aldn (p' := 1) rfl rfl rfl ?_
  refine s_aldn (p' := 2) rfl rfl rfl ?_
  refine s_ildn (p' := 3) rfl rfl rfl ?_
  refine c_call (p' := 6) (kc := 98) (ls0 := [_, _]) rfl rfl rfl rfl rfl (mj_rcv_is (rd_app H400)) rfl rfl rfl ?_
  refine s_ildn (p' := 1) rfl rfl rfl ?_
  refine s_con (p' := 2) rfl rfl ?_
  refine s_aldn (p' := 3) rfl rfl rfl ?_
  refine s_gf (p' := 6) rfl (rd_app H400) rfl rfl ?_
  refine c_call (p' := 11) (kc := 97) (ls0 := [_]) rfl rfl rfl rfl rfl (mj_rcv_is (rd_app H401)) rfl rfl rfl ?_
  refine s_aldn (p' := 1) rfl rfl rfl ?_
  refine s_gf (p' := 4) rfl (rd_app H401) rfl rfl ?_
  refine c_iret rfl rfl ?_
  refine s_con (p' := 12) rfl rfl ?_
  refine s_bz (p' := 13) (z := (nI 4294967295)) rfl rfl rfl (by decide +kernel) ?_
  refine c_call (p' := 16) (kc := 97) (ls0 := [_, _, _]) rfl rfl rfl rfl rfl rfl rfl rfl rfl ?_
  refine s_ildn (p' := 1) rfl rfl rfl ?_
  refine s_ildn (p' := 2) rfl rfl rfl ?_
  refine s_icmp (p' := 5) false rfl ((ch_gt (w := 0) (by decide +kernel)).trans (decide_eq_false (by omega))) rfl ?_
  refine s_ildn (p' := 6) rfl rfl rfl ?_
  refine s_ildn (p' := 7) rfl rfl rfl ?_
  refine s_icmp (p' := 14) true rfl ((cg_gt (w := -1) (by decide +kernel)).trans (decide_eq_true (by omega))) rfl ?_
  refine s_con (p' := 15) rfl rfl ?_
  refine c_iret rfl (by decide +kernel) ?_
  refine c_iret rfl (by decide +kernel) ?_
  refine s_if (p' := 13) true rfl (by decide +kernel) rfl ?_
  refine s_con (p' := 14) rfl rfl ?_
  refine c_call (p' := 17) (kc := 98) (ls0 := [_, _]) rfl rfl rfl rfl rfl (mj_rcv_is (rd_app H400)) rfl rfl rfl ?_
  refine s_aldn (p' := 1) rfl rfl rfl ?_
  refine s_ildn (p' := 2) rfl rfl rfl ?_
  refine s_pfz (p' := 5) (fs' := [_, _, _, _, _, _, _, _, _, _, _]) rfl rfl (rd_app H400) rfl rfl rfl rfl ?_
  refine s_ildn (p' := 6) rfl rfl rfl ?_
  refine s_if (p' := 9) false rfl (by decide +kernel) rfl ?_
  refine s_con (p' := 10) rfl rfl ?_
  refine s_goto (p' := 14) rfl rfl ?_
  refine c_iret rfl (by decide +kernel) ?_
  refine s_if (p' := 20) false rfl (by decide +kernel) rfl ?_
  refine s_con (p' := 21) rfl rfl ?_
  refine s_goto (p' := 45) rfl rfl ?_
  refine k_iret rfl rfl ?_
  refine l_ist (p' := 668) (ls' := [_, _, _, _, _, _, _, _, _, _]) rfl rfl rfl rfl rfl ?_
  refine l_aldn (p' := 669) rfl rfl rfl rfl ?_
  refine l_call (p' := 672) (kc := 99) (ls0 := [_]) rfl rfl rfl rfl rfl rfl (mj_rcv_is (rd_ss rfl (rd_app H400))) rfl rfl rfl ?_
  refine s_aldn (p' := 1) rfl rfl rfl ?_
  refine s_gf (p' := 4) rfl (rd_ss rfl (rd_app H400)) rfl rfl ?_
  refine k_iret rfl rfl ?_
  refine l_ild (p' := 674) rfl rfl rfl rfl ?_
  refine l_icmp (p' := 679) true rfl rfl (by decide +kernel) rfl ?_
  refine l_ild (p' := 681) rfl rfl rfl rfl ?_
  refine l_if (p' := 696) true rfl rfl (by decide +kernel) rfl ?_
  refine l_goto (p' := 2541) rfl rfl rfl ?_
  refine l_incz (p' := 2544) (w := (nI 4)) (ls' := [_, _, _, _, _, _, _, _, _, _]) rfl rfl rfl rfl (by decide +kernel) rfl rfl ?_
  refine l_goto (p' := 28) rfl rfl rfl ?_
  refine l_ild (p' := 30) rfl rfl rfl rfl ?_
  refine l_alds (p' := 31) rfl rfl rfl rfl ?_
  refine l_lens (p' := 32) rfl rfl rfl ?_
  refine l_con (p' := 33) rfl rfl rfl ?_
  refine l_bz (p' := 34) (z := (nI 0)) rfl rfl rfl rfl rfl (by decide +kernel) ?_
  refine l_icmp (p' := 2547) true rfl rfl (by decide +kernel) rfl ?_
  refine l_con (p' := 2548) rfl rfl rfl ?_
  refine l_end rfl rfl ?_
  exact ⟨Nat.le_trans (Nat.le_of_eq (len_s (len_a HL rfl))) (Nat.le_of_ble_eq_true rfl), Nat.le_trans (sz_s rfl (rd_app H400) rfl (sz_aa (k := 6) (m := 20006) rfl rfl HZ)) (Nat.le_of_ble_eq_true rfl)⟩
theorem p1_7_n {xs : Nat → Int32} {h : mj_H} (hk : xs 0 &&& nI 63 = nI 7) {p : Int32} (hx1 : xs 1 = p) (hp : p.toInt < 0) (HL : h.length = 414) (HZ : mj_sz h ≤ 20000) (H0 : mj_rd h 0 = some (.inr (0, [.ref 1, .ref 38, .ref 299, .ref 336, .ref 373, .ref 375, .ref 378, .ref 381, .ref 387, .ref 393, .null, .null, .ref 397, .ref 398, .ref 399, .long (lN 0), .long (lN 0)]))) (H38 : mj_rd h 38 = some (.inr (6, [.ref 39, .ref 40, .int (nI 0)]))) (H400 : mj_rd h 400 = some (.inr (17, [.int (nI 0), .ref 401, .ref 402, .ref 1000300, .long (lN 0), .long (lN 0), .ref 410, .null, .null, .null, .ref 411]))) (H401 : mj_rd h 401 = some (.inr (18, [.ref 1000000, .int (nI 0), .int (nI 0)]))) : mj_fin 4 xs h := by
  unfold mj_fin
  refine l_ild (p' := 30) rfl rfl rfl rfl ?_
  refine l_alds (p' := 31) rfl rfl rfl rfl ?_
  refine l_lens (p' := 32) rfl rfl rfl ?_
  refine l_con (p' := 33) rfl rfl rfl ?_
  refine l_bz (p' := 34) (z := (nI 0)) rfl rfl rfl rfl rfl (by decide +kernel) ?_
  refine l_icmp (p' := 37) false rfl rfl (by decide +kernel) rfl ?_
  refine l_alds (p' := 38) rfl rfl rfl rfl ?_
  refine l_ild (p' := 40) rfl rfl rfl rfl ?_
  refine l_ialz (p' := 41) (m := 0) (z := (xs 0)) rfl rfl (by decide +kernel) rfl rfl rfl ?_
  refine l_bip (p' := 43) rfl rfl rfl ?_
  refine l_bz (p' := 44) (z := (nI 7)) rfl rfl rfl rfl rfl hk ?_
  refine l_sp (p' := 575) (ls' := _) rfl rfl rfl rfl rfl ?_
  refine l_aldn (p' := 576) rfl rfl rfl rfl ?_
  refine l_alds (p' := 577) rfl rfl rfl rfl ?_
  refine l_ild (p' := 579) rfl rfl rfl rfl ?_
  refine l_con (p' := 580) rfl rfl rfl ?_
  refine l_bz (p' := 581) (z := (nI 1)) rfl rfl rfl rfl rfl (by decide +kernel) ?_
  refine l_ialz (p' := 582) (m := 1) (z := p) rfl rfl (by decide +kernel) rfl hx1 rfl ?_
  refine l_alds (p' := 583) rfl rfl rfl rfl ?_
  refine l_ild (p' := 585) rfl rfl rfl rfl ?_
  refine l_con (p' := 586) rfl rfl rfl ?_
  refine l_bz (p' := 587) (z := (nI 2)) rfl rfl rfl rfl rfl (by decide +kernel) ?_
  refine l_ialz (p' := 588) (m := 2) (z := (xs 2)) rfl rfl (by decide +kernel) rfl rfl rfl ?_
  refine l_aldn (p' := 589) rfl rfl rfl rfl ?_
  refine l_call (p' := 592) (kc := 99) (ls0 := [_, _, _, _, _]) rfl rfl rfl rfl rfl rfl rfl rfl rfl rfl ?_
  refine s_aldn (p' := 1) rfl rfl rfl ?_
  refine s_con (p' := 2) rfl rfl ?_
  refine s_aldn (p' := 3) rfl rfl rfl ?_
  refine s_ildn (p' := 4) rfl rfl rfl ?_
  refine s_ildn (p' := 5) rfl rfl rfl ?_
  refine c_call (p' := 8) (kc := 98) (ls0 := [_, _, _, _]) rfl rfl rfl rfl rfl (mj_rcv_is H0) rfl rfl rfl ?_
  refine s_aldn (p' := 1) rfl rfl rfl ?_
  refine s_gf (p' := 4) rfl H0 rfl rfl ?_
  refine s_ildn (p' := 5) rfl rfl rfl ?_
  refine c_call (p' := 8) (kc := 97) (ls0 := [_, _]) rfl rfl rfl rfl rfl (mj_rcv_is H38) rfl rfl rfl ?_
  refine s_ildn (p' := 1) rfl rfl rfl ?_
  refine s_if (p' := 16) true rfl ((cg_lt (w := 0) (by decide +kernel)).trans (decide_eq_true (by omega))) rfl ?_
  refine s_con (p' := 17) rfl rfl ?_
  refine c_iret rfl (by decide +kernel) ?_
  refine s_if (p' := 11) false rfl (by decide +kernel) rfl ?_
  refine s_thrz (q := 414) rfl HL rfl ?_
  refine K_c (hp := 13) rfl (mj_ocl_is (rd_nw rfl HL)) rfl ?_
  refine s_ast (p' := 15) (ls' := [_, _, _, _, _]) rfl rfl rfl rfl ?_
  refine s_con (p' := 16) rfl rfl ?_
  refine k_iret rfl rfl ?_
  refine l_ist (p' := 594) (ls' := [_, _, _, _, _, _, _, _, _, _]) rfl rfl rfl rfl rfl ?_
  refine l_aldn (p' := 595) rfl rfl rfl rfl ?_
  refine l_alds (p' := 596) rfl rfl rfl rfl ?_
  refine l_ild (p' := 598) rfl rfl rfl rfl ?_
  refine l_con (p' := 599) rfl rfl rfl ?_
  refine l_bz (p' := 600) (z := (nI 1)) rfl rfl rfl rfl rfl (by decide +kernel) ?_
  refine l_ialz (p' := 601) (m := 1) (z := p) rfl rfl (by decide +kernel) rfl hx1 rfl ?_
  refine l_alds (p' := 602) rfl rfl rfl rfl ?_
  refine l_ild (p' := 604) rfl rfl rfl rfl ?_
  refine l_con (p' := 605) rfl rfl rfl ?_
  refine l_bz (p' := 606) (z := (nI 2)) rfl rfl rfl rfl rfl (by decide +kernel) ?_
  refine l_ialz (p' := 607) (m := 2) (z := (xs 2)) rfl rfl (by decide +kernel) rfl rfl rfl ?_
  refine l_call (p' := 610) (kc := 99) (ls0 := [_, _, _]) rfl rfl rfl rfl rfl rfl (mj_rcv_is (rd_app H400)) rfl rfl rfl ?_
  refine s_aldn (p' := 1) rfl rfl rfl ?_
  refine s_aldn (p' := 2) rfl rfl rfl ?_
  refine s_ildn (p' := 3) rfl rfl rfl ?_
  refine c_call (p' := 6) (kc := 98) (ls0 := [_, _]) rfl rfl rfl rfl rfl (mj_rcv_is (rd_app H400)) rfl rfl rfl ?_
  refine s_ildn (p' := 1) rfl rfl rfl ?_
  refine s_con (p' := 2) rfl rfl ?_
  refine s_aldn (p' := 3) rfl rfl rfl ?_
  refine s_gf (p' := 6) rfl (rd_app H400) rfl rfl ?_
  refine c_call (p' := 11) (kc := 97) (ls0 := [_]) rfl rfl rfl rfl rfl (mj_rcv_is (rd_app H401)) rfl rfl rfl ?_
  refine s_aldn (p' := 1) rfl rfl rfl ?_
  refine s_gf (p' := 4) rfl (rd_app H401) rfl rfl ?_
  refine c_iret rfl rfl ?_
  refine s_con (p' := 12) rfl rfl ?_
  refine s_bz (p' := 13) (z := (nI 4294967295)) rfl rfl rfl (by decide +kernel) ?_
  refine c_call (p' := 16) (kc := 97) (ls0 := [_, _, _]) rfl rfl rfl rfl rfl rfl rfl rfl rfl ?_
  refine s_ildn (p' := 1) rfl rfl rfl ?_
  refine s_ildn (p' := 2) rfl rfl rfl ?_
  refine s_icmp (p' := 14) true rfl ((ch_gt (w := 0) (by decide +kernel)).trans (decide_eq_true (by omega))) rfl ?_
  refine s_con (p' := 15) rfl rfl ?_
  refine c_iret rfl (by decide +kernel) ?_
  refine c_iret rfl (by decide +kernel) ?_
  refine s_if (p' := 42) true rfl (by decide +kernel) rfl ?_
  refine s_con (p' := 43) rfl rfl ?_
  refine c_call (p' := 46) (kc := 98) (ls0 := [_, _]) rfl rfl rfl rfl rfl (mj_rcv_is (rd_app H400)) rfl rfl rfl ?_
  refine s_aldn (p' := 1) rfl rfl rfl ?_
  refine s_ildn (p' := 2) rfl rfl rfl ?_
  refine s_pfz (p' := 5) (fs' := [_, _, _, _, _, _, _, _, _, _, _]) rfl rfl (rd_app H400) rfl rfl rfl rfl ?_
  refine s_ildn (p' := 6) rfl rfl rfl ?_
  refine s_if (p' := 9) false rfl (by decide +kernel) rfl ?_
  refine s_con (p' := 10) rfl rfl ?_
  refine s_goto (p' := 14) rfl rfl ?_
  refine c_iret rfl (by decide +kernel) ?_
  refine s_if (p' := 49) false rfl (by decide +kernel) rfl ?_
  refine s_con (p' := 50) rfl rfl ?_
  refine s_goto (p' := 73) rfl rfl ?_
  refine k_iret rfl (by decide +kernel) ?_
  refine l_ist (p' := 612) (ls' := [_, _, _, _, _, _, _, _, _, _]) rfl rfl rfl rfl rfl ?_
  refine l_aldn (p' := 613) rfl rfl rfl rfl ?_
  refine l_call (p' := 616) (kc := 99) (ls0 := [_]) rfl rfl rfl rfl rfl rfl (mj_rcv_is (rd_ss rfl (rd_app H400))) rfl rfl rfl ?_
  refine s_aldn (p' := 1) rfl rfl rfl ?_
  refine s_gf (p' := 4) rfl (rd_ss rfl (rd_app H400)) rfl rfl ?_
  refine k_iret rfl rfl ?_
  refine l_ild (p' := 618) rfl rfl rfl rfl ?_
  refine l_icmp (p' := 623) true rfl rfl (by decide +kernel) rfl ?_
  refine l_ild (p' := 625) rfl rfl rfl rfl ?_
  refine l_if (p' := 640) true rfl rfl (by decide +kernel) rfl ?_
  refine l_goto (p' := 2541) rfl rfl rfl ?_
  refine l_incz (p' := 2544) (w := (nI 4)) (ls' := [_, _, _, _, _, _, _, _, _, _]) rfl rfl rfl rfl (by decide +kernel) rfl rfl ?_
  refine l_goto (p' := 28) rfl rfl rfl ?_
  refine l_ild (p' := 30) rfl rfl rfl rfl ?_
  refine l_alds (p' := 31) rfl rfl rfl rfl ?_
  refine l_lens (p' := 32) rfl rfl rfl ?_
  refine l_con (p' := 33) rfl rfl rfl ?_
  refine l_bz (p' := 34) (z := (nI 0)) rfl rfl rfl rfl rfl (by decide +kernel) ?_
  refine l_icmp (p' := 2547) true rfl rfl (by decide +kernel) rfl ?_
  refine l_con (p' := 2548) rfl rfl rfl ?_
  refine l_end rfl rfl ?_
  exact ⟨Nat.le_trans (Nat.le_of_eq (len_s (len_a HL rfl))) (Nat.le_of_ble_eq_true rfl), Nat.le_trans (sz_s rfl (rd_app H400) rfl (sz_aa (k := 6) (m := 20006) rfl rfl HZ)) (Nat.le_of_ble_eq_true rfl)⟩
theorem p1_7_p {xs : Nat → Int32} {h : mj_H} (hk : xs 0 &&& nI 63 = nI 7) {p : Int32} (hx1 : xs 1 = p) (hp : 0 ≤ p.toInt) (HL : h.length = 414) (HZ : mj_sz h ≤ 20000) (H0 : mj_rd h 0 = some (.inr (0, [.ref 1, .ref 38, .ref 299, .ref 336, .ref 373, .ref 375, .ref 378, .ref 381, .ref 387, .ref 393, .null, .null, .ref 397, .ref 398, .ref 399, .long (lN 0), .long (lN 0)]))) (H38 : mj_rd h 38 = some (.inr (6, [.ref 39, .ref 40, .int (nI 0)]))) (H400 : mj_rd h 400 = some (.inr (17, [.int (nI 0), .ref 401, .ref 402, .ref 1000300, .long (lN 0), .long (lN 0), .ref 410, .null, .null, .null, .ref 411]))) (H401 : mj_rd h 401 = some (.inr (18, [.ref 1000000, .int (nI 0), .int (nI 0)]))) : mj_fin 4 xs h := by
  unfold mj_fin
  refine l_ild (p' := 30) rfl rfl rfl rfl ?_
  refine l_alds (p' := 31) rfl rfl rfl rfl ?_
  refine l_lens (p' := 32) rfl rfl rfl ?_
  refine l_con (p' := 33) rfl rfl rfl ?_
  refine l_bz (p' := 34) (z := (nI 0)) rfl rfl rfl rfl rfl (by decide +kernel) ?_
  refine l_icmp (p' := 37) false rfl rfl (by decide +kernel) rfl ?_
  refine l_alds (p' := 38) rfl rfl rfl rfl ?_
  refine l_ild (p' := 40) rfl rfl rfl rfl ?_
  refine l_ialz (p' := 41) (m := 0) (z := (xs 0)) rfl rfl (by decide +kernel) rfl rfl rfl ?_
  refine l_bip (p' := 43) rfl rfl rfl ?_
  refine l_bz (p' := 44) (z := (nI 7)) rfl rfl rfl rfl rfl hk ?_
  refine l_sp (p' := 575) (ls' := _) rfl rfl rfl rfl rfl ?_
  refine l_aldn (p' := 576) rfl rfl rfl rfl ?_
  refine l_alds (p' := 577) rfl rfl rfl rfl ?_
  refine l_ild (p' := 579) rfl rfl rfl rfl ?_
  refine l_con (p' := 580) rfl rfl rfl ?_
  refine l_bz (p' := 581) (z := (nI 1)) rfl rfl rfl rfl rfl (by decide +kernel) ?_
  refine l_ialz (p' := 582) (m := 1) (z := p) rfl rfl (by decide +kernel) rfl hx1 rfl ?_
  refine l_alds (p' := 583) rfl rfl rfl rfl ?_
  refine l_ild (p' := 585) rfl rfl rfl rfl ?_
  refine l_con (p' := 586) rfl rfl rfl ?_
  refine l_bz (p' := 587) (z := (nI 2)) rfl rfl rfl rfl rfl (by decide +kernel) ?_
  refine l_ialz (p' := 588) (m := 2) (z := (xs 2)) rfl rfl (by decide +kernel) rfl rfl rfl ?_
  refine l_aldn (p' := 589) rfl rfl rfl rfl ?_
  refine l_call (p' := 592) (kc := 99) (ls0 := [_, _, _, _, _]) rfl rfl rfl rfl rfl rfl rfl rfl rfl rfl ?_
  refine s_aldn (p' := 1) rfl rfl rfl ?_
  refine s_con (p' := 2) rfl rfl ?_
  refine s_aldn (p' := 3) rfl rfl rfl ?_
  refine s_ildn (p' := 4) rfl rfl rfl ?_
  refine s_ildn (p' := 5) rfl rfl rfl ?_
  refine c_call (p' := 8) (kc := 98) (ls0 := [_, _, _, _]) rfl rfl rfl rfl rfl (mj_rcv_is H0) rfl rfl rfl ?_
  refine s_aldn (p' := 1) rfl rfl rfl ?_
  refine s_gf (p' := 4) rfl H0 rfl rfl ?_
  refine s_ildn (p' := 5) rfl rfl rfl ?_
  refine c_call (p' := 8) (kc := 97) (ls0 := [_, _]) rfl rfl rfl rfl rfl (mj_rcv_is H38) rfl rfl rfl ?_
  refine s_ildn (p' := 1) rfl rfl rfl ?_
  refine s_if (p' := 4) false rfl ((cg_lt (w := 0) (by decide +kernel)).trans (decide_eq_false (by omega))) rfl ?_
  refine s_ildn (p' := 5) rfl rfl rfl ?_
  refine s_aldn (p' := 6) rfl rfl rfl ?_
  refine s_gf (p' := 9) rfl H38 rfl rfl ?_
  refine s_icmp (p' := 16) true rfl ((cg_ge (w := 0) (by decide +kernel)).trans (decide_eq_true (by omega))) rfl ?_
  refine s_con (p' := 17) rfl rfl ?_
  refine c_iret rfl (by decide +kernel) ?_
  refine s_if (p' := 11) false rfl (by decide +kernel) rfl ?_
  refine s_thrz (q := 414) rfl HL rfl ?_
  refine K_c (hp := 13) rfl (mj_ocl_is (rd_nw rfl HL)) rfl ?_
  refine s_ast (p' := 15) (ls' := [_, _, _, _, _]) rfl rfl rfl rfl ?_
  refine s_con (p' := 16) rfl rfl ?_
  refine k_iret rfl rfl ?_
  refine l_ist (p' := 594) (ls' := [_, _, _, _, _, _, _, _, _, _]) rfl rfl rfl rfl rfl ?_
  refine l_aldn (p' := 595) rfl rfl rfl rfl ?_
  refine l_alds (p' := 596) rfl rfl rfl rfl ?_
  refine l_ild (p' := 598) rfl rfl rfl rfl ?_
  refine l_con (p' := 599) rfl rfl rfl ?_
  refine l_bz (p' := 600) (z := (nI 1)) rfl rfl rfl rfl rfl (by decide +kernel) ?_
  refine l_ialz (p' := 601) (m := 1) (z := p) rfl rfl (by decide +kernel) rfl hx1 rfl ?_
  refine l_alds (p' := 602) rfl rfl rfl rfl ?_
  refine l_ild (p' := 604) rfl rfl rfl rfl ?_
  refine l_con (p' := 605) rfl rfl rfl ?_
  refine l_bz (p' := 606) (z := (nI 2)) rfl rfl rfl rfl rfl (by decide +kernel) ?_
  refine l_ialz (p' := 607) (m := 2) (z := (xs 2)) rfl rfl (by decide +kernel) rfl rfl rfl ?_
  refine l_call (p' := 610) (kc := 99) (ls0 := [_, _, _]) rfl rfl rfl rfl rfl rfl (mj_rcv_is (rd_app H400)) rfl rfl rfl ?_
  refine s_aldn (p' := 1) rfl rfl rfl ?_
  refine s_aldn (p' := 2) rfl rfl rfl ?_
  refine s_ildn (p' := 3) rfl rfl rfl ?_
  refine c_call (p' := 6) (kc := 98) (ls0 := [_, _]) rfl rfl rfl rfl rfl (mj_rcv_is (rd_app H400)) rfl rfl rfl ?_
  refine s_ildn (p' := 1) rfl rfl rfl ?_
  refine s_con (p' := 2) rfl rfl ?_
  refine s_aldn (p' := 3) rfl rfl rfl ?_
  refine s_gf (p' := 6) rfl (rd_app H400) rfl rfl ?_
  refine c_call (p' := 11) (kc := 97) (ls0 := [_]) rfl rfl rfl rfl rfl (mj_rcv_is (rd_app H401)) rfl rfl rfl ?_
  refine s_aldn (p' := 1) rfl rfl rfl ?_
  refine s_gf (p' := 4) rfl (rd_app H401) rfl rfl ?_
  refine c_iret rfl rfl ?_
  refine s_con (p' := 12) rfl rfl ?_
  refine s_bz (p' := 13) (z := (nI 4294967295)) rfl rfl rfl (by decide +kernel) ?_
  refine c_call (p' := 16) (kc := 97) (ls0 := [_, _, _]) rfl rfl rfl rfl rfl rfl rfl rfl rfl ?_
  refine s_ildn (p' := 1) rfl rfl rfl ?_
  refine s_ildn (p' := 2) rfl rfl rfl ?_
  refine s_icmp (p' := 5) false rfl ((ch_gt (w := 0) (by decide +kernel)).trans (decide_eq_false (by omega))) rfl ?_
  refine s_ildn (p' := 6) rfl rfl rfl ?_
  refine s_ildn (p' := 7) rfl rfl rfl ?_
  refine s_icmp (p' := 14) true rfl ((cg_gt (w := -1) (by decide +kernel)).trans (decide_eq_true (by omega))) rfl ?_
  refine s_con (p' := 15) rfl rfl ?_
  refine c_iret rfl (by decide +kernel) ?_
  refine c_iret rfl (by decide +kernel) ?_
  refine s_if (p' := 42) true rfl (by decide +kernel) rfl ?_
  refine s_con (p' := 43) rfl rfl ?_
  refine c_call (p' := 46) (kc := 98) (ls0 := [_, _]) rfl rfl rfl rfl rfl (mj_rcv_is (rd_app H400)) rfl rfl rfl ?_
  refine s_aldn (p' := 1) rfl rfl rfl ?_
  refine s_ildn (p' := 2) rfl rfl rfl ?_
  refine s_pfz (p' := 5) (fs' := [_, _, _, _, _, _, _, _, _, _, _]) rfl rfl (rd_app H400) rfl rfl rfl rfl ?_
  refine s_ildn (p' := 6) rfl rfl rfl ?_
  refine s_if (p' := 9) false rfl (by decide +kernel) rfl ?_
  refine s_con (p' := 10) rfl rfl ?_
  refine s_goto (p' := 14) rfl rfl ?_
  refine c_iret rfl (by decide +kernel) ?_
  refine s_if (p' := 49) false rfl (by decide +kernel) rfl ?_
  refine s_con (p' := 50) rfl rfl ?_
  refine s_goto (p' := 73) rfl rfl ?_
  refine k_iret rfl (by decide +kernel) ?_
  refine l_ist (p' := 612) (ls' := [_, _, _, _, _, _, _, _, _, _]) rfl rfl rfl rfl rfl ?_
  refine l_aldn (p' := 613) rfl rfl rfl rfl ?_
  refine l_call (p' := 616) (kc := 99) (ls0 := [_]) rfl rfl rfl rfl rfl rfl (mj_rcv_is (rd_ss rfl (rd_app H400))) rfl rfl rfl ?_
  refine s_aldn (p' := 1) rfl rfl rfl ?_
  refine s_gf (p' := 4) rfl (rd_ss rfl (rd_app H400)) rfl rfl ?_
  refine k_iret rfl rfl ?_
  refine l_ild (p' := 618) rfl rfl rfl rfl ?_
  refine l_icmp (p' := 623) true rfl rfl (by decide +kernel) rfl ?_
  refine l_ild (p' := 625) rfl rfl rfl rfl ?_
  refine l_if (p' := 640) true rfl rfl (by decide +kernel) rfl ?_
  refine l_goto (p' := 2541) rfl rfl rfl ?_
  refine l_incz (p' := 2544) (w := (nI 4)) (ls' := [_, _, _, _, _, _, _, _, _, _]) rfl rfl rfl rfl (by decide +kernel) rfl rfl ?_
  refine l_goto (p' := 28) rfl rfl rfl ?_
  refine l_ild (p' := 30) rfl rfl rfl rfl ?_
  refine l_alds (p' := 31) rfl rfl rfl rfl ?_
  refine l_lens (p' := 32) rfl rfl rfl ?_
  refine l_con (p' := 33) rfl rfl rfl ?_
  refine l_bz (p' := 34) (z := (nI 0)) rfl rfl rfl rfl rfl (by decide +kernel) ?_
  refine l_icmp (p' := 2547) true rfl rfl (by decide +kernel) rfl ?_
  refine l_con (p' := 2548) rfl rfl rfl ?_
  refine l_end rfl rfl ?_
  exact ⟨Nat.le_trans (Nat.le_of_eq (len_s (len_a HL rfl))) (Nat.le_of_ble_eq_true rfl), Nat.le_trans (sz_s rfl (rd_app H400) rfl (sz_aa (k := 6) (m := 20006) rfl rfl HZ)) (Nat.le_of_ble_eq_true rfl)⟩
theorem p1_9_n {xs : Nat → Int32} {h : mj_H} (hk : xs 0 &&& nI 63 = nI 9) {p : Int32} (hx1 : xs 1 = p) (hp : p.toInt < 0) (HL : h.length = 414) (HZ : mj_sz h ≤ 20000) (H0 : mj_rd h 0 = some (.inr (0, [.ref 1, .ref 38, .ref 299, .ref 336, .ref 373, .ref 375, .ref 378, .ref 381, .ref 387, .ref 393, .null, .null, .ref 397, .ref 398, .ref 399, .long (lN 0), .long (lN 0)]))) (H38 : mj_rd h 38 = some (.inr (6, [.ref 39, .ref 40, .int (nI 0)]))) (H400 : mj_rd h 400 = some (.inr (17, [.int (nI 0), .ref 401, .ref 402, .ref 1000300, .long (lN 0), .long (lN 0), .ref 410, .null, .null, .null, .ref 411]))) (H401 : mj_rd h 401 = some (.inr (18, [.ref 1000000, .int (nI 0), .int (nI 0)]))) : mj_fin 4 xs h := by
  unfold mj_fin
  refine l_ild (p' := 30) rfl rfl rfl rfl ?_
  refine l_alds (p' := 31) rfl rfl rfl rfl ?_
  refine l_lens (p' := 32) rfl rfl rfl ?_
  refine l_con (p' := 33) rfl rfl rfl ?_
  refine l_bz (p' := 34) (z := (nI 0)) rfl rfl rfl rfl rfl (by decide +kernel) ?_
  refine l_icmp (p' := 37) false rfl rfl (by decide +kernel) rfl ?_
  refine l_alds (p' := 38) rfl rfl rfl rfl ?_
  refine l_ild (p' := 40) rfl rfl rfl rfl ?_
  refine l_ialz (p' := 41) (m := 0) (z := (xs 0)) rfl rfl (by decide +kernel) rfl rfl rfl ?_
  refine l_bip (p' := 43) rfl rfl rfl ?_
  refine l_bz (p' := 44) (z := (nI 9)) rfl rfl rfl rfl rfl hk ?_
  refine l_sp (p' := 699) (ls' := _) rfl rfl rfl rfl rfl ?_
  refine l_aldn (p' := 700) rfl rfl rfl rfl ?_
  refine l_alds (p' := 701) rfl rfl rfl rfl ?_
  refine l_ild (p' := 703) rfl rfl rfl rfl ?_
  refine l_con (p' := 704) rfl rfl rfl ?_
  refine l_bz (p' := 705) (z := (nI 1)) rfl rfl rfl rfl rfl (by decide +kernel) ?_
  refine l_ialz (p' := 706) (m := 1) (z := p) rfl rfl (by decide +kernel) rfl hx1 rfl ?_
  refine l_alds (p' := 707) rfl rfl rfl rfl ?_
  refine l_ild (p' := 709) rfl rfl rfl rfl ?_
  refine l_con (p' := 710) rfl rfl rfl ?_
  refine l_bz (p' := 711) (z := (nI 2)) rfl rfl rfl rfl rfl (by decide +kernel) ?_
  refine l_ialz (p' := 712) (m := 2) (z := (xs 2)) rfl rfl (by decide +kernel) rfl rfl rfl ?_
  refine l_aldn (p' := 713) rfl rfl rfl rfl ?_
  refine l_call (p' := 716) (kc := 99) (ls0 := [_, _, _, _, _]) rfl rfl rfl rfl rfl rfl rfl rfl rfl rfl ?_
  refine s_aldn (p' := 1) rfl rfl rfl ?_
  refine s_con (p' := 2) rfl rfl ?_
  refine s_aldn (p' := 3) rfl rfl rfl ?_
  refine s_ildn (p' := 4) rfl rfl rfl ?_
  refine s_ildn (p' := 5) rfl rfl rfl ?_
  refine c_call (p' := 8) (kc := 98) (ls0 := [_, _, _, _]) rfl rfl rfl rfl rfl (mj_rcv_is H0) rfl rfl rfl ?_
  refine s_aldn (p' := 1) rfl rfl rfl ?_
  refine s_gf (p' := 4) rfl H0 rfl rfl ?_
  refine s_ildn (p' := 5) rfl rfl rfl ?_
  refine c_call (p' := 8) (kc := 97) (ls0 := [_, _]) rfl rfl rfl rfl rfl (mj_rcv_is H38) rfl rfl rfl ?_
  refine s_ildn (p' := 1) rfl rfl rfl ?_
  refine s_if (p' := 16) true rfl ((cg_lt (w := 0) (by decide +kernel)).trans (decide_eq_true (by omega))) rfl ?_
  refine s_con (p' := 17) rfl rfl ?_
  refine c_iret rfl (by decide +kernel) ?_
  refine s_if (p' := 11) false rfl (by decide +kernel) rfl ?_
  refine s_thrz (q := 414) rfl HL rfl ?_
  refine K_c (hp := 13) rfl (mj_ocl_is (rd_nw rfl HL)) rfl ?_
  refine s_ast (p' := 15) (ls' := [_, _, _, _, _]) rfl rfl rfl rfl ?_
  refine s_con (p' := 16) rfl rfl ?_
  refine k_iret rfl rfl ?_
  refine l_ist (p' := 718) (ls' := [_, _, _, _, _, _, _, _, _, _]) rfl rfl rfl rfl rfl ?_
  refine l_aldn (p' := 719) rfl rfl rfl rfl ?_
  refine l_alds (p' := 720) rfl rfl rfl rfl ?_
  refine l_ild (p' := 722) rfl rfl rfl rfl ?_
  refine l_con (p' := 723) rfl rfl rfl ?_
  refine l_bz (p' := 724) (z := (nI 1)) rfl rfl rfl rfl rfl (by decide +kernel) ?_
  refine l_ialz (p' := 725) (m := 1) (z := p) rfl rfl (by decide +kernel) rfl hx1 rfl ?_
  refine l_alds (p' := 726) rfl rfl rfl rfl ?_
  refine l_ild (p' := 728) rfl rfl rfl rfl ?_
  refine l_con (p' := 729) rfl rfl rfl ?_
  refine l_bz (p' := 730) (z := (nI 2)) rfl rfl rfl rfl rfl (by decide +kernel) ?_
  refine l_ialz (p' := 731) (m := 2) (z := (xs 2)) rfl rfl (by decide +kernel) rfl rfl rfl ?_
  refine l_call (p' := 734) (kc := 99) (ls0 := [_, _, _]) rfl rfl rfl rfl rfl rfl (mj_rcv_is (rd_app H400)) rfl rfl rfl ?_
  refine s_aldn (p' := 1) rfl rfl rfl ?_
  refine s_aldn (p' := 2) rfl rfl rfl ?_
  refine s_ildn (p' := 3) rfl rfl rfl ?_
  refine c_call (p' := 6) (kc := 98) (ls0 := [_, _]) rfl rfl rfl rfl rfl (mj_rcv_is (rd_app H400)) rfl rfl rfl ?_
  refine s_ildn (p' := 1) rfl rfl rfl ?_
  refine s_con (p' := 2) rfl rfl ?_
  refine s_aldn (p' := 3) rfl rfl rfl ?_
  refine s_gf (p' := 6) rfl (rd_app H400) rfl rfl ?_
  refine c_call (p' := 11) (kc := 97) (ls0 := [_]) rfl rfl rfl rfl rfl (mj_rcv_is (rd_app H401)) rfl rfl rfl ?_
  refine s_aldn (p' := 1) rfl rfl rfl ?_
  refine s_gf (p' := 4) rfl (rd_app H401) rfl rfl ?_
  refine c_iret rfl rfl ?_
  refine s_con (p' := 12) rfl rfl ?_
  refine s_bz (p' := 13) (z := (nI 4294967295)) rfl rfl rfl (by decide +kernel) ?_
  refine c_call (p' := 16) (kc := 97) (ls0 := [_, _, _]) rfl rfl rfl rfl rfl rfl rfl rfl rfl ?_
  refine s_ildn (p' := 1) rfl rfl rfl ?_
  refine s_ildn (p' := 2) rfl rfl rfl ?_
  refine s_icmp (p' := 14) true rfl ((ch_gt (w := 0) (by decide +kernel)).trans (decide_eq_true (by omega))) rfl ?_
  refine s_con (p' := 15) rfl rfl ?_
  refine c_iret rfl (by decide +kernel) ?_
  refine c_iret rfl (by decide +kernel) ?_
  refine s_if (p' := 44) true rfl (by decide +kernel) rfl ?_
  refine s_con (p' := 45) rfl rfl ?_
  refine c_call (p' := 48) (kc := 98) (ls0 := [_, _]) rfl rfl rfl rfl rfl (mj_rcv_is (rd_app H400)) rfl rfl rfl ?_
  refine s_aldn (p' := 1) rfl rfl rfl ?_
  refine s_ildn (p' := 2) rfl rfl rfl ?_
  refine s_pfz (p' := 5) (fs' := [_, _, _, _, _, _, _, _, _, _, _]) rfl rfl (rd_app H400) rfl rfl rfl rfl ?_
  refine s_ildn (p' := 6) rfl rfl rfl ?_
  refine s_if (p' := 9) false rfl (by decide +kernel) rfl ?_
  refine s_con (p' := 10) rfl rfl ?_
  refine s_goto (p' := 14) rfl rfl ?_
  refine c_iret rfl (by decide +kernel) ?_
  refine s_if (p' := 51) false rfl (by decide +kernel) rfl ?_
  refine s_con (p' := 52) rfl rfl ?_
  refine s_goto (p' := 83) rfl rfl ?_
  refine k_iret rfl (by decide +kernel) ?_
  refine l_ist (p' := 736) (ls' := [_, _, _, _, _, _, _, _, _, _]) rfl rfl rfl rfl rfl ?_
  refine l_aldn (p' := 737) rfl rfl rfl rfl ?_
  refine l_call (p' := 740) (kc := 99) (ls0 := [_]) rfl rfl rfl rfl rfl rfl (mj_rcv_is (rd_ss rfl (rd_app H400))) rfl rfl rfl ?_
  refine s_aldn (p' := 1) rfl rfl rfl ?_
  refine s_gf (p' := 4) rfl (rd_ss rfl (rd_app H400)) rfl rfl ?_
  refine k_iret rfl rfl ?_
  refine l_ild (p' := 742) rfl rfl rfl rfl ?_
  refine l_icmp (p' := 747) true rfl rfl (by decide +kernel) rfl ?_
  refine l_ild (p' := 749) rfl rfl rfl rfl ?_
  refine l_if (p' := 764) true rfl rfl (by decide +kernel) rfl ?_
  refine l_goto (p' := 2541) rfl rfl rfl ?_
  refine l_incz (p' := 2544) (w := (nI 4)) (ls' := [_, _, _, _, _, _, _, _, _, _]) rfl rfl rfl rfl (by decide +kernel) rfl rfl ?_
  refine l_goto (p' := 28) rfl rfl rfl ?_
  refine l_ild (p' := 30) rfl rfl rfl rfl ?_
  refine l_alds (p' := 31) rfl rfl rfl rfl ?_
  refine l_lens (p' := 32) rfl rfl rfl ?_
  refine l_con (p' := 33) rfl rfl rfl ?_
  refine l_bz (p' := 34) (z := (nI 0)) rfl rfl rfl rfl rfl (by decide +kernel) ?_
  refine l_icmp (p' := 2547) true rfl rfl (by decide +kernel) rfl ?_
  refine l_con (p' := 2548) rfl rfl rfl ?_
  refine l_end rfl rfl ?_
  exact ⟨Nat.le_trans (Nat.le_of_eq (len_s (len_a HL rfl))) (Nat.le_of_ble_eq_true rfl), Nat.le_trans (sz_s rfl (rd_app H400) rfl (sz_aa (k := 6) (m := 20006) rfl rfl HZ)) (Nat.le_of_ble_eq_true rfl)⟩
theorem p1_9_p {xs : Nat → Int32} {h : mj_H} (hk : xs 0 &&& nI 63 = nI 9) {p : Int32} (hx1 : xs 1 = p) (hp : 0 ≤ p.toInt) (HL : h.length = 414) (HZ : mj_sz h ≤ 20000) (H0 : mj_rd h 0 = some (.inr (0, [.ref 1, .ref 38, .ref 299, .ref 336, .ref 373, .ref 375, .ref 378, .ref 381, .ref 387, .ref 393, .null, .null, .ref 397, .ref 398, .ref 399, .long (lN 0), .long (lN 0)]))) (H38 : mj_rd h 38 = some (.inr (6, [.ref 39, .ref 40, .int (nI 0)]))) (H400 : mj_rd h 400 = some (.inr (17, [.int (nI 0), .ref 401, .ref 402, .ref 1000300, .long (lN 0), .long (lN 0), .ref 410, .null, .null, .null, .ref 411]))) (H401 : mj_rd h 401 = some (.inr (18, [.ref 1000000, .int (nI 0), .int (nI 0)]))) : mj_fin 4 xs h := by
  unfold mj_fin
  refine l_ild (p' := 30) rfl rfl rfl rfl ?_
  refine l_alds (p' := 31) rfl rfl rfl rfl ?_
  refine l_lens (p' := 32) rfl rfl rfl ?_
  refine l_con (p' := 33) rfl rfl rfl ?_
  refine l_bz (p' := 34) (z := (nI 0)) rfl rfl rfl rfl rfl (by decide +kernel) ?_
  refine l_icmp (p' := 37) false rfl rfl (by decide +kernel) rfl ?_
  refine l_alds (p' := 38) rfl rfl rfl rfl ?_
  refine l_ild (p' := 40) rfl rfl rfl rfl ?_
  refine l_ialz (p' := 41) (m := 0) (z := (xs 0)) rfl rfl (by decide +kernel) rfl rfl rfl ?_
  refine l_bip (p' := 43) rfl rfl rfl ?_
  refine l_bz (p' := 44) (z := (nI 9)) rfl rfl rfl rfl rfl hk ?_
  refine l_sp (p' := 699) (ls' := _) rfl rfl rfl rfl rfl ?_
  refine l_aldn (p' := 700) rfl rfl rfl rfl ?_
  refine l_alds (p' := 701) rfl rfl rfl rfl ?_
  refine l_ild (p' := 703) rfl rfl rfl rfl ?_
  refine l_con (p' := 704) rfl rfl rfl ?_
  refine l_bz (p' := 705) (z := (nI 1)) rfl rfl rfl rfl rfl (by decide +kernel) ?_
  refine l_ialz (p' := 706) (m := 1) (z := p) rfl rfl (by decide +kernel) rfl hx1 rfl ?_
  refine l_alds (p' := 707) rfl rfl rfl rfl ?_
  refine l_ild (p' := 709) rfl rfl rfl rfl ?_
  refine l_con (p' := 710) rfl rfl rfl ?_
  refine l_bz (p' := 711) (z := (nI 2)) rfl rfl rfl rfl rfl (by decide +kernel) ?_
  refine l_ialz (p' := 712) (m := 2) (z := (xs 2)) rfl rfl (by decide +kernel) rfl rfl rfl ?_
  refine l_aldn (p' := 713) rfl rfl rfl rfl ?_
  refine l_call (p' := 716) (kc := 99) (ls0 := [_, _, _, _, _]) rfl rfl rfl rfl rfl rfl rfl rfl rfl rfl ?_
  refine s_aldn (p' := 1) rfl rfl rfl ?_
  refine s_con (p' := 2) rfl rfl ?_
  refine s_aldn (p' := 3) rfl rfl rfl ?_
  refine s_ildn (p' := 4) rfl rfl rfl ?_
  refine s_ildn (p' := 5) rfl rfl rfl ?_
  refine c_call (p' := 8) (kc := 98) (ls0 := [_, _, _, _]) rfl rfl rfl rfl rfl (mj_rcv_is H0) rfl rfl rfl ?_
  refine s_aldn (p' := 1) rfl rfl rfl ?_
  refine s_gf (p' := 4) rfl H0 rfl rfl ?_
  refine s_ildn (p' := 5) rfl rfl rfl ?_
  refine c_call (p' := 8) (kc := 97) (ls0 := [_, _]) rfl rfl rfl rfl rfl (mj_rcv_is H38) rfl rfl rfl ?_
  refine s_ildn (p' := 1) rfl rfl rfl ?_
  refine s_if (p' := 4) false rfl ((cg_lt (w := 0) (by decide +kernel)).trans (decide_eq_false (by omega))) rfl ?_
  refine s_ildn (p' := 5) rfl rfl rfl ?_
  refine s_aldn (p' := 6) rfl rfl rfl ?_
  refine s_gf (p' := 9) rfl H38 rfl rfl ?_
  refine s_icmp (p' := 16) true rfl ((cg_ge (w := 0) (by decide +kernel)).trans (decide_eq_true (by omega))) rfl ?_
  refine s_con (p' := 17) rfl rfl ?_
  refine c_iret rfl (by decide +kernel) ?_
  refine s_if (p' := 11) false rfl (by decide +kernel) rfl ?_
  refine s_thrz (q := 414) rfl HL rfl ?_
  refine K_c (hp := 13) rfl (mj_ocl_is (rd_nw rfl HL)) rfl ?_
  refine s_ast (p' := 15) (ls' := [_, _, _, _, _]) rfl rfl rfl rfl ?_
  refine s_con (p' := 16) rfl rfl ?_
  refine k_iret rfl rfl ?_
  refine l_ist (p' := 718) (ls' := [_, _, _, _, _, _, _, _, _, _]) rfl rfl rfl rfl rfl ?_
  refine l_aldn (p' := 719) rfl rfl rfl rfl ?_
  refine l_alds (p' := 720) rfl rfl rfl rfl ?_
  refine l_ild (p' := 722) rfl rfl rfl rfl ?_
  refine l_con (p' := 723) rfl rfl rfl ?_
  refine l_bz (p' := 724) (z := (nI 1)) rfl rfl rfl rfl rfl (by decide +kernel) ?_
  refine l_ialz (p' := 725) (m := 1) (z := p) rfl rfl (by decide +kernel) rfl hx1 rfl ?_
  refine l_alds (p' := 726) rfl rfl rfl rfl ?_
  refine l_ild (p' := 728) rfl rfl rfl rfl ?_
  refine l_con (p' := 729) rfl rfl rfl ?_
  refine l_bz (p' := 730) (z := (nI 2)) rfl rfl rfl rfl rfl (by decide +kernel) ?_
  refine l_ialz (p' := 731) (m := 2) (z := (xs 2)) rfl rfl (by decide +kernel) rfl rfl rfl ?_
  refine l_call (p' := 734) (kc := 99) (ls0 := [_, _, _]) rfl rfl rfl rfl rfl rfl (mj_rcv_is (rd_app H400)) rfl rfl rfl ?_
  refine s_aldn (p' := 1) rfl rfl rfl ?_
  refine s_aldn (p' := 2) rfl rfl rfl ?_
  refine s_ildn (p' := 3) rfl rfl rfl ?_
  refine c_call (p' := 6) (kc := 98) (ls0 := [_, _]) rfl rfl rfl rfl rfl (mj_rcv_is (rd_app H400)) rfl rfl rfl ?_
  refine s_ildn (p' := 1) rfl rfl rfl ?_
  refine s_con (p' := 2) rfl rfl ?_
  refine s_aldn (p' := 3) rfl rfl rfl ?_
  refine s_gf (p' := 6) rfl (rd_app H400) rfl rfl ?_
  refine c_call (p' := 11) (kc := 97) (ls0 := [_]) rfl rfl rfl rfl rfl (mj_rcv_is (rd_app H401)) rfl rfl rfl ?_
  refine s_aldn (p' := 1) rfl rfl rfl ?_
  refine s_gf (p' := 4) rfl (rd_app H401) rfl rfl ?_
  refine c_iret rfl rfl ?_
  refine s_con (p' := 12) rfl rfl ?_
  refine s_bz (p' := 13) (z := (nI 4294967295)) rfl rfl rfl (by decide +kernel) ?_
  refine c_call (p' := 16) (kc := 97) (ls0 := [_, _, _]) rfl rfl rfl rfl rfl rfl rfl rfl rfl ?_
  refine s_ildn (p' := 1) rfl rfl rfl ?_
  refine s_ildn (p' := 2) rfl rfl rfl ?_
  refine s_icmp (p' := 5) false rfl ((ch_gt (w := 0) (by decide +kernel)).trans (decide_eq_false (by omega))) rfl ?_
  refine s_ildn (p' := 6) rfl rfl rfl ?_
  refine s_ildn (p' := 7) rfl rfl rfl ?_
  refine s_icmp (p' := 14) true rfl ((cg_gt (w := -1) (by decide +kernel)).trans (decide_eq_true (by omega))) rfl ?_
  refine s_con (p' := 15) rfl rfl ?_
  refine c_iret rfl (by decide +kernel) ?_
  refine c_iret rfl (by decide +kernel) ?_
  refine s_if (p' := 44) true rfl (by decide +kernel) rfl ?_
  refine s_con (p' := 45) rfl rfl ?_
  refine c_call (p' := 48) (kc := 98) (ls0 := [_, _]) rfl rfl rfl rfl rfl (mj_rcv_is (rd_app H400)) rfl rfl rfl ?_
  refine s_aldn (p' := 1) rfl rfl rfl ?_
  refine s_ildn (p' := 2) rfl rfl rfl ?_
  refine s_pfz (p' := 5) (fs' := [_, _, _, _, _, _, _, _, _, _, _]) rfl rfl (rd_app H400) rfl rfl rfl rfl ?_
  refine s_ildn (p' := 6) rfl rfl rfl ?_
  refine s_if (p' := 9) false rfl (by decide +kernel) rfl ?_
  refine s_con (p' := 10) rfl rfl ?_
  refine s_goto (p' := 14) rfl rfl ?_
  refine c_iret rfl (by decide +kernel) ?_
  refine s_if (p' := 51) false rfl (by decide +kernel) rfl ?_
  refine s_con (p' := 52) rfl rfl ?_
  refine s_goto (p' := 83) rfl rfl ?_
  refine k_iret rfl (by decide +kernel) ?_
  refine l_ist (p' := 736) (ls' := [_, _, _, _, _, _, _, _, _, _]) rfl rfl rfl rfl rfl ?_
  refine l_aldn (p' := 737) rfl rfl rfl rfl ?_
  refine l_call (p' := 740) (kc := 99) (ls0 := [_]) rfl rfl rfl rfl rfl rfl (mj_rcv_is (rd_ss rfl (rd_app H400))) rfl rfl rfl ?_
  refine s_aldn (p' := 1) rfl rfl rfl ?_
  refine s_gf (p' := 4) rfl (rd_ss rfl (rd_app H400)) rfl rfl ?_
  refine k_iret rfl rfl ?_
  refine l_ild (p' := 742) rfl rfl rfl rfl ?_
  refine l_icmp (p' := 747) true rfl rfl (by decide +kernel) rfl ?_
  refine l_ild (p' := 749) rfl rfl rfl rfl ?_
  refine l_if (p' := 764) true rfl rfl (by decide +kernel) rfl ?_
  refine l_goto (p' := 2541) rfl rfl rfl ?_
  refine l_incz (p' := 2544) (w := (nI 4)) (ls' := [_, _, _, _, _, _, _, _, _, _]) rfl rfl rfl rfl (by decide +kernel) rfl rfl ?_
  refine l_goto (p' := 28) rfl rfl rfl ?_
  refine l_ild (p' := 30) rfl rfl rfl rfl ?_
  refine l_alds (p' := 31) rfl rfl rfl rfl ?_
  refine l_lens (p' := 32) rfl rfl rfl ?_
  refine l_con (p' := 33) rfl rfl rfl ?_
  refine l_bz (p' := 34) (z := (nI 0)) rfl rfl rfl rfl rfl (by decide +kernel) ?_
  refine l_icmp (p' := 2547) true rfl rfl (by decide +kernel) rfl ?_
  refine l_con (p' := 2548) rfl rfl rfl ?_
  refine l_end rfl rfl ?_
  exact ⟨Nat.le_trans (Nat.le_of_eq (len_s (len_a HL rfl))) (Nat.le_of_ble_eq_true rfl), Nat.le_trans (sz_s rfl (rd_app H400) rfl (sz_aa (k := 6) (m := 20006) rfl rfl HZ)) (Nat.le_of_ble_eq_true rfl)⟩
theorem p1_13_n {xs : Nat → Int32} {h : mj_H} (hk : xs 0 &&& nI 63 = nI 13) {p : Int32} (hx1 : xs 1 = p) (hp : p.toInt < 0) (HL : h.length = 414) (HZ : mj_sz h ≤ 20000) (H0 : mj_rd h 0 = some (.inr (0, [.ref 1, .ref 38, .ref 299, .ref 336, .ref 373, .ref 375, .ref 378, .ref 381, .ref 387, .ref 393, .null, .null, .ref 397, .ref 398, .ref 399, .long (lN 0), .long (lN 0)]))) (H400 : mj_rd h 400 = some (.inr (17, [.int (nI 0), .ref 401, .ref 402, .ref 1000300, .long (lN 0), .long (lN 0), .ref 410, .null, .null, .null, .ref 411]))) (H402 : mj_rd h 402 = some (.inr (19, [.ref 403, .ref 404, .ref 405, .ref 406, .ref 407, .ref 408, .ref 409, .int (nI 0), .int (nI 4294967295), .int (nI 0), .ref 400]))) : mj_fin 4 xs h := by
  unfold mj_fin
  refine l_ild (p' := 30) rfl rfl rfl rfl ?_
  refine l_alds (p' := 31) rfl rfl rfl rfl ?_
  refine l_lens (p' := 32) rfl rfl rfl ?_
  refine l_con (p' := 33) rfl rfl rfl ?_
  refine l_bz (p' := 34) (z := (nI 0)) rfl rfl rfl rfl rfl (by decide +kernel) ?_
  refine l_icmp (p' := 37) false rfl rfl (by decide +kernel) rfl ?_
  refine l_alds (p' := 38) rfl rfl rfl rfl ?_
  refine l_ild (p' := 40) rfl rfl rfl rfl ?_
  refine l_ialz (p' := 41) (m := 0) (z := (xs 0)) rfl rfl (by decide +kernel) rfl rfl rfl ?_
  refine l_bip (p' := 43) rfl rfl rfl ?_
  refine l_bz (p' := 44) (z := (nI 13)) rfl rfl rfl rfl rfl hk ?_
  refine l_sp (p' := 908) (ls' := _) rfl rfl rfl rfl rfl ?_
  refine l_aldn (p' := 909) rfl rfl rfl rfl ?_
  refine l_alds (p' := 910) rfl rfl rfl rfl ?_
  refine l_ild (p' := 912) rfl rfl rfl rfl ?_
  refine l_con (p' := 913) rfl rfl rfl ?_
  refine l_bz (p' := 914) (z := (nI 1)) rfl rfl rfl rfl rfl (by decide +kernel) ?_
  refine l_ialz (p' := 915) (m := 1) (z := p) rfl rfl (by decide +kernel) rfl hx1 rfl ?_
  refine l_aldn (p' := 916) rfl rfl rfl rfl ?_
  refine l_call (p' := 919) (kc := 99) (ls0 := [_, _, _, _]) rfl rfl rfl rfl rfl rfl rfl rfl rfl rfl ?_
  refine s_aldn (p' := 1) rfl rfl rfl ?_
  refine s_con (p' := 2) rfl rfl ?_
  refine s_aldn (p' := 3) rfl rfl rfl ?_
  refine s_ildn (p' := 4) rfl rfl rfl ?_
  refine c_call (p' := 7) (kc := 98) (ls0 := [_, _]) rfl rfl rfl rfl rfl (mj_rcv_is H0) rfl rfl rfl ?_
  refine s_ildn (p' := 1) rfl rfl rfl ?_
  refine s_if (p' := 15) true rfl ((cg_lt (w := 0) (by decide +kernel)).trans (decide_eq_true (by omega))) rfl ?_
  refine s_thrz (q := 414) rfl HL rfl ?_
  refine K_c (hp := 12) rfl (mj_ocl_is (rd_nw rfl HL)) rfl ?_
  refine s_astn (p' := 13) (ls' := [_, _, _, _]) rfl rfl rfl rfl ?_
  refine s_con (p' := 14) rfl rfl ?_
  refine k_iret rfl rfl ?_
  refine l_ist (p' := 921) (ls' := [_, _, _, _, _, _, _, _, _, _]) rfl rfl rfl rfl rfl ?_
  refine l_aldn (p' := 922) rfl rfl rfl rfl ?_
  refine l_alds (p' := 923) rfl rfl rfl rfl ?_
  refine l_ild (p' := 925) rfl rfl rfl rfl ?_
  refine l_con (p' := 926) rfl rfl rfl ?_
  refine l_bz (p' := 927) (z := (nI 1)) rfl rfl rfl rfl rfl (by decide +kernel) ?_
  refine l_ialz (p' := 928) (m := 1) (z := p) rfl rfl (by decide +kernel) rfl hx1 rfl ?_
  refine l_call (p' := 931) (kc := 99) (ls0 := [_, _]) rfl rfl rfl rfl rfl rfl (mj_rcv_is (rd_app H400)) rfl rfl rfl ?_
  refine s_aldn (p' := 1) rfl rfl rfl ?_
  refine s_ildn (p' := 2) rfl rfl rfl ?_
  refine s_con (p' := 3) rfl rfl ?_
  refine s_aldn (p' := 4) rfl rfl rfl ?_
  refine s_gf (p' := 7) rfl (rd_app H400) rfl rfl ?_
  refine s_gf (p' := 10) rfl (rd_app H402) rfl rfl ?_
  refine s_con (p' := 11) rfl rfl ?_
  refine s_bz (p' := 12) (z := (nI 4294967295)) rfl rfl rfl (by decide +kernel) ?_
  refine c_call (p' := 15) (kc := 98) (ls0 := [_, _, _]) rfl rfl rfl rfl rfl rfl rfl rfl rfl ?_
  refine s_ildn (p' := 1) rfl rfl rfl ?_
  refine s_ildn (p' := 2) rfl rfl rfl ?_
  refine s_icmp (p' := 14) true rfl ((ch_gt (w := 0) (by decide +kernel)).trans (decide_eq_true (by omega))) rfl ?_
  refine s_con (p' := 15) rfl rfl ?_
  refine c_iret rfl (by decide +kernel) ?_
  refine s_if (p' := 22) true rfl (by decide +kernel) rfl ?_
  refine s_con (p' := 23) rfl rfl ?_
  refine c_call (p' := 26) (kc := 98) (ls0 := [_, _]) rfl rfl rfl rfl rfl (mj_rcv_is (rd_app H400)) rfl rfl rfl ?_
  refine s_aldn (p' := 1) rfl rfl rfl ?_
  refine s_ildn (p' := 2) rfl rfl rfl ?_
  refine s_pfz (p' := 5) (fs' := [_, _, _, _, _, _, _, _, _, _, _]) rfl rfl (rd_app H400) rfl rfl rfl rfl ?_
  refine s_ildn (p' := 6) rfl rfl rfl ?_
  refine s_if (p' := 9) false rfl (by decide +kernel) rfl ?_
  refine s_con (p' := 10) rfl rfl ?_
  refine s_goto (p' := 14) rfl rfl ?_
  refine c_iret rfl (by decide +kernel) ?_
  refine s_if (p' := 29) false rfl (by decide +kernel) rfl ?_
  refine s_con (p' := 30) rfl rfl ?_
  refine s_goto (p' := 52) rfl rfl ?_
  refine k_iret rfl rfl ?_
  refine l_ist (p' := 933) (ls' := [_, _, _, _, _, _, _, _, _, _]) rfl rfl rfl rfl rfl ?_
  refine l_aldn (p' := 934) rfl rfl rfl rfl ?_
  refine l_call (p' := 937) (kc := 99) (ls0 := [_]) rfl rfl rfl rfl rfl rfl (mj_rcv_is (rd_ss rfl (rd_app H400))) rfl rfl rfl ?_
  refine s_aldn (p' := 1) rfl rfl rfl ?_
  refine s_gf (p' := 4) rfl (rd_ss rfl (rd_app H400)) rfl rfl ?_
  refine k_iret rfl rfl ?_
  refine l_ild (p' := 939) rfl rfl rfl rfl ?_
  refine l_icmp (p' := 944) true rfl rfl (by decide +kernel) rfl ?_
  refine l_ild (p' := 946) rfl rfl rfl rfl ?_
  refine l_if (p' := 961) true rfl rfl (by decide +kernel) rfl ?_
  refine l_goto (p' := 2541) rfl rfl rfl ?_
  refine l_incz (p' := 2544) (w := (nI 4)) (ls' := [_, _, _, _, _, _, _, _, _, _]) rfl rfl rfl rfl (by decide +kernel) rfl rfl ?_
  refine l_goto (p' := 28) rfl rfl rfl ?_
  refine l_ild (p' := 30) rfl rfl rfl rfl ?_
  refine l_alds (p' := 31) rfl rfl rfl rfl ?_
  refine l_lens (p' := 32) rfl rfl rfl ?_
  refine l_con (p' := 33) rfl rfl rfl ?_
  refine l_bz (p' := 34) (z := (nI 0)) rfl rfl rfl rfl rfl (by decide +kernel) ?_
  refine l_icmp (p' := 2547) true rfl rfl (by decide +kernel) rfl ?_
  refine l_con (p' := 2548) rfl rfl rfl ?_
  refine l_end rfl rfl ?_
  exact ⟨Nat.le_trans (Nat.le_of_eq (len_s (len_a HL rfl))) (Nat.le_of_ble_eq_true rfl), Nat.le_trans (sz_s rfl (rd_app H400) rfl (sz_aa (k := 6) (m := 20006) rfl rfl HZ)) (Nat.le_of_ble_eq_true rfl)⟩
theorem p1_13_p {xs : Nat → Int32} {h : mj_H} (hk : xs 0 &&& nI 63 = nI 13) {p : Int32} (hx1 : xs 1 = p) (hp : 0 ≤ p.toInt) (HL : h.length = 414) (HZ : mj_sz h ≤ 20000) (H0 : mj_rd h 0 = some (.inr (0, [.ref 1, .ref 38, .ref 299, .ref 336, .ref 373, .ref 375, .ref 378, .ref 381, .ref 387, .ref 393, .null, .null, .ref 397, .ref 398, .ref 399, .long (lN 0), .long (lN 0)]))) (H375 : mj_rd h 375 = some (.inr (7, [.ref 376, .ref 377, .int (nI 0)]))) (H400 : mj_rd h 400 = some (.inr (17, [.int (nI 0), .ref 401, .ref 402, .ref 1000300, .long (lN 0), .long (lN 0), .ref 410, .null, .null, .null, .ref 411]))) (H402 : mj_rd h 402 = some (.inr (19, [.ref 403, .ref 404, .ref 405, .ref 406, .ref 407, .ref 408, .ref 409, .int (nI 0), .int (nI 4294967295), .int (nI 0), .ref 400]))) : mj_fin 4 xs h := by
  unfold mj_fin
  refine l_ild (p' := 30) rfl rfl rfl rfl ?_
  refine l_alds (p' := 31) rfl rfl rfl rfl ?_
  refine l_lens (p' := 32) rfl rfl rfl ?_
  refine l_con (p' := 33) rfl rfl rfl ?_
  refine l_bz (p' := 34) (z := (nI 0)) rfl rfl rfl rfl rfl (by decide +kernel) ?_
  refine l_icmp (p' := 37) false rfl rfl (by decide +kernel) rfl ?_
  refine l_alds (p' := 38) rfl rfl rfl rfl ?_
  refine l_ild (p' := 40) rfl rfl rfl rfl ?_
  refine l_ialz (p' := 41) (m := 0) (z := (xs 0)) rfl rfl (by decide +kernel) rfl rfl rfl ?_
  refine l_bip (p' := 43) rfl rfl rfl ?_
  refine l_bz (p' := 44) (z := (nI 13)) rfl rfl rfl rfl rfl hk ?_
  refine l_sp (p' := 908) (ls' := _) rfl rfl rfl rfl rfl ?_
  refine l_aldn (p' := 909) rfl rfl rfl rfl ?_
  refine l_alds (p' := 910) rfl rfl rfl rfl ?_
  refine l_ild (p' := 912) rfl rfl rfl rfl ?_
  refine l_con (p' := 913) rfl rfl rfl ?_
  refine l_bz (p' := 914) (z := (nI 1)) rfl rfl rfl rfl rfl (by decide +kernel) ?_
  refine l_ialz (p' := 915) (m := 1) (z := p) rfl rfl (by decide +kernel) rfl hx1 rfl ?_
  refine l_aldn (p' := 916) rfl rfl rfl rfl ?_
  refine l_call (p' := 919) (kc := 99) (ls0 := [_, _, _, _]) rfl rfl rfl rfl rfl rfl rfl rfl rfl rfl ?_
  refine s_aldn (p' := 1) rfl rfl rfl ?_
  refine s_con (p' := 2) rfl rfl ?_
  refine s_aldn (p' := 3) rfl rfl rfl ?_
  refine s_ildn (p' := 4) rfl rfl rfl ?_
  refine c_call (p' := 7) (kc := 98) (ls0 := [_, _]) rfl rfl rfl rfl rfl (mj_rcv_is H0) rfl rfl rfl ?_
  refine s_ildn (p' := 1) rfl rfl rfl ?_
  refine s_if (p' := 4) false rfl ((cg_lt (w := 0) (by decide +kernel)).trans (decide_eq_false (by omega))) rfl ?_
  refine s_ildn (p' := 5) rfl rfl rfl ?_
  refine s_aldn (p' := 6) rfl rfl rfl ?_
  refine s_gf (p' := 9) rfl H0 rfl rfl ?_
  refine c_call (p' := 12) (kc := 97) (ls0 := [_]) rfl rfl rfl rfl rfl (mj_rcv_is H375) rfl rfl rfl ?_
  refine s_aldn (p' := 1) rfl rfl rfl ?_
  refine s_gf (p' := 4) rfl H375 rfl rfl ?_
  refine c_iret rfl rfl ?_
  refine s_icmp (p' := 15) false rfl ((cg_lt (w := 0) (by decide +kernel)).trans (decide_eq_false (by omega))) rfl ?_
  refine s_thrz (q := 414) rfl HL rfl ?_
  refine K_c (hp := 12) rfl (mj_ocl_is (rd_nw rfl HL)) rfl ?_
  refine s_astn (p' := 13) (ls' := [_, _, _, _]) rfl rfl rfl rfl ?_
  refine s_con (p' := 14) rfl rfl ?_
  refine k_iret rfl rfl ?_
  refine l_ist (p' := 921) (ls' := [_, _, _, _, _, _, _, _, _, _]) rfl rfl rfl rfl rfl ?_
  refine l_aldn (p' := 922) rfl rfl rfl rfl ?_
  refine l_alds (p' := 923) rfl rfl rfl rfl ?_
  refine l_ild (p' := 925) rfl rfl rfl rfl ?_
  refine l_con (p' := 926) rfl rfl rfl ?_
  refine l_bz (p' := 927) (z := (nI 1)) rfl rfl rfl rfl rfl (by decide +kernel) ?_
  refine l_ialz (p' := 928) (m := 1) (z := p) rfl rfl (by decide +kernel) rfl hx1 rfl ?_
  refine l_call (p' := 931) (kc := 99) (ls0 := [_, _]) rfl rfl rfl rfl rfl rfl (mj_rcv_is (rd_app H400)) rfl rfl rfl ?_
  refine s_aldn (p' := 1) rfl rfl rfl ?_
  refine s_ildn (p' := 2) rfl rfl rfl ?_
  refine s_con (p' := 3) rfl rfl ?_
  refine s_aldn (p' := 4) rfl rfl rfl ?_
  refine s_gf (p' := 7) rfl (rd_app H400) rfl rfl ?_
  refine s_gf (p' := 10) rfl (rd_app H402) rfl rfl ?_
  refine s_con (p' := 11) rfl rfl ?_
  refine s_bz (p' := 12) (z := (nI 4294967295)) rfl rfl rfl (by decide +kernel) ?_
  refine c_call (p' := 15) (kc := 98) (ls0 := [_, _, _]) rfl rfl rfl rfl rfl rfl rfl rfl rfl ?_
  refine s_ildn (p' := 1) rfl rfl rfl ?_
  refine s_ildn (p' := 2) rfl rfl rfl ?_
  refine s_icmp (p' := 5) false rfl ((ch_gt (w := 0) (by decide +kernel)).trans (decide_eq_false (by omega))) rfl ?_
  refine s_ildn (p' := 6) rfl rfl rfl ?_
  refine s_ildn (p' := 7) rfl rfl rfl ?_
  refine s_icmp (p' := 14) true rfl ((cg_gt (w := -1) (by decide +kernel)).trans (decide_eq_true (by omega))) rfl ?_
  refine s_con (p' := 15) rfl rfl ?_
  refine c_iret rfl (by decide +kernel) ?_
  refine s_if (p' := 22) true rfl (by decide +kernel) rfl ?_
  refine s_con (p' := 23) rfl rfl ?_
  refine c_call (p' := 26) (kc := 98) (ls0 := [_, _]) rfl rfl rfl rfl rfl (mj_rcv_is (rd_app H400)) rfl rfl rfl ?_
  refine s_aldn (p' := 1) rfl rfl rfl ?_
  refine s_ildn (p' := 2) rfl rfl rfl ?_
  refine s_pfz (p' := 5) (fs' := [_, _, _, _, _, _, _, _, _, _, _]) rfl rfl (rd_app H400) rfl rfl rfl rfl ?_
  refine s_ildn (p' := 6) rfl rfl rfl ?_
  refine s_if (p' := 9) false rfl (by decide +kernel) rfl ?_
  refine s_con (p' := 10) rfl rfl ?_
  refine s_goto (p' := 14) rfl rfl ?_
  refine c_iret rfl (by decide +kernel) ?_
  refine s_if (p' := 29) false rfl (by decide +kernel) rfl ?_
  refine s_con (p' := 30) rfl rfl ?_
  refine s_goto (p' := 52) rfl rfl ?_
  refine k_iret rfl rfl ?_
  refine l_ist (p' := 933) (ls' := [_, _, _, _, _, _, _, _, _, _]) rfl rfl rfl rfl rfl ?_
  refine l_aldn (p' := 934) rfl rfl rfl rfl ?_
  refine l_call (p' := 937) (kc := 99) (ls0 := [_]) rfl rfl rfl rfl rfl rfl (mj_rcv_is (rd_ss rfl (rd_app H400))) rfl rfl rfl ?_
  refine s_aldn (p' := 1) rfl rfl rfl ?_
  refine s_gf (p' := 4) rfl (rd_ss rfl (rd_app H400)) rfl rfl ?_
  refine k_iret rfl rfl ?_
  refine l_ild (p' := 939) rfl rfl rfl rfl ?_
  refine l_icmp (p' := 944) true rfl rfl (by decide +kernel) rfl ?_
  refine l_ild (p' := 946) rfl rfl rfl rfl ?_
  refine l_if (p' := 961) true rfl rfl (by decide +kernel) rfl ?_
  refine l_goto (p' := 2541) rfl rfl rfl ?_
  refine l_incz (p' := 2544) (w := (nI 4)) (ls' := [_, _, _, _, _, _, _, _, _, _]) rfl rfl rfl rfl (by decide +kernel) rfl rfl ?_
  refine l_goto (p' := 28) rfl rfl rfl ?_
  refine l_ild (p' := 30) rfl rfl rfl rfl ?_
  refine l_alds (p' := 31) rfl rfl rfl rfl ?_
  refine l_lens (p' := 32) rfl rfl rfl ?_
  refine l_con (p' := 33) rfl rfl rfl ?_
  refine l_bz (p' := 34) (z := (nI 0)) rfl rfl rfl rfl rfl (by decide +kernel) ?_
  refine l_icmp (p' := 2547) true rfl rfl (by decide +kernel) rfl ?_
  refine l_con (p' := 2548) rfl rfl rfl ?_
  refine l_end rfl rfl ?_
  exact ⟨Nat.le_trans (Nat.le_of_eq (len_s (len_a HL rfl))) (Nat.le_of_ble_eq_true rfl), Nat.le_trans (sz_s rfl (rd_app H400) rfl (sz_aa (k := 6) (m := 20006) rfl rfl HZ)) (Nat.le_of_ble_eq_true rfl)⟩
theorem p1_21_n {xs : Nat → Int32} {h : mj_H} (hk : xs 0 &&& nI 63 = nI 21) {p : Int32} (hx1 : xs 1 = p) (hp : p.toInt < 0) (HL : h.length = 414) (HZ : mj_sz h ≤ 20000) (H0 : mj_rd h 0 = some (.inr (0, [.ref 1, .ref 38, .ref 299, .ref 336, .ref 373, .ref 375, .ref 378, .ref 381, .ref 387, .ref 393, .null, .null, .ref 397, .ref 398, .ref 399, .long (lN 0), .long (lN 0)]))) (H381 : mj_rd h 381 = some (.inr (8, [.ref 38, .ref 375, .ref 382, .ref 383, .ref 384, .ref 385, .ref 386, .int (nI 0), .int (nI 0), .int (nI 0), .int (nI 0), .int (nI 0), .int (nI 0)]))) (H400 : mj_rd h 400 = some (.inr (17, [.int (nI 0), .ref 401, .ref 402, .ref 1000300, .long (lN 0), .long (lN 0), .ref 410, .null, .null, .null, .ref 411]))) (H402 : mj_rd h 402 = some (.inr (19, [.ref 403, .ref 404, .ref 405, .ref 406, .ref 407, .ref 408, .ref 409, .int (nI 0), .int (nI 4294967295), .int (nI 0), .ref 400]))) : mj_fin 4 xs h := by
  unfold mj_fin
  refine l_ild (p' := 30) rfl rfl rfl rfl ?_
  refine l_alds (p' := 31) rfl rfl rfl rfl ?_
  refine l_lens (p' := 32) rfl rfl rfl ?_
  refine l_con (p' := 33) rfl rfl rfl ?_
  refine l_bz (p' := 34) (z := (nI 0)) rfl rfl rfl rfl rfl (by decide +kernel) ?_
  refine l_icmp (p' := 37) false rfl rfl (by decide +kernel) rfl ?_
  refine l_alds (p' := 38) rfl rfl rfl rfl ?_
  refine l_ild (p' := 40) rfl rfl rfl rfl ?_
  refine l_ialz (p' := 41) (m := 0) (z := (xs 0)) rfl rfl (by decide +kernel) rfl rfl rfl ?_
  refine l_bip (p' := 43) rfl rfl rfl ?_
  refine l_bz (p' := 44) (z := (nI 21)) rfl rfl rfl rfl rfl hk ?_
  refine l_sp (p' := 1328) (ls' := _) rfl rfl rfl rfl rfl ?_
  refine l_aldn (p' := 1329) rfl rfl rfl rfl ?_
  refine l_alds (p' := 1330) rfl rfl rfl rfl ?_
  refine l_ild (p' := 1332) rfl rfl rfl rfl ?_
  refine l_con (p' := 1333) rfl rfl rfl ?_
  refine l_bz (p' := 1334) (z := (nI 1)) rfl rfl rfl rfl rfl (by decide +kernel) ?_
  refine l_ialz (p' := 1335) (m := 1) (z := p) rfl rfl (by decide +kernel) rfl hx1 rfl ?_
  refine l_aldn (p' := 1336) rfl rfl rfl rfl ?_
  refine l_call (p' := 1339) (kc := 99) (ls0 := [_, _, _, _]) rfl rfl rfl rfl rfl rfl rfl rfl rfl rfl ?_
  refine s_aldn (p' := 1) rfl rfl rfl ?_
  refine s_con (p' := 2) rfl rfl ?_
  refine s_aldn (p' := 3) rfl rfl rfl ?_
  refine s_ildn (p' := 4) rfl rfl rfl ?_
  refine c_call (p' := 7) (kc := 98) (ls0 := [_, _]) rfl rfl rfl rfl rfl (mj_rcv_is H0) rfl rfl rfl ?_
  refine s_aldn (p' := 1) rfl rfl rfl ?_
  refine s_gf (p' := 4) rfl H0 rfl rfl ?_
  refine s_ildn (p' := 5) rfl rfl rfl ?_
  refine c_call (p' := 8) (kc := 97) (ls0 := [_, _]) rfl rfl rfl rfl rfl (mj_rcv_is H381) rfl rfl rfl ?_
  refine s_ildn (p' := 1) rfl rfl rfl ?_
  refine s_if (p' := 16) true rfl ((cg_lt (w := 0) (by decide +kernel)).trans (decide_eq_true (by omega))) rfl ?_
  refine s_con (p' := 17) rfl rfl ?_
  refine c_iret rfl (by decide +kernel) ?_
  refine s_if (p' := 11) false rfl (by decide +kernel) rfl ?_
  refine s_thrz (q := 414) rfl HL rfl ?_
  refine K_c (hp := 12) rfl (mj_ocl_is (rd_nw rfl HL)) rfl ?_
  refine s_astn (p' := 13) (ls' := [_, _, _, _]) rfl rfl rfl rfl ?_
  refine s_con (p' := 14) rfl rfl ?_
  refine k_iret rfl rfl ?_
  refine l_ist (p' := 1341) (ls' := [_, _, _, _, _, _, _, _, _, _]) rfl rfl rfl rfl rfl ?_
  refine l_aldn (p' := 1342) rfl rfl rfl rfl ?_
  refine l_alds (p' := 1343) rfl rfl rfl rfl ?_
  refine l_ild (p' := 1345) rfl rfl rfl rfl ?_
  refine l_con (p' := 1346) rfl rfl rfl ?_
  refine l_bz (p' := 1347) (z := (nI 1)) rfl rfl rfl rfl rfl (by decide +kernel) ?_
  refine l_ialz (p' := 1348) (m := 1) (z := p) rfl rfl (by decide +kernel) rfl hx1 rfl ?_
  refine l_call (p' := 1351) (kc := 99) (ls0 := [_, _]) rfl rfl rfl rfl rfl rfl (mj_rcv_is (rd_app H400)) rfl rfl rfl ?_
  refine s_aldn (p' := 1) rfl rfl rfl ?_
  refine s_ildn (p' := 2) rfl rfl rfl ?_
  refine c_call (p' := 5) (kc := 98) (ls0 := [_, _]) rfl rfl rfl rfl rfl (mj_rcv_is (rd_app H400)) rfl rfl rfl ?_
  refine s_aldn (p' := 1) rfl rfl rfl ?_
  refine s_aldn (p' := 2) rfl rfl rfl ?_
  refine s_gf (p' := 5) rfl (rd_app H400) rfl rfl ?_
  refine s_gf (p' := 8) rfl (rd_app H402) rfl rfl ?_
  refine s_con (p' := 9) rfl rfl ?_
  refine s_icmp (p' := 33) true rfl (by decide +kernel) rfl ?_
  refine s_con (p' := 34) rfl rfl ?_
  refine c_call (p' := 37) (kc := 97) (ls0 := [_, _]) rfl rfl rfl rfl rfl (mj_rcv_is (rd_app H400)) rfl rfl rfl ?_
  refine s_aldn (p' := 1) rfl rfl rfl ?_
  refine s_ildn (p' := 2) rfl rfl rfl ?_
  refine s_pfz (p' := 5) (fs' := [_, _, _, _, _, _, _, _, _, _, _]) rfl rfl (rd_app H400) rfl rfl rfl rfl ?_
  refine s_ildn (p' := 6) rfl rfl rfl ?_
  refine s_if (p' := 9) false rfl (by decide +kernel) rfl ?_
  refine s_con (p' := 10) rfl rfl ?_
  refine s_goto (p' := 14) rfl rfl ?_
  refine c_iret rfl (by decide +kernel) ?_
  refine c_iret rfl (by decide +kernel) ?_
  refine s_if (p' := 8) false rfl (by decide +kernel) rfl ?_
  refine s_con (p' := 9) rfl rfl ?_
  refine s_goto (p' := 21) rfl rfl ?_
  refine k_iret rfl (by decide +kernel) ?_
  refine l_ist (p' := 1353) (ls' := [_, _, _, _, _, _, _, _, _, _]) rfl rfl rfl rfl rfl ?_
  refine l_aldn (p' := 1354) rfl rfl rfl rfl ?_
  refine l_call (p' := 1357) (kc := 99) (ls0 := [_]) rfl rfl rfl rfl rfl rfl (mj_rcv_is (rd_ss rfl (rd_app H400))) rfl rfl rfl ?_
  refine s_aldn (p' := 1) rfl rfl rfl ?_
  refine s_gf (p' := 4) rfl (rd_ss rfl (rd_app H400)) rfl rfl ?_
  refine k_iret rfl rfl ?_
  refine l_ild (p' := 1359) rfl rfl rfl rfl ?_
  refine l_icmp (p' := 1364) true rfl rfl (by decide +kernel) rfl ?_
  refine l_ild (p' := 1366) rfl rfl rfl rfl ?_
  refine l_if (p' := 1381) true rfl rfl (by decide +kernel) rfl ?_
  refine l_goto (p' := 2541) rfl rfl rfl ?_
  refine l_incz (p' := 2544) (w := (nI 4)) (ls' := [_, _, _, _, _, _, _, _, _, _]) rfl rfl rfl rfl (by decide +kernel) rfl rfl ?_
  refine l_goto (p' := 28) rfl rfl rfl ?_
  refine l_ild (p' := 30) rfl rfl rfl rfl ?_
  refine l_alds (p' := 31) rfl rfl rfl rfl ?_
  refine l_lens (p' := 32) rfl rfl rfl ?_
  refine l_con (p' := 33) rfl rfl rfl ?_
  refine l_bz (p' := 34) (z := (nI 0)) rfl rfl rfl rfl rfl (by decide +kernel) ?_
  refine l_icmp (p' := 2547) true rfl rfl (by decide +kernel) rfl ?_
  refine l_con (p' := 2548) rfl rfl rfl ?_
  refine l_end rfl rfl ?_
  exact ⟨Nat.le_trans (Nat.le_of_eq (len_s (len_a HL rfl))) (Nat.le_of_ble_eq_true rfl), Nat.le_trans (sz_s rfl (rd_app H400) rfl (sz_aa (k := 6) (m := 20006) rfl rfl HZ)) (Nat.le_of_ble_eq_true rfl)⟩
theorem p1_21_p {xs : Nat → Int32} {h : mj_H} (hk : xs 0 &&& nI 63 = nI 21) {p : Int32} (hx1 : xs 1 = p) (hp : 0 ≤ p.toInt) (HL : h.length = 414) (HZ : mj_sz h ≤ 20000) (H0 : mj_rd h 0 = some (.inr (0, [.ref 1, .ref 38, .ref 299, .ref 336, .ref 373, .ref 375, .ref 378, .ref 381, .ref 387, .ref 393, .null, .null, .ref 397, .ref 398, .ref 399, .long (lN 0), .long (lN 0)]))) (H381 : mj_rd h 381 = some (.inr (8, [.ref 38, .ref 375, .ref 382, .ref 383, .ref 384, .ref 385, .ref 386, .int (nI 0), .int (nI 0), .int (nI 0), .int (nI 0), .int (nI 0), .int (nI 0)]))) (H400 : mj_rd h 400 = some (.inr (17, [.int (nI 0), .ref 401, .ref 402, .ref 1000300, .long (lN 0), .long (lN 0), .ref 410, .null, .null, .null, .ref 411]))) (H402 : mj_rd h 402 = some (.inr (19, [.ref 403, .ref 404, .ref 405, .ref 406, .ref 407, .ref 408, .ref 409, .int (nI 0), .int (nI 4294967295), .int (nI 0), .ref 400]))) : mj_fin 4 xs h := by
  unfold mj_fin
  refine l_ild (p' := 30) rfl rfl rfl rfl ?_
  refine l_alds (p' := 31) rfl rfl rfl rfl ?_
  refine l_lens (p' := 32) rfl rfl rfl ?_
  refine l_con (p' := 33) rfl rfl rfl ?_
  refine l_bz (p' := 34) (z := (nI 0)) rfl rfl rfl rfl rfl (by decide +kernel) ?_
  refine l_icmp (p' := 37) false rfl rfl (by decide +kernel) rfl ?_
  refine l_alds (p' := 38) rfl rfl rfl rfl ?_
  refine l_ild (p' := 40) rfl rfl rfl rfl ?_
  refine l_ialz (p' := 41) (m := 0) (z := (xs 0)) rfl rfl (by decide +kernel) rfl rfl rfl ?_
  refine l_bip (p' := 43) rfl rfl rfl ?_
  refine l_bz (p' := 44) (z := (nI 21)) rfl rfl rfl rfl rfl hk ?_
  refine l_sp (p' := 1328) (ls' := _) rfl rfl rfl rfl rfl ?_
  refine l_aldn (p' := 1329) rfl rfl rfl rfl ?_
  refine l_alds (p' := 1330) rfl rfl rfl rfl ?_
  refine l_ild (p' := 1332) rfl rfl rfl rfl ?_
  refine l_con (p' := 1333) rfl rfl rfl ?_
  refine l_bz (p' := 1334) (z := (nI 1)) rfl rfl rfl rfl rfl (by decide +kernel) ?_
  refine l_ialz (p' := 1335) (m := 1) (z := p) rfl rfl (by decide +kernel) rfl hx1 rfl ?_
  refine l_aldn (p' := 1336) rfl rfl rfl rfl ?_
  refine l_call (p' := 1339) (kc := 99) (ls0 := [_, _, _, _]) rfl rfl rfl rfl rfl rfl rfl rfl rfl rfl ?_
  refine s_aldn (p' := 1) rfl rfl rfl ?_
  refine s_con (p' := 2) rfl rfl ?_
  refine s_aldn (p' := 3) rfl rfl rfl ?_
  refine s_ildn (p' := 4) rfl rfl rfl ?_
  refine c_call (p' := 7) (kc := 98) (ls0 := [_, _]) rfl rfl rfl rfl rfl (mj_rcv_is H0) rfl rfl rfl ?_
  refine s_aldn (p' := 1) rfl rfl rfl ?_
  refine s_gf (p' := 4) rfl H0 rfl rfl ?_
  refine s_ildn (p' := 5) rfl rfl rfl ?_
  refine c_call (p' := 8) (kc := 97) (ls0 := [_, _]) rfl rfl rfl rfl rfl (mj_rcv_is H381) rfl rfl rfl ?_
  refine s_ildn (p' := 1) rfl rfl rfl ?_
  refine s_if (p' := 4) false rfl ((cg_lt (w := 0) (by decide +kernel)).trans (decide_eq_false (by omega))) rfl ?_
  refine s_ildn (p' := 5) rfl rfl rfl ?_
  refine s_aldn (p' := 6) rfl rfl rfl ?_
  refine s_gf (p' := 9) rfl H381 rfl rfl ?_
  refine s_icmp (p' := 16) true rfl ((cg_ge (w := 0) (by decide +kernel)).trans (decide_eq_true (by omega))) rfl ?_
  refine s_con (p' := 17) rfl rfl ?_
  refine c_iret rfl (by decide +kernel) ?_
  refine s_if (p' := 11) false rfl (by decide +kernel) rfl ?_
  refine s_thrz (q := 414) rfl HL rfl ?_
  refine K_c (hp := 12) rfl (mj_ocl_is (rd_nw rfl HL)) rfl ?_
  refine s_astn (p' := 13) (ls' := [_, _, _, _]) rfl rfl rfl rfl ?_
  refine s_con (p' := 14) rfl rfl ?_
  refine k_iret rfl rfl ?_
  refine l_ist (p' := 1341) (ls' := [_, _, _, _, _, _, _, _, _, _]) rfl rfl rfl rfl rfl ?_
  refine l_aldn (p' := 1342) rfl rfl rfl rfl ?_
  refine l_alds (p' := 1343) rfl rfl rfl rfl ?_
  refine l_ild (p' := 1345) rfl rfl rfl rfl ?_
  refine l_con (p' := 1346) rfl rfl rfl ?_
  refine l_bz (p' := 1347) (z := (nI 1)) rfl rfl rfl rfl rfl (by decide +kernel) ?_
  refine l_ialz (p' := 1348) (m := 1) (z := p) rfl rfl (by decide +kernel) rfl hx1 rfl ?_
  refine l_call (p' := 1351) (kc := 99) (ls0 := [_, _]) rfl rfl rfl rfl rfl rfl (mj_rcv_is (rd_app H400)) rfl rfl rfl ?_
  refine s_aldn (p' := 1) rfl rfl rfl ?_
  refine s_ildn (p' := 2) rfl rfl rfl ?_
  refine c_call (p' := 5) (kc := 98) (ls0 := [_, _]) rfl rfl rfl rfl rfl (mj_rcv_is (rd_app H400)) rfl rfl rfl ?_
  refine s_aldn (p' := 1) rfl rfl rfl ?_
  refine s_aldn (p' := 2) rfl rfl rfl ?_
  refine s_gf (p' := 5) rfl (rd_app H400) rfl rfl ?_
  refine s_gf (p' := 8) rfl (rd_app H402) rfl rfl ?_
  refine s_con (p' := 9) rfl rfl ?_
  refine s_icmp (p' := 33) true rfl (by decide +kernel) rfl ?_
  refine s_con (p' := 34) rfl rfl ?_
  refine c_call (p' := 37) (kc := 97) (ls0 := [_, _]) rfl rfl rfl rfl rfl (mj_rcv_is (rd_app H400)) rfl rfl rfl ?_
  refine s_aldn (p' := 1) rfl rfl rfl ?_
  refine s_ildn (p' := 2) rfl rfl rfl ?_
  refine s_pfz (p' := 5) (fs' := [_, _, _, _, _, _, _, _, _, _, _]) rfl rfl (rd_app H400) rfl rfl rfl rfl ?_
  refine s_ildn (p' := 6) rfl rfl rfl ?_
  refine s_if (p' := 9) false rfl (by decide +kernel) rfl ?_
  refine s_con (p' := 10) rfl rfl ?_
  refine s_goto (p' := 14) rfl rfl ?_
  refine c_iret rfl (by decide +kernel) ?_
  refine c_iret rfl (by decide +kernel) ?_
  refine s_if (p' := 8) false rfl (by decide +kernel) rfl ?_
  refine s_con (p' := 9) rfl rfl ?_
  refine s_goto (p' := 21) rfl rfl ?_
  refine k_iret rfl (by decide +kernel) ?_
  refine l_ist (p' := 1353) (ls' := [_, _, _, _, _, _, _, _, _, _]) rfl rfl rfl rfl rfl ?_
  refine l_aldn (p' := 1354) rfl rfl rfl rfl ?_
  refine l_call (p' := 1357) (kc := 99) (ls0 := [_]) rfl rfl rfl rfl rfl rfl (mj_rcv_is (rd_ss rfl (rd_app H400))) rfl rfl rfl ?_
  refine s_aldn (p' := 1) rfl rfl rfl ?_
  refine s_gf (p' := 4) rfl (rd_ss rfl (rd_app H400)) rfl rfl ?_
  refine k_iret rfl rfl ?_
  refine l_ild (p' := 1359) rfl rfl rfl rfl ?_
  refine l_icmp (p' := 1364) true rfl rfl (by decide +kernel) rfl ?_
  refine l_ild (p' := 1366) rfl rfl rfl rfl ?_
  refine l_if (p' := 1381) true rfl rfl (by decide +kernel) rfl ?_
  refine l_goto (p' := 2541) rfl rfl rfl ?_
  refine l_incz (p' := 2544) (w := (nI 4)) (ls' := [_, _, _, _, _, _, _, _, _, _]) rfl rfl rfl rfl (by decide +kernel) rfl rfl ?_
  refine l_goto (p' := 28) rfl rfl rfl ?_
  refine l_ild (p' := 30) rfl rfl rfl rfl ?_
  refine l_alds (p' := 31) rfl rfl rfl rfl ?_
  refine l_lens (p' := 32) rfl rfl rfl ?_
  refine l_con (p' := 33) rfl rfl rfl ?_
  refine l_bz (p' := 34) (z := (nI 0)) rfl rfl rfl rfl rfl (by decide +kernel) ?_
  refine l_icmp (p' := 2547) true rfl rfl (by decide +kernel) rfl ?_
  refine l_con (p' := 2548) rfl rfl rfl ?_
  refine l_end rfl rfl ?_
  exact ⟨Nat.le_trans (Nat.le_of_eq (len_s (len_a HL rfl))) (Nat.le_of_ble_eq_true rfl), Nat.le_trans (sz_s rfl (rd_app H400) rfl (sz_aa (k := 6) (m := 20006) rfl rfl HZ)) (Nat.le_of_ble_eq_true rfl)⟩
theorem p1_22_n {xs : Nat → Int32} {h : mj_H} (hk : xs 0 &&& nI 63 = nI 22) {p : Int32} (hx1 : xs 1 = p) (hp : p.toInt < 0) (HL : h.length = 414) (HZ : mj_sz h ≤ 20000) (H0 : mj_rd h 0 = some (.inr (0, [.ref 1, .ref 38, .ref 299, .ref 336, .ref 373, .ref 375, .ref 378, .ref 381, .ref 387, .ref 393, .null, .null, .ref 397, .ref 398, .ref 399, .long (lN 0), .long (lN 0)]))) (H381 : mj_rd h 381 = some (.inr (8, [.ref 38, .ref 375, .ref 382, .ref 383, .ref 384, .ref 385, .ref 386, .int (nI 0), .int (nI 0), .int (nI 0), .int (nI 0), .int (nI 0), .int (nI 0)]))) (H400 : mj_rd h 400 = some (.inr (17, [.int (nI 0), .ref 401, .ref 402, .ref 1000300, .long (lN 0), .long (lN 0), .ref 410, .null, .null, .null, .ref 411]))) (H402 : mj_rd h 402 = some (.inr (19, [.ref 403, .ref 404, .ref 405, .ref 406, .ref 407, .ref 408, .ref 409, .int (nI 0), .int (nI 4294967295), .int (nI 0), .ref 400]))) : mj_fin 4 xs h := by
  unfold mj_fin
  refine l_ild (p' := 30) rfl rfl rfl rfl ?_
  refine l_alds (p' := 31) rfl rfl rfl rfl ?_
  refine l_lens (p' := 32) rfl rfl rfl ?_
  refine l_con (p' := 33) rfl rfl rfl ?_
  refine l_bz (p' := 34) (z := (nI 0)) rfl rfl rfl rfl rfl (by decide +kernel) ?_
  refine l_icmp (p' := 37) false rfl rfl (by decide +kernel) rfl ?_
  refine l_alds (p' := 38) rfl rfl rfl rfl ?_
  refine l_ild (p' := 40) rfl rfl rfl rfl ?_
  refine l_ialz (p' := 41) (m := 0) (z := (xs 0)) rfl rfl (by decide +kernel) rfl rfl rfl ?_
  refine l_bip (p' := 43) rfl rfl rfl ?_
  refine l_bz (p' := 44) (z := (nI 22)) rfl rfl rfl rfl rfl hk ?_
  refine l_sp (p' := 1384) (ls' := _) rfl rfl rfl rfl rfl ?_
  refine l_aldn (p' := 1385) rfl rfl rfl rfl ?_
  refine l_alds (p' := 1386) rfl rfl rfl rfl ?_
  refine l_ild (p' := 1388) rfl rfl rfl rfl ?_
  refine l_con (p' := 1389) rfl rfl rfl ?_
  refine l_bz (p' := 1390) (z := (nI 1)) rfl rfl rfl rfl rfl (by decide +kernel) ?_
  refine l_ialz (p' := 1391) (m := 1) (z := p) rfl rfl (by decide +kernel) rfl hx1 rfl ?_
  refine l_aldn (p' := 1392) rfl rfl rfl rfl ?_
  refine l_call (p' := 1395) (kc := 99) (ls0 := [_, _, _, _]) rfl rfl rfl rfl rfl rfl rfl rfl rfl rfl ?_
  refine s_aldn (p' := 1) rfl rfl rfl ?_
  refine s_con (p' := 2) rfl rfl ?_
  refine s_aldn (p' := 3) rfl rfl rfl ?_
  refine s_ildn (p' := 4) rfl rfl rfl ?_
  refine c_call (p' := 7) (kc := 98) (ls0 := [_, _]) rfl rfl rfl rfl rfl (mj_rcv_is H0) rfl rfl rfl ?_
  refine s_aldn (p' := 1) rfl rfl rfl ?_
  refine s_gf (p' := 4) rfl H0 rfl rfl ?_
  refine s_ildn (p' := 5) rfl rfl rfl ?_
  refine c_call (p' := 8) (kc := 97) (ls0 := [_, _]) rfl rfl rfl rfl rfl (mj_rcv_is H381) rfl rfl rfl ?_
  refine s_ildn (p' := 1) rfl rfl rfl ?_
  refine s_if (p' := 16) true rfl ((cg_lt (w := 0) (by decide +kernel)).trans (decide_eq_true (by omega))) rfl ?_
  refine s_con (p' := 17) rfl rfl ?_
  refine c_iret rfl (by decide +kernel) ?_
  refine s_if (p' := 11) false rfl (by decide +kernel) rfl ?_
  refine s_thrz (q := 414) rfl HL rfl ?_
  refine K_c (hp := 12) rfl (mj_ocl_is (rd_nw rfl HL)) rfl ?_
  refine s_astn (p' := 13) (ls' := [_, _, _, _]) rfl rfl rfl rfl ?_
  refine s_con (p' := 14) rfl rfl ?_
  refine k_iret rfl rfl ?_
  refine l_ist (p' := 1397) (ls' := [_, _, _, _, _, _, _, _, _, _]) rfl rfl rfl rfl rfl ?_
  refine l_aldn (p' := 1398) rfl rfl rfl rfl ?_
  refine l_alds (p' := 1399) rfl rfl rfl rfl ?_
  refine l_ild (p' := 1401) rfl rfl rfl rfl ?_
  refine l_con (p' := 1402) rfl rfl rfl ?_
  refine l_bz (p' := 1403) (z := (nI 1)) rfl rfl rfl rfl rfl (by decide +kernel) ?_
  refine l_ialz (p' := 1404) (m := 1) (z := p) rfl rfl (by decide +kernel) rfl hx1 rfl ?_
  refine l_call (p' := 1407) (kc := 99) (ls0 := [_, _]) rfl rfl rfl rfl rfl rfl (mj_rcv_is (rd_app H400)) rfl rfl rfl ?_
  refine s_aldn (p' := 1) rfl rfl rfl ?_
  refine s_ildn (p' := 2) rfl rfl rfl ?_
  refine c_call (p' := 5) (kc := 98) (ls0 := [_, _]) rfl rfl rfl rfl rfl (mj_rcv_is (rd_app H400)) rfl rfl rfl ?_
  refine s_aldn (p' := 1) rfl rfl rfl ?_
  refine s_aldn (p' := 2) rfl rfl rfl ?_
  refine s_gf (p' := 5) rfl (rd_app H400) rfl rfl ?_
  refine s_gf (p' := 8) rfl (rd_app H402) rfl rfl ?_
  refine s_con (p' := 9) rfl rfl ?_
  refine s_icmp (p' := 33) true rfl (by decide +kernel) rfl ?_
  refine s_con (p' := 34) rfl rfl ?_
  refine c_call (p' := 37) (kc := 97) (ls0 := [_, _]) rfl rfl rfl rfl rfl (mj_rcv_is (rd_app H400)) rfl rfl rfl ?_
  refine s_aldn (p' := 1) rfl rfl rfl ?_
  refine s_ildn (p' := 2) rfl rfl rfl ?_
  refine s_pfz (p' := 5) (fs' := [_, _, _, _, _, _, _, _, _, _, _]) rfl rfl (rd_app H400) rfl rfl rfl rfl ?_
  refine s_ildn (p' := 6) rfl rfl rfl ?_
  refine s_if (p' := 9) false rfl (by decide +kernel) rfl ?_
  refine s_con (p' := 10) rfl rfl ?_
  refine s_goto (p' := 14) rfl rfl ?_
  refine c_iret rfl (by decide +kernel) ?_
  refine c_iret rfl (by decide +kernel) ?_
  refine s_if (p' := 8) false rfl (by decide +kernel) rfl ?_
  refine s_con (p' := 9) rfl rfl ?_
  refine s_goto (p' := 21) rfl rfl ?_
  refine k_iret rfl rfl ?_
  refine l_ist (p' := 1409) (ls' := [_, _, _, _, _, _, _, _, _, _]) rfl rfl rfl rfl rfl ?_
  refine l_aldn (p' := 1410) rfl rfl rfl rfl ?_
  refine l_call (p' := 1413) (kc := 99) (ls0 := [_]) rfl rfl rfl rfl rfl rfl (mj_rcv_is (rd_ss rfl (rd_app H400))) rfl rfl rfl ?_
  refine s_aldn (p' := 1) rfl rfl rfl ?_
  refine s_gf (p' := 4) rfl (rd_ss rfl (rd_app H400)) rfl rfl ?_
  refine k_iret rfl rfl ?_
  refine l_ild (p' := 1415) rfl rfl rfl rfl ?_
  refine l_icmp (p' := 1420) true rfl rfl (by decide +kernel) rfl ?_
  refine l_ild (p' := 1422) rfl rfl rfl rfl ?_
  refine l_if (p' := 1437) true rfl rfl (by decide +kernel) rfl ?_
  refine l_goto (p' := 2541) rfl rfl rfl ?_
  refine l_incz (p' := 2544) (w := (nI 4)) (ls' := [_, _, _, _, _, _, _, _, _, _]) rfl rfl rfl rfl (by decide +kernel) rfl rfl ?_
  refine l_goto (p' := 28) rfl rfl rfl ?_
  refine l_ild (p' := 30) rfl rfl rfl rfl ?_
  refine l_alds (p' := 31) rfl rfl rfl rfl ?_
  refine l_lens (p' := 32) rfl rfl rfl ?_
  refine l_con (p' := 33) rfl rfl rfl ?_
  refine l_bz (p' := 34) (z := (nI 0)) rfl rfl rfl rfl rfl (by decide +kernel) ?_
  refine l_icmp (p' := 2547) true rfl rfl (by decide +kernel) rfl ?_
  refine l_con (p' := 2548) rfl rfl rfl ?_
  refine l_end rfl rfl ?_
  exact ⟨Nat.le_trans (Nat.le_of_eq (len_s (len_a HL rfl))) (Nat.le_of_ble_eq_true rfl), Nat.le_trans (sz_s rfl (rd_app H400) rfl (sz_aa (k := 6) (m := 20006) rfl rfl HZ)) (Nat.le_of_ble_eq_true rfl)⟩
theorem p1_22_p {xs : Nat → Int32} {h : mj_H} (hk : xs 0 &&& nI 63 = nI 22) {p : Int32} (hx1 : xs 1 = p) (hp : 0 ≤ p.toInt) (HL : h.length = 414) (HZ : mj_sz h ≤ 20000) (H0 : mj_rd h 0 = some (.inr (0, [.ref 1, .ref 38, .ref 299, .ref 336, .ref 373, .ref 375, .ref 378, .ref 381, .ref 387, .ref 393, .null, .null, .ref 397, .ref 398, .ref 399, .long (lN 0), .long (lN 0)]))) (H381 : mj_rd h 381 = some (.inr (8, [.ref 38, .ref 375, .ref 382, .ref 383, .ref 384, .ref 385, .ref 386, .int (nI 0), .int (nI 0), .int (nI 0), .int (nI 0), .int (nI 0), .int (nI 0)]))) (H400 : mj_rd h 400 = some (.inr (17, [.int (nI 0), .ref 401, .ref 402, .ref 1000300, .long (lN 0), .long (lN 0), .ref 410, .null, .null, .null, .ref 411]))) (H402 : mj_rd h 402 = some (.inr (19, [.ref 403, .ref 404, .ref 405, .ref 406, .ref 407, .ref 408, .ref 409, .int (nI 0), .int (nI 4294967295), .int (nI 0), .ref 400]))) : mj_fin 4 xs h := by
  unfold mj_fin
  refine l_ild (p' := 30) rfl rfl rfl rfl ?_
  refine l_alds (p' := 31) rfl rfl rfl rfl ?_
  refine l_lens (p' := 32) rfl rfl rfl ?_
  refine l_con (p' := 33) rfl rfl rfl ?_
  refine l_bz (p' := 34) (z := (nI 0)) rfl rfl rfl rfl rfl (by decide +kernel) ?_
  refine l_icmp (p' := 37) false rfl rfl (by decide +kernel) rfl ?_
  refine l_alds (p' := 38) rfl rfl rfl rfl ?_
  refine l_ild (p' := 40) rfl rfl rfl rfl ?_
  refine l_ialz (p' := 41) (m := 0) (z := (xs 0)) rfl rfl (by decide +kernel) rfl rfl rfl ?_
  refine l_bip (p' := 43) rfl rfl rfl ?_
  refine l_bz (p' := 44) (z := (nI 22)) rfl rfl rfl rfl rfl hk ?_
  refine l_sp (p' := 1384) (ls' := _) rfl rfl rfl rfl rfl ?_
  refine l_aldn (p' := 1385) rfl rfl rfl rfl ?_
  refine l_alds (p' := 1386) rfl rfl rfl rfl ?_
  refine l_ild (p' := 1388) rfl rfl rfl rfl ?_
  refine l_con (p' := 1389) rfl rfl rfl ?_
  refine l_bz (p' := 1390) (z := (nI 1)) rfl rfl rfl rfl rfl (by decide +kernel) ?_
  refine l_ialz (p' := 1391) (m := 1) (z := p) rfl rfl (by decide +kernel) rfl hx1 rfl ?_
  refine l_aldn (p' := 1392) rfl rfl rfl rfl ?_
  refine l_call (p' := 1395) (kc := 99) (ls0 := [_, _, _, _]) rfl rfl rfl rfl rfl rfl rfl rfl rfl rfl ?_
  refine s_aldn (p' := 1) rfl rfl rfl ?_
  refine s_con (p' := 2) rfl rfl ?_
  refine s_aldn (p' := 3) rfl rfl rfl ?_
  refine s_ildn (p' := 4) rfl rfl rfl ?_
  refine c_call (p' := 7) (kc := 98) (ls0 := [_, _]) rfl rfl rfl rfl rfl (mj_rcv_is H0) rfl rfl rfl ?_
  refine s_aldn (p' := 1) rfl rfl rfl ?_
  refine s_gf (p' := 4) rfl H0 rfl rfl ?_
  refine s_ildn (p' := 5) rfl rfl rfl ?_
  refine c_call (p' := 8) (kc := 97) (ls0 := [_, _]) rfl rfl rfl rfl rfl (mj_rcv_is H381) rfl rfl rfl ?_
  refine s_ildn (p' := 1) rfl rfl rfl ?_
  refine s_if (p' := 4) false rfl ((cg_lt (w := 0) (by decide +kernel)).trans (decide_eq_false (by omega))) rfl ?_
  refine s_ildn (p' := 5) rfl rfl rfl ?_
  refine s_aldn (p' := 6) rfl rfl rfl ?_
  refine s_gf (p' := 9) rfl H381 rfl rfl ?_
  refine s_icmp (p' := 16) true rfl ((cg_ge (w := 0) (by decide +kernel)).trans (decide_eq_true (by omega))) rfl ?_
  refine s_con (p' := 17) rfl rfl ?_
  refine c_iret rfl (by decide +kernel) ?_
  refine s_if (p' := 11) false rfl (by decide +kernel) rfl ?_
  refine s_thrz (q := 414) rfl HL rfl ?_
  refine K_c (hp := 12) rfl (mj_ocl_is (rd_nw rfl HL)) rfl ?_
  refine s_astn (p' := 13) (ls' := [_, _, _, _]) rfl rfl rfl rfl ?_
  refine s_con (p' := 14) rfl rfl ?_
  refine k_iret rfl rfl ?_
  refine l_ist (p' := 1397) (ls' := [_, _, _, _, _, _, _, _, _, _]) rfl rfl rfl rfl rfl ?_
  refine l_aldn (p' := 1398) rfl rfl rfl rfl ?_
  refine l_alds (p' := 1399) rfl rfl rfl rfl ?_
  refine l_ild (p' := 1401) rfl rfl rfl rfl ?_
  refine l_con (p' := 1402) rfl rfl rfl ?_
  refine l_bz (p' := 1403) (z := (nI 1)) rfl rfl rfl rfl rfl (by decide +kernel) ?_
  refine l_ialz (p' := 1404) (m := 1) (z := p) rfl rfl (by decide +kernel) rfl hx1 rfl ?_
  refine l_call (p' := 1407) (kc := 99) (ls0 := [_, _]) rfl rfl rfl rfl rfl rfl (mj_rcv_is (rd_app H400)) rfl rfl rfl ?_
  refine s_aldn (p' := 1) rfl rfl rfl ?_
  refine s_ildn (p' := 2) rfl rfl rfl ?_
  refine c_call (p' := 5) (kc := 98) (ls0 := [_, _]) rfl rfl rfl rfl rfl (mj_rcv_is (rd_app H400)) rfl rfl rfl ?_
  refine s_aldn (p' := 1) rfl rfl rfl ?_
  refine s_aldn (p' := 2) rfl rfl rfl ?_
  refine s_gf (p' := 5) rfl (rd_app H400) rfl rfl ?_
  refine s_gf (p' := 8) rfl (rd_app H402) rfl rfl ?_
  refine s_con (p' := 9) rfl rfl ?_
  refine s_icmp (p' := 33) true rfl (by decide +kernel) rfl ?_
  refine s_con (p' := 34) rfl rfl ?_
  refine c_call (p' := 37) (kc := 97) (ls0 := [_, _]) rfl rfl rfl rfl rfl (mj_rcv_is (rd_app H400)) rfl rfl rfl ?_
  refine s_aldn (p' := 1) rfl rfl rfl ?_
  refine s_ildn (p' := 2) rfl rfl rfl ?_
  refine s_pfz (p' := 5) (fs' := [_, _, _, _, _, _, _, _, _, _, _]) rfl rfl (rd_app H400) rfl rfl rfl rfl ?_
  refine s_ildn (p' := 6) rfl rfl rfl ?_
  refine s_if (p' := 9) false rfl (by decide +kernel) rfl ?_
  refine s_con (p' := 10) rfl rfl ?_
  refine s_goto (p' := 14) rfl rfl ?_
  refine c_iret rfl (by decide +kernel) ?_
  refine c_iret rfl (by decide +kernel) ?_
  refine s_if (p' := 8) false rfl (by decide +kernel) rfl ?_
  refine s_con (p' := 9) rfl rfl ?_
  refine s_goto (p' := 21) rfl rfl ?_
  refine k_iret rfl rfl ?_
  refine l_ist (p' := 1409) (ls' := [_, _, _, _, _, _, _, _, _, _]) rfl rfl rfl rfl rfl ?_
  refine l_aldn (p' := 1410) rfl rfl rfl rfl ?_
  refine l_call (p' := 1413) (kc := 99) (ls0 := [_]) rfl rfl rfl rfl rfl rfl (mj_rcv_is (rd_ss rfl (rd_app H400))) rfl rfl rfl ?_
  refine s_aldn (p' := 1) rfl rfl rfl ?_
  refine s_gf (p' := 4) rfl (rd_ss rfl (rd_app H400)) rfl rfl ?_
  refine k_iret rfl rfl ?_
  refine l_ild (p' := 1415) rfl rfl rfl rfl ?_
  refine l_icmp (p' := 1420) true rfl rfl (by decide +kernel) rfl ?_
  refine l_ild (p' := 1422) rfl rfl rfl rfl ?_
  refine l_if (p' := 1437) true rfl rfl (by decide +kernel) rfl ?_
  refine l_goto (p' := 2541) rfl rfl rfl ?_
  refine l_incz (p' := 2544) (w := (nI 4)) (ls' := [_, _, _, _, _, _, _, _, _, _]) rfl rfl rfl rfl (by decide +kernel) rfl rfl ?_
  refine l_goto (p' := 28) rfl rfl rfl ?_
  refine l_ild (p' := 30) rfl rfl rfl rfl ?_
  refine l_alds (p' := 31) rfl rfl rfl rfl ?_
  refine l_lens (p' := 32) rfl rfl rfl ?_
  refine l_con (p' := 33) rfl rfl rfl ?_
  refine l_bz (p' := 34) (z := (nI 0)) rfl rfl rfl rfl rfl (by decide +kernel) ?_
  refine l_icmp (p' := 2547) true rfl rfl (by decide +kernel) rfl ?_
  refine l_con (p' := 2548) rfl rfl rfl ?_
  refine l_end rfl rfl ?_
  exact ⟨Nat.le_trans (Nat.le_of_eq (len_s (len_a HL rfl))) (Nat.le_of_ble_eq_true rfl), Nat.le_trans (sz_s rfl (rd_app H400) rfl (sz_aa (k := 6) (m := 20006) rfl rfl HZ)) (Nat.le_of_ble_eq_true rfl)⟩
theorem p1_37_n {xs : Nat → Int32} {h : mj_H} (hk : xs 0 &&& nI 63 = nI 37) {p : Int32} (hx1 : xs 1 = p) (hp : p.toInt < 0) (HL : h.length = 414) (HZ : mj_sz h ≤ 20000) (H0 : mj_rd h 0 = some (.inr (0, [.ref 1, .ref 38, .ref 299, .ref 336, .ref 373, .ref 375, .ref 378, .ref 381, .ref 387, .ref 393, .null, .null, .ref 397, .ref 398, .ref 399, .long (lN 0), .long (lN 0)]))) (H393 : mj_rd h 393 = some (.inr (9, [.ref 394, .ref 395, .ref 396, .int (nI 0), .int (nI 0)]))) (H395 : mj_rd h 395 = some (.inl (0, (8, .inl (fun _ => 0))))) (H400 : mj_rd h 400 = some (.inr (17, [.int (nI 0), .ref 401, .ref 402, .ref 1000300, .long (lN 0), .long (lN 0), .ref 410, .null, .null, .null, .ref 411]))) (H410 : mj_rd h 410 = some (.inr (18, [.ref 1000000, .int (nI 0), .int (nI 0)]))) : mj_fin 4 xs h := by
  unfold mj_fin
  refine l_ild (p' := 30) rfl rfl rfl rfl ?_
  refine l_alds (p' := 31) rfl rfl rfl rfl ?_
  refine l_lens (p' := 32) rfl rfl rfl ?_
  refine l_con (p' := 33) rfl rfl rfl ?_
  refine l_bz (p' := 34) (z := (nI 0)) rfl rfl rfl rfl rfl (by decide +kernel) ?_
  refine l_icmp (p' := 37) false rfl rfl (by decide +kernel) rfl ?_
  refine l_alds (p' := 38) rfl rfl rfl rfl ?_
  refine l_ild (p' := 40) rfl rfl rfl rfl ?_
  refine l_ialz (p' := 41) (m := 0) (z := (xs 0)) rfl rfl (by decide +kernel) rfl rfl rfl ?_
  refine l_bip (p' := 43) rfl rfl rfl ?_
  refine l_bz (p' := 44) (z := (nI 37)) rfl rfl rfl rfl rfl hk ?_
  refine l_sp (p' := 2093) (ls' := _) rfl rfl rfl rfl rfl ?_
  refine l_aldn (p' := 2094) rfl rfl rfl rfl ?_
  refine l_alds (p' := 2095) rfl rfl rfl rfl ?_
  refine l_ild (p' := 2097) rfl rfl rfl rfl ?_
  refine l_con (p' := 2098) rfl rfl rfl ?_
  refine l_bz (p' := 2099) (z := (nI 1)) rfl rfl rfl rfl rfl (by decide +kernel) ?_
  refine l_ialz (p' := 2100) (m := 1) (z := p) rfl rfl (by decide +kernel) rfl hx1 rfl ?_
  refine l_aldn (p' := 2101) rfl rfl rfl rfl ?_
  refine l_call (p' := 2104) (kc := 99) (ls0 := [_, _, _, _]) rfl rfl rfl rfl rfl rfl rfl rfl rfl rfl ?_
  refine s_aldn (p' := 1) rfl rfl rfl ?_
  refine s_con (p' := 2) rfl rfl ?_
  refine s_aldn (p' := 3) rfl rfl rfl ?_
  refine s_ildn (p' := 4) rfl rfl rfl ?_
  refine c_call (p' := 7) (kc := 98) (ls0 := [_, _, _]) rfl rfl rfl rfl rfl (mj_rcv_is H0) rfl rfl rfl ?_
  refine s_aldn (p' := 1) rfl rfl rfl ?_
  refine s_gf (p' := 4) rfl H0 rfl rfl ?_
  refine c_call (p' := 7) (kc := 97) (ls0 := [_, _, _]) rfl rfl rfl rfl rfl (mj_rcv_is H393) rfl rfl rfl ?_
  refine s_aldn (p' := 1) rfl rfl rfl ?_
  refine c_call (p' := 4) (kc := 96) (ls0 := [_, _]) rfl rfl rfl rfl rfl (mj_rcv_is H393) rfl rfl rfl ?_
  refine s_con (p' := 1) rfl rfl ?_
  refine s_istn (p' := 2) (ls' := [_, _]) rfl rfl rfl rfl ?_
  refine s_ildn (p' := 3) rfl rfl rfl ?_
  refine s_aldn (p' := 4) rfl rfl rfl ?_
  refine s_gf (p' := 7) rfl H393 rfl rfl ?_
  refine s_lenz (p' := 8) rfl (mj_rdA_is H395 (by decide)) rfl rfl ?_
  refine s_icmp (p' := 11) false rfl (by decide +kernel) rfl ?_
  refine s_aldn (p' := 12) rfl rfl rfl ?_
  refine s_gf (p' := 15) rfl H393 rfl rfl ?_
  refine s_ildn (p' := 16) rfl rfl rfl ?_
  refine s_aldn (p' := 17) rfl rfl rfl ?_
  refine s_ildn (p' := 18) rfl rfl rfl ?_
  refine c_call (p' := 21) (kc := 95) (ls0 := [_, _, _, _]) rfl rfl rfl rfl rfl (mj_rcv_is H393) rfl rfl rfl ?_
  refine s_ildn (p' := 1) rfl rfl rfl ?_
  refine s_istn (p' := 2) (ls' := [_, _, _, _]) rfl rfl rfl rfl ?_
  refine s_con (p' := 3) rfl rfl ?_
  refine s_istn (p' := 4) (ls' := [_, _, _, _]) rfl rfl rfl rfl ?_
  refine s_ildn (p' := 5) rfl rfl rfl ?_
  refine s_aldn (p' := 6) rfl rfl rfl ?_
  refine s_gf (p' := 9) rfl H393 rfl rfl ?_
  refine s_icmp (p' := 38) true rfl (by decide +kernel) rfl ?_
  refine s_ildn (p' := 39) rfl rfl rfl ?_
  refine c_iret rfl rfl ?_
  refine s_iasz (p' := 22) (m := 0) rfl rfl H395 (by decide +kernel) rfl rfl rfl ?_
  refine s_incz (p' := 25) (w := (nI 1)) (ls' := [_, _]) rfl rfl rfl (by decide +kernel) rfl rfl ?_
  refine s_goto (p' := 2) rfl rfl ?_
  refine s_ildn (p' := 3) rfl rfl rfl ?_
  refine s_aldn (p' := 4) rfl rfl rfl ?_
  refine s_gf (p' := 7) rfl (rd_sn rfl H393) rfl rfl ?_
  refine s_lenz (p' := 8) rfl (mj_rdA_is (rd_ss rfl H395) (by decide)) rfl rfl ?_
  refine s_icmp (p' := 11) false rfl (by decide +kernel) rfl ?_
  refine s_aldn (p' := 12) rfl rfl rfl ?_
  refine s_gf (p' := 15) rfl (rd_sn rfl H393) rfl rfl ?_
  refine s_ildn (p' := 16) rfl rfl rfl ?_
  refine s_aldn (p' := 17) rfl rfl rfl ?_
  refine s_ildn (p' := 18) rfl rfl rfl ?_
  refine c_call (p' := 21) (kc := 95) (ls0 := [_, _, _, _]) rfl rfl rfl rfl rfl (mj_rcv_is (rd_sn rfl H393)) rfl rfl rfl ?_
  refine s_ildn (p' := 1) rfl rfl rfl ?_
  refine s_istn (p' := 2) (ls' := [_, _, _, _]) rfl rfl rfl rfl ?_
  refine s_con (p' := 3) rfl rfl ?_
  refine s_istn (p' := 4) (ls' := [_, _, _, _]) rfl rfl rfl rfl ?_
  refine s_ildn (p' := 5) rfl rfl rfl ?_
  refine s_aldn (p' := 6) rfl rfl rfl ?_
  refine s_gf (p' := 9) rfl (rd_sn rfl H393) rfl rfl ?_
  refine s_icmp (p' := 38) true rfl (by decide +kernel) rfl ?_
  refine s_ildn (p' := 39) rfl rfl rfl ?_
  refine c_iret rfl rfl ?_
  refine s_iasz (p' := 22) (m := 1) rfl rfl (rd_ss rfl H395) (by decide +kernel) rfl rfl rfl ?_
  refine s_incz (p' := 25) (w := (nI 2)) (ls' := [_, _]) rfl rfl rfl (by decide +kernel) rfl rfl ?_
  refine s_goto (p' := 2) rfl rfl ?_
  refine s_ildn (p' := 3) rfl rfl rfl ?_
  refine s_aldn (p' := 4) rfl rfl rfl ?_
  refine s_gf (p' := 7) rfl (rd_sn rfl (rd_sn rfl H393)) rfl rfl ?_
  refine s_lenz (p' := 8) rfl (mj_rdA_is (rd_ss rfl (rd_ss rfl H395)) (by decide)) rfl rfl ?_
  refine s_icmp (p' := 11) false rfl (by decide +kernel) rfl ?_
  refine s_aldn (p' := 12) rfl rfl rfl ?_
  refine s_gf (p' := 15) rfl (rd_sn rfl (rd_sn rfl H393)) rfl rfl ?_
  refine s_ildn (p' := 16) rfl rfl rfl ?_
  refine s_aldn (p' := 17) rfl rfl rfl ?_
  refine s_ildn (p' := 18) rfl rfl rfl ?_
  refine c_call (p' := 21) (kc := 95) (ls0 := [_, _, _, _]) rfl rfl rfl rfl rfl (mj_rcv_is (rd_sn rfl (rd_sn rfl H393))) rfl rfl rfl ?_
  refine s_ildn (p' := 1) rfl rfl rfl ?_
  refine s_istn (p' := 2) (ls' := [_, _, _, _]) rfl rfl rfl rfl ?_
  refine s_con (p' := 3) rfl rfl ?_
  refine s_istn (p' := 4) (ls' := [_, _, _, _]) rfl rfl rfl rfl ?_
  refine s_ildn (p' := 5) rfl rfl rfl ?_
  refine s_aldn (p' := 6) rfl rfl rfl ?_
  refine s_gf (p' := 9) rfl (rd_sn rfl (rd_sn rfl H393)) rfl rfl ?_
  refine s_icmp (p' := 38) true rfl (by decide +kernel) rfl ?_
  refine s_ildn (p' := 39) rfl rfl rfl ?_
  refine c_iret rfl rfl ?_
  refine s_iasz (p' := 22) (m := 2) rfl rfl (rd_ss rfl (rd_ss rfl H395)) (by decide +kernel) rfl rfl rfl ?_
  refine s_incz (p' := 25) (w := (nI 3)) (ls' := [_, _]) rfl rfl rfl (by decide +kernel) rfl rfl ?_
  refine s_goto (p' := 2) rfl rfl ?_
  refine s_ildn (p' := 3) rfl rfl rfl ?_
  refine s_aldn (p' := 4) rfl rfl rfl ?_
  refine s_gf (p' := 7) rfl (rd_sn rfl (rd_sn rfl (rd_sn rfl H393))) rfl rfl ?_
  refine s_lenz (p' := 8) rfl (mj_rdA_is (rd_ss rfl (rd_ss rfl (rd_ss rfl H395))) (by decide)) rfl rfl ?_
  refine s_icmp (p' := 11) false rfl (by decide +kernel) rfl ?_
  refine s_aldn (p' := 12) rfl rfl rfl ?_
  refine s_gf (p' := 15) rfl (rd_sn rfl (rd_sn rfl (rd_sn rfl H393))) rfl rfl ?_
  refine s_ildn (p' := 16) rfl rfl rfl ?_
  refine s_aldn (p' := 17) rfl rfl rfl ?_
  refine s_ildn (p' := 18) rfl rfl rfl ?_
  refine c_call (p' := 21) (kc := 95) (ls0 := [_, _, _, _]) rfl rfl rfl rfl rfl (mj_rcv_is (rd_sn rfl (rd_sn rfl (rd_sn rfl H393)))) rfl rfl rfl ?_
  refine s_ildn (p' := 1) rfl rfl rfl ?_
  refine s_istn (p' := 2) (ls' := [_, _, _, _]) rfl rfl rfl rfl ?_
  refine s_con (p' := 3) rfl rfl ?_
  refine s_istn (p' := 4) (ls' := [_, _, _, _]) rfl rfl rfl rfl ?_
  refine s_ildn (p' := 5) rfl rfl rfl ?_
  refine s_aldn (p' := 6) rfl rfl rfl ?_
  refine s_gf (p' := 9) rfl (rd_sn rfl (rd_sn rfl (rd_sn rfl H393))) rfl rfl ?_
  refine s_icmp (p' := 38) true rfl (by decide +kernel) rfl ?_
  refine s_ildn (p' := 39) rfl rfl rfl ?_
  refine c_iret rfl rfl ?_
  refine s_iasz (p' := 22) (m := 3) rfl rfl (rd_ss rfl (rd_ss rfl (rd_ss rfl H395))) (by decide +kernel) rfl rfl rfl ?_
  refine s_incz (p' := 25) (w := (nI 4)) (ls' := [_, _]) rfl rfl rfl (by decide +kernel) rfl rfl ?_
  refine s_goto (p' := 2) rfl rfl ?_
  refine s_ildn (p' := 3) rfl rfl rfl ?_
  refine s_aldn (p' := 4) rfl rfl rfl ?_
  refine s_gf (p' := 7) rfl (rd_sn rfl (rd_sn rfl (rd_sn rfl (rd_sn rfl H393)))) rfl rfl ?_
  refine s_lenz (p' := 8) rfl (mj_rdA_is (rd_ss rfl (rd_ss rfl (rd_ss rfl (rd_ss rfl H395)))) (by decide)) rfl rfl ?_
  refine s_icmp (p' := 11) false rfl (by decide +kernel) rfl ?_
  refine s_aldn (p' := 12) rfl rfl rfl ?_
  refine s_gf (p' := 15) rfl (rd_sn rfl (rd_sn rfl (rd_sn rfl (rd_sn rfl H393)))) rfl rfl ?_
  refine s_ildn (p' := 16) rfl rfl rfl ?_
  refine s_aldn (p' := 17) rfl rfl rfl ?_
  refine s_ildn (p' := 18) rfl rfl rfl ?_
  refine c_call (p' := 21) (kc := 95) (ls0 := [_, _, _, _]) rfl rfl rfl rfl rfl (mj_rcv_is (rd_sn rfl (rd_sn rfl (rd_sn rfl (rd_sn rfl H393))))) rfl rfl rfl ?_
  refine s_ildn (p' := 1) rfl rfl rfl ?_
  refine s_istn (p' := 2) (ls' := [_, _, _, _]) rfl rfl rfl rfl ?_
  refine s_con (p' := 3) rfl rfl ?_
  refine s_istn (p' := 4) (ls' := [_, _, _, _]) rfl rfl rfl rfl ?_
  refine s_ildn (p' := 5) rfl rfl rfl ?_
  refine s_aldn (p' := 6) rfl rfl rfl ?_
  refine s_gf (p' := 9) rfl (rd_sn rfl (rd_sn rfl (rd_sn rfl (rd_sn rfl H393)))) rfl rfl ?_
  refine s_icmp (p' := 38) true rfl (by decide +kernel) rfl ?_
  refine s_ildn (p' := 39) rfl rfl rfl ?_
  refine c_iret rfl rfl ?_
  refine s_iasz (p' := 22) (m := 4) rfl rfl (rd_ss rfl (rd_ss rfl (rd_ss rfl (rd_ss rfl H395)))) (by decide +kernel) rfl rfl rfl ?_
  refine s_incz (p' := 25) (w := (nI 5)) (ls' := [_, _]) rfl rfl rfl (by decide +kernel) rfl rfl ?_
  refine s_goto (p' := 2) rfl rfl ?_
  refine s_ildn (p' := 3) rfl rfl rfl ?_
  refine s_aldn (p' := 4) rfl rfl rfl ?_
  refine s_gf (p' := 7) rfl (rd_sn rfl (rd_sn rfl (rd_sn rfl (rd_sn rfl (rd_sn rfl H393))))) rfl rfl ?_
  refine s_lenz (p' := 8) rfl (mj_rdA_is (rd_ss rfl (rd_ss rfl (rd_ss rfl (rd_ss rfl (rd_ss rfl H395))))) (by decide)) rfl rfl ?_
  refine s_icmp (p' := 11) false rfl (by decide +kernel) rfl ?_
  refine s_aldn (p' := 12) rfl rfl rfl ?_
  refine s_gf (p' := 15) rfl (rd_sn rfl (rd_sn rfl (rd_sn rfl (rd_sn rfl (rd_sn rfl H393))))) rfl rfl ?_
  refine s_ildn (p' := 16) rfl rfl rfl ?_
  refine s_aldn (p' := 17) rfl rfl rfl ?_
  refine s_ildn (p' := 18) rfl rfl rfl ?_
  refine c_call (p' := 21) (kc := 95) (ls0 := [_, _, _, _]) rfl rfl rfl rfl rfl (mj_rcv_is (rd_sn rfl (rd_sn rfl (rd_sn rfl (rd_sn rfl (rd_sn rfl H393)))))) rfl rfl rfl ?_
  refine s_ildn (p' := 1) rfl rfl rfl ?_
  refine s_istn (p' := 2) (ls' := [_, _, _, _]) rfl rfl rfl rfl ?_
  refine s_con (p' := 3) rfl rfl ?_
  refine s_istn (p' := 4) (ls' := [_, _, _, _]) rfl rfl rfl rfl ?_
  refine s_ildn (p' := 5) rfl rfl rfl ?_
  refine s_aldn (p' := 6) rfl rfl rfl ?_
  refine s_gf (p' := 9) rfl (rd_sn rfl (rd_sn rfl (rd_sn rfl (rd_sn rfl (rd_sn rfl H393))))) rfl rfl ?_
  refine s_icmp (p' := 38) true rfl (by decide +kernel) rfl ?_
  refine s_ildn (p' := 39) rfl rfl rfl ?_
  refine c_iret rfl rfl ?_
  refine s_iasz (p' := 22) (m := 5) rfl rfl (rd_ss rfl (rd_ss rfl (rd_ss rfl (rd_ss rfl (rd_ss rfl H395))))) (by decide +kernel) rfl rfl rfl ?_
  refine s_incz (p' := 25) (w := (nI 6)) (ls' := [_, _]) rfl rfl rfl (by decide +kernel) rfl rfl ?_
  refine s_goto (p' := 2) rfl rfl ?_
  refine s_ildn (p' := 3) rfl rfl rfl ?_
  refine s_aldn (p' := 4) rfl rfl rfl ?_
  refine s_gf (p' := 7) rfl (rd_sn rfl (rd_sn rfl (rd_sn rfl (rd_sn rfl (rd_sn rfl (rd_sn rfl H393)))))) rfl rfl ?_
  refine s_lenz (p' := 8) rfl (mj_rdA_is (rd_ss rfl (rd_ss rfl (rd_ss rfl (rd_ss rfl (rd_ss rfl (rd_ss rfl H395)))))) (by decide)) rfl rfl ?_
  refine s_icmp (p' := 11) false rfl (by decide +kernel) rfl ?_
  refine s_aldn (p' := 12) rfl rfl rfl ?_
  refine s_gf (p' := 15) rfl (rd_sn rfl (rd_sn rfl (rd_sn rfl (rd_sn rfl (rd_sn rfl (rd_sn rfl H393)))))) rfl rfl ?_
  refine s_ildn (p' := 16) rfl rfl rfl ?_
  refine s_aldn (p' := 17) rfl rfl rfl ?_
  refine s_ildn (p' := 18) rfl rfl rfl ?_
  refine c_call (p' := 21) (kc := 95) (ls0 := [_, _, _, _]) rfl rfl rfl rfl rfl (mj_rcv_is (rd_sn rfl (rd_sn rfl (rd_sn rfl (rd_sn rfl (rd_sn rfl (rd_sn rfl H393))))))) rfl rfl rfl ?_
  refine s_ildn (p' := 1) rfl rfl rfl ?_
  refine s_istn (p' := 2) (ls' := [_, _, _, _]) rfl rfl rfl rfl ?_
  refine s_con (p' := 3) rfl rfl ?_
  refine s_istn (p' := 4) (ls' := [_, _, _, _]) rfl rfl rfl rfl ?_
  refine s_ildn (p' := 5) rfl rfl rfl ?_
  refine s_aldn (p' := 6) rfl rfl rfl ?_
  refine s_gf (p' := 9) rfl (rd_sn rfl (rd_sn rfl (rd_sn rfl (rd_sn rfl (rd_sn rfl (rd_sn rfl H393)))))) rfl rfl ?_
  refine s_icmp (p' := 38) true rfl (by decide +kernel) rfl ?_
  refine s_ildn (p' := 39) rfl rfl rfl ?_
  refine c_iret rfl rfl ?_
  refine s_iasz (p' := 22) (m := 6) rfl rfl (rd_ss rfl (rd_ss rfl (rd_ss rfl (rd_ss rfl (rd_ss rfl (rd_ss rfl H395)))))) (by decide +kernel) rfl rfl rfl ?_
  refine s_incz (p' := 25) (w := (nI 7)) (ls' := [_, _]) rfl rfl rfl (by decide +kernel) rfl rfl ?_
  refine s_goto (p' := 2) rfl rfl ?_
  refine s_ildn (p' := 3) rfl rfl rfl ?_
  refine s_aldn (p' := 4) rfl rfl rfl ?_
  refine s_gf (p' := 7) rfl (rd_sn rfl (rd_sn rfl (rd_sn rfl (rd_sn rfl (rd_sn rfl (rd_sn rfl (rd_sn rfl H393))))))) rfl rfl ?_
  refine s_lenz (p' := 8) rfl (mj_rdA_is (rd_ss rfl (rd_ss rfl (rd_ss rfl (rd_ss rfl (rd_ss rfl (rd_ss rfl (rd_ss rfl H395))))))) (by decide)) rfl rfl ?_
  refine s_icmp (p' := 11) false rfl (by decide +kernel) rfl ?_
  refine s_aldn (p' := 12) rfl rfl rfl ?_
  refine s_gf (p' := 15) rfl (rd_sn rfl (rd_sn rfl (rd_sn rfl (rd_sn rfl (rd_sn rfl (rd_sn rfl (rd_sn rfl H393))))))) rfl rfl ?_
  refine s_ildn (p' := 16) rfl rfl rfl ?_
  refine s_aldn (p' := 17) rfl rfl rfl ?_
  refine s_ildn (p' := 18) rfl rfl rfl ?_
  refine c_call (p' := 21) (kc := 95) (ls0 := [_, _, _, _]) rfl rfl rfl rfl rfl (mj_rcv_is (rd_sn rfl (rd_sn rfl (rd_sn rfl (rd_sn rfl (rd_sn rfl (rd_sn rfl (rd_sn rfl H393)))))))) rfl rfl rfl ?_
  refine s_ildn (p' := 1) rfl rfl rfl ?_
  refine s_istn (p' := 2) (ls' := [_, _, _, _]) rfl rfl rfl rfl ?_
  refine s_con (p' := 3) rfl rfl ?_
  refine s_istn (p' := 4) (ls' := [_, _, _, _]) rfl rfl rfl rfl ?_
  refine s_ildn (p' := 5) rfl rfl rfl ?_
  refine s_aldn (p' := 6) rfl rfl rfl ?_
  refine s_gf (p' := 9) rfl (rd_sn rfl (rd_sn rfl (rd_sn rfl (rd_sn rfl (rd_sn rfl (rd_sn rfl (rd_sn rfl H393))))))) rfl rfl ?_
  refine s_icmp (p' := 38) true rfl (by decide +kernel) rfl ?_
  refine s_ildn (p' := 39) rfl rfl rfl ?_
  refine c_iret rfl rfl ?_
  refine s_iasz (p' := 22) (m := 7) rfl rfl (rd_ss rfl (rd_ss rfl (rd_ss rfl (rd_ss rfl (rd_ss rfl (rd_ss rfl (rd_ss rfl H395))))))) (by decide +kernel) rfl rfl rfl ?_
  refine s_incz (p' := 25) (w := (nI 8)) (ls' := [_, _]) rfl rfl rfl (by decide +kernel) rfl rfl ?_
  refine s_goto (p' := 2) rfl rfl ?_
  refine s_ildn (p' := 3) rfl rfl rfl ?_
  refine s_aldn (p' := 4) rfl rfl rfl ?_
  refine s_gf (p' := 7) rfl (rd_sn rfl (rd_sn rfl (rd_sn rfl (rd_sn rfl (rd_sn rfl (rd_sn rfl (rd_sn rfl (rd_sn rfl H393)))))))) rfl rfl ?_
  refine s_lenz (p' := 8) rfl (mj_rdA_is (rd_ss rfl (rd_ss rfl (rd_ss rfl (rd_ss rfl (rd_ss rfl (rd_ss rfl (rd_ss rfl (rd_ss rfl H395)))))))) (by decide)) rfl rfl ?_
  refine s_icmp (p' := 28) true rfl (by decide +kernel) rfl ?_
  refine c_ret rfl ?_
  refine s_aldn (p' := 5) rfl rfl rfl ?_
  refine s_con (p' := 6) rfl rfl ?_
  refine s_pfz (p' := 9) (fs' := [_, _, _, _, _]) rfl rfl (rd_sn rfl (rd_sn rfl (rd_sn rfl (rd_sn rfl (rd_sn rfl (rd_sn rfl (rd_sn rfl (rd_sn rfl H393)))))))) rfl rfl rfl rfl ?_
  refine s_con (p' := 10) rfl rfl ?_
  refine s_istn (p' := 11) (ls' := [_, _, _]) rfl rfl rfl rfl ?_
  refine s_ildn (p' := 12) rfl rfl rfl ?_
  refine s_aldn (p' := 13) rfl rfl rfl ?_
  refine s_gf (p' := 16) rfl (rd_ss rfl (rd_sn rfl (rd_sn rfl (rd_sn rfl (rd_sn rfl (rd_sn rfl (rd_sn rfl (rd_sn rfl (rd_sn rfl H393))))))))) rfl rfl ?_
  refine s_lenz (p' := 17) rfl (mj_rdA_is (rd_sn rfl (rd_ss rfl (rd_ss rfl (rd_ss rfl (rd_ss rfl (rd_ss rfl (rd_ss rfl (rd_ss rfl (rd_ss rfl H395))))))))) (by decide)) rfl rfl ?_
  refine s_icmp (p' := 20) false rfl (by decide +kernel) rfl ?_
  refine s_con (p' := 21) rfl rfl ?_
  refine s_istn (p' := 22) (ls' := [_, _, _]) rfl rfl rfl rfl ?_
  refine s_ildn (p' := 23) rfl rfl rfl ?_
  refine s_con (p' := 24) rfl rfl ?_
  refine s_icmp (p' := 27) false rfl (by decide +kernel) rfl ?_
  refine s_ildn (p' := 28) rfl rfl rfl ?_
  refine s_aldn (p' := 29) rfl rfl rfl ?_
  refine s_gf (p' := 32) rfl (rd_ss rfl (rd_sn rfl (rd_sn rfl (rd_sn rfl (rd_sn rfl (rd_sn rfl (rd_sn rfl (rd_sn rfl (rd_sn rfl H393))))))))) rfl rfl ?_
  refine s_ildn (p' := 33) rfl rfl rfl ?_
  refine s_ialz (p' := 34) (m := 0) (v := (nI 0)) rfl (rd_sn rfl (rd_ss rfl (rd_ss rfl (rd_ss rfl (rd_ss rfl (rd_ss rfl (rd_ss rfl (rd_ss rfl (rd_ss rfl H395))))))))) (by decide +kernel) rfl (by decide +kernel) rfl ?_
  refine s_con (p' := 35) rfl rfl ?_
  refine s_bz (p' := 36) (z := (nI 4294967295)) rfl rfl rfl (by decide +kernel) ?_
  refine s_bz (p' := 37) (z := (nI 0)) rfl rfl rfl (by decide +kernel) ?_
  refine s_con (p' := 38) rfl rfl ?_
  refine s_ildn (p' := 39) rfl rfl rfl ?_
  refine s_bz (p' := 40) (z := (nI 1)) rfl rfl rfl (by decide +kernel) ?_
  refine s_bz (p' := 41) (z := (nI 0)) rfl rfl rfl (by decide +kernel) ?_
  refine s_if (p' := 55) true rfl (by decide +kernel) rfl ?_
  refine s_incz (p' := 58) (w := (nI 1)) (ls' := [_, _, _]) rfl rfl rfl (by decide +kernel) rfl rfl ?_
  refine s_goto (p' := 22) rfl rfl ?_
  refine s_ildn (p' := 23) rfl rfl rfl ?_
  refine s_con (p' := 24) rfl rfl ?_
  refine s_icmp (p' := 27) false rfl (by decide +kernel) rfl ?_
  refine s_ildn (p' := 28) rfl rfl rfl ?_
  refine s_aldn (p' := 29) rfl rfl rfl ?_
  refine s_gf (p' := 32) rfl (rd_ss rfl (rd_sn rfl (rd_sn rfl (rd_sn rfl (rd_sn rfl (rd_sn rfl (rd_sn rfl (rd_sn rfl (rd_sn rfl H393))))))))) rfl rfl ?_
  refine s_ildn (p' := 33) rfl rfl rfl ?_
  refine s_ialz (p' := 34) (m := 0) (v := (nI 0)) rfl (rd_sn rfl (rd_ss rfl (rd_ss rfl (rd_ss rfl (rd_ss rfl (rd_ss rfl (rd_ss rfl (rd_ss rfl (rd_ss rfl H395))))))))) (by decide +kernel) rfl (by decide +kernel) rfl ?_
  refine s_con (p' := 35) rfl rfl ?_
  refine s_bz (p' := 36) (z := (nI 4294967295)) rfl rfl rfl (by decide +kernel) ?_
  refine s_bz (p' := 37) (z := (nI 0)) rfl rfl rfl (by decide +kernel) ?_
  refine s_con (p' := 38) rfl rfl ?_
  refine s_ildn (p' := 39) rfl rfl rfl ?_
  refine s_bz (p' := 40) (z := (nI 2)) rfl rfl rfl (by decide +kernel) ?_
  refine s_bz (p' := 41) (z := (nI 0)) rfl rfl rfl (by decide +kernel) ?_
  refine s_if (p' := 55) true rfl (by decide +kernel) rfl ?_
  refine s_incz (p' := 58) (w := (nI 2)) (ls' := [_, _, _]) rfl rfl rfl (by decide +kernel) rfl rfl ?_
  refine s_goto (p' := 22) rfl rfl ?_
  refine s_ildn (p' := 23) rfl rfl rfl ?_
  refine s_con (p' := 24) rfl rfl ?_
  refine s_icmp (p' := 27) false rfl (by decide +kernel) rfl ?_
  refine s_ildn (p' := 28) rfl rfl rfl ?_
  refine s_aldn (p' := 29) rfl rfl rfl ?_
  refine s_gf (p' := 32) rfl (rd_ss rfl (rd_sn rfl (rd_sn rfl (rd_sn rfl (rd_sn rfl (rd_sn rfl (rd_sn rfl (rd_sn rfl (rd_sn rfl H393))))))))) rfl rfl ?_
  refine s_ildn (p' := 33) rfl rfl rfl ?_
  refine s_ialz (p' := 34) (m := 0) (v := (nI 0)) rfl (rd_sn rfl (rd_ss rfl (rd_ss rfl (rd_ss rfl (rd_ss rfl (rd_ss rfl (rd_ss rfl (rd_ss rfl (rd_ss rfl H395))))))))) (by decide +kernel) rfl (by decide +kernel) rfl ?_
  refine s_con (p' := 35) rfl rfl ?_
  refine s_bz (p' := 36) (z := (nI 4294967295)) rfl rfl rfl (by decide +kernel) ?_
  refine s_bz (p' := 37) (z := (nI 0)) rfl rfl rfl (by decide +kernel) ?_
  refine s_con (p' := 38) rfl rfl ?_
  refine s_ildn (p' := 39) rfl rfl rfl ?_
  refine s_bz (p' := 40) (z := (nI 4)) rfl rfl rfl (by decide +kernel) ?_
  refine s_bz (p' := 41) (z := (nI 0)) rfl rfl rfl (by decide +kernel) ?_
  refine s_if (p' := 55) true rfl (by decide +kernel) rfl ?_
  refine s_incz (p' := 58) (w := (nI 3)) (ls' := [_, _, _]) rfl rfl rfl (by decide +kernel) rfl rfl ?_
  refine s_goto (p' := 22) rfl rfl ?_
  refine s_ildn (p' := 23) rfl rfl rfl ?_
  refine s_con (p' := 24) rfl rfl ?_
  refine s_icmp (p' := 61) true rfl (by decide +kernel) rfl ?_
  refine s_con (p' := 62) rfl rfl ?_
  refine s_istn (p' := 63) (ls' := [_, _, _]) rfl rfl rfl rfl ?_
  refine s_ildn (p' := 64) rfl rfl rfl ?_
  refine s_con (p' := 65) rfl rfl ?_
  refine s_icmp (p' := 68) false rfl (by decide +kernel) rfl ?_
  refine s_aldn (p' := 69) rfl rfl rfl ?_
  refine s_gf (p' := 72) rfl (rd_ss rfl (rd_sn rfl (rd_sn rfl (rd_sn rfl (rd_sn rfl (rd_sn rfl (rd_sn rfl (rd_sn rfl (rd_sn rfl H393))))))))) rfl rfl ?_
  refine s_ildn (p' := 73) rfl rfl rfl ?_
  refine s_ialz (p' := 74) (m := 0) (v := (nI 0)) rfl (rd_sn rfl (rd_ss rfl (rd_ss rfl (rd_ss rfl (rd_ss rfl (rd_ss rfl (rd_ss rfl (rd_ss rfl (rd_ss rfl H395))))))))) (by decide +kernel) rfl (by decide +kernel) rfl ?_
  refine s_ildn (p' := 75) rfl rfl rfl ?_
  refine s_con (p' := 76) rfl rfl ?_
  refine s_bz (p' := 77) (z := (nI 4294967295)) rfl rfl rfl (by decide +kernel) ?_
  refine s_bz (p' := 78) (z := (nI 0)) rfl rfl rfl (by decide +kernel) ?_
  refine s_con (p' := 79) rfl rfl ?_
  refine s_ildn (p' := 80) rfl rfl rfl ?_
  refine s_bz (p' := 81) (z := (nI 1)) rfl rfl rfl (by decide +kernel) ?_
  refine s_bz (p' := 82) (z := (nI 0)) rfl rfl rfl (by decide +kernel) ?_
  refine s_if (p' := 91) true rfl (by decide +kernel) rfl ?_
  refine s_incz (p' := 94) (w := (nI 1)) (ls' := [_, _, _]) rfl rfl rfl (by decide +kernel) rfl rfl ?_
  refine s_goto (p' := 63) rfl rfl ?_
  refine s_ildn (p' := 64) rfl rfl rfl ?_
  refine s_con (p' := 65) rfl rfl ?_
  refine s_icmp (p' := 68) false rfl (by decide +kernel) rfl ?_
  refine s_aldn (p' := 69) rfl rfl rfl ?_
  refine s_gf (p' := 72) rfl (rd_ss rfl (rd_sn rfl (rd_sn rfl (rd_sn rfl (rd_sn rfl (rd_sn rfl (rd_sn rfl (rd_sn rfl (rd_sn rfl H393))))))))) rfl rfl ?_
  refine s_ildn (p' := 73) rfl rfl rfl ?_
  refine s_ialz (p' := 74) (m := 0) (v := (nI 0)) rfl (rd_sn rfl (rd_ss rfl (rd_ss rfl (rd_ss rfl (rd_ss rfl (rd_ss rfl (rd_ss rfl (rd_ss rfl (rd_ss rfl H395))))))))) (by decide +kernel) rfl (by decide +kernel) rfl ?_
  refine s_ildn (p' := 75) rfl rfl rfl ?_
  refine s_con (p' := 76) rfl rfl ?_
  refine s_bz (p' := 77) (z := (nI 4294967295)) rfl rfl rfl (by decide +kernel) ?_
  refine s_bz (p' := 78) (z := (nI 0)) rfl rfl rfl (by decide +kernel) ?_
  refine s_con (p' := 79) rfl rfl ?_
  refine s_ildn (p' := 80) rfl rfl rfl ?_
  refine s_bz (p' := 81) (z := (nI 2)) rfl rfl rfl (by decide +kernel) ?_
  refine s_bz (p' := 82) (z := (nI 0)) rfl rfl rfl (by decide +kernel) ?_
  refine s_if (p' := 91) true rfl (by decide +kernel) rfl ?_
  refine s_incz (p' := 94) (w := (nI 2)) (ls' := [_, _, _]) rfl rfl rfl (by decide +kernel) rfl rfl ?_
  refine s_goto (p' := 63) rfl rfl ?_
  refine s_ildn (p' := 64) rfl rfl rfl ?_
  refine s_con (p' := 65) rfl rfl ?_
  refine s_icmp (p' := 68) false rfl (by decide +kernel) rfl ?_
  refine s_aldn (p' := 69) rfl rfl rfl ?_
  refine s_gf (p' := 72) rfl (rd_ss rfl (rd_sn rfl (rd_sn rfl (rd_sn rfl (rd_sn rfl (rd_sn rfl (rd_sn rfl (rd_sn rfl (rd_sn rfl H393))))))))) rfl rfl ?_
  refine s_ildn (p' := 73) rfl rfl rfl ?_
  refine s_ialz (p' := 74) (m := 0) (v := (nI 0)) rfl (rd_sn rfl (rd_ss rfl (rd_ss rfl (rd_ss rfl (rd_ss rfl (rd_ss rfl (rd_ss rfl (rd_ss rfl (rd_ss rfl H395))))))))) (by decide +kernel) rfl (by decide +kernel) rfl ?_
  refine s_ildn (p' := 75) rfl rfl rfl ?_
  refine s_con (p' := 76) rfl rfl ?_
  refine s_bz (p' := 77) (z := (nI 4294967295)) rfl rfl rfl (by decide +kernel) ?_
  refine s_bz (p' := 78) (z := (nI 0)) rfl rfl rfl (by decide +kernel) ?_
  refine s_con (p' := 79) rfl rfl ?_
  refine s_ildn (p' := 80) rfl rfl rfl ?_
  refine s_bz (p' := 81) (z := (nI 4)) rfl rfl rfl (by decide +kernel) ?_
  refine s_bz (p' := 82) (z := (nI 0)) rfl rfl rfl (by decide +kernel) ?_
  refine s_if (p' := 91) true rfl (by decide +kernel) rfl ?_
  refine s_incz (p' := 94) (w := (nI 3)) (ls' := [_, _, _]) rfl rfl rfl (by decide +kernel) rfl rfl ?_
  refine s_goto (p' := 63) rfl rfl ?_
  refine s_ildn (p' := 64) rfl rfl rfl ?_
  refine s_con (p' := 65) rfl rfl ?_
  refine s_icmp (p' := 97) true rfl (by decide +kernel) rfl ?_
  refine s_incz (p' := 100) (w := (nI 1)) (ls' := [_, _, _]) rfl rfl rfl (by decide +kernel) rfl rfl ?_
  refine s_goto (p' := 11) rfl rfl ?_
  refine s_ildn (p' := 12) rfl rfl rfl ?_
  refine s_aldn (p' := 13) rfl rfl rfl ?_
  refine s_gf (p' := 16) rfl (rd_ss rfl (rd_sn rfl (rd_sn rfl (rd_sn rfl (rd_sn rfl (rd_sn rfl (rd_sn rfl (rd_sn rfl (rd_sn rfl H393))))))))) rfl rfl ?_
  refine s_lenz (p' := 17) rfl (mj_rdA_is (rd_sn rfl (rd_ss rfl (rd_ss rfl (rd_ss rfl (rd_ss rfl (rd_ss rfl (rd_ss rfl (rd_ss rfl (rd_ss rfl H395))))))))) (by decide)) rfl rfl ?_
  refine s_icmp (p' := 20) false rfl (by decide +kernel) rfl ?_
  refine s_con (p' := 21) rfl rfl ?_
  refine s_istn (p' := 22) (ls' := [_, _, _]) rfl rfl rfl rfl ?_
  refine s_ildn (p' := 23) rfl rfl rfl ?_
  refine s_con (p' := 24) rfl rfl ?_
  refine s_icmp (p' := 27) false rfl (by decide +kernel) rfl ?_
  refine s_ildn (p' := 28) rfl rfl rfl ?_
  refine s_aldn (p' := 29) rfl rfl rfl ?_
  refine s_gf (p' := 32) rfl (rd_ss rfl (rd_sn rfl (rd_sn rfl (rd_sn rfl (rd_sn rfl (rd_sn rfl (rd_sn rfl (rd_sn rfl (rd_sn rfl H393))))))))) rfl rfl ?_
  refine s_ildn (p' := 33) rfl rfl rfl ?_
  refine s_ialz (p' := 34) (m := 1) (v := (nI 1)) rfl (rd_sn rfl (rd_ss rfl (rd_ss rfl (rd_ss rfl (rd_ss rfl (rd_ss rfl (rd_ss rfl (rd_ss rfl (rd_ss rfl H395))))))))) (by decide +kernel) rfl (by decide +kernel) rfl ?_
  refine s_con (p' := 35) rfl rfl ?_
  refine s_bz (p' := 36) (z := (nI 4294967294)) rfl rfl rfl (by decide +kernel) ?_
  refine s_bz (p' := 37) (z := (nI 0)) rfl rfl rfl (by decide +kernel) ?_
  refine s_con (p' := 38) rfl rfl ?_
  refine s_ildn (p' := 39) rfl rfl rfl ?_
  refine s_bz (p' := 40) (z := (nI 1)) rfl rfl rfl (by decide +kernel) ?_
  refine s_bz (p' := 41) (z := (nI 0)) rfl rfl rfl (by decide +kernel) ?_
  refine s_if (p' := 55) true rfl (by decide +kernel) rfl ?_
  refine s_incz (p' := 58) (w := (nI 1)) (ls' := [_, _, _]) rfl rfl rfl (by decide +kernel) rfl rfl ?_
  refine s_goto (p' := 22) rfl rfl ?_
  refine s_ildn (p' := 23) rfl rfl rfl ?_
  refine s_con (p' := 24) rfl rfl ?_
  refine s_icmp (p' := 27) false rfl (by decide +kernel) rfl ?_
  refine s_ildn (p' := 28) rfl rfl rfl ?_
  refine s_aldn (p' := 29) rfl rfl rfl ?_
  refine s_gf (p' := 32) rfl (rd_ss rfl (rd_sn rfl (rd_sn rfl (rd_sn rfl (rd_sn rfl (rd_sn rfl (rd_sn rfl (rd_sn rfl (rd_sn rfl H393))))))))) rfl rfl ?_
  refine s_ildn (p' := 33) rfl rfl rfl ?_
  refine s_ialz (p' := 34) (m := 1) (v := (nI 1)) rfl (rd_sn rfl (rd_ss rfl (rd_ss rfl (rd_ss rfl (rd_ss rfl (rd_ss rfl (rd_ss rfl (rd_ss rfl (rd_ss rfl H395))))))))) (by decide +kernel) rfl (by decide +kernel) rfl ?_
  refine s_con (p' := 35) rfl rfl ?_
  refine s_bz (p' := 36) (z := (nI 4294967294)) rfl rfl rfl (by decide +kernel) ?_
  refine s_bz (p' := 37) (z := (nI 0)) rfl rfl rfl (by decide +kernel) ?_
  refine s_con (p' := 38) rfl rfl ?_
  refine s_ildn (p' := 39) rfl rfl rfl ?_
  refine s_bz (p' := 40) (z := (nI 2)) rfl rfl rfl (by decide +kernel) ?_
  refine s_bz (p' := 41) (z := (nI 0)) rfl rfl rfl (by decide +kernel) ?_
  refine s_if (p' := 55) true rfl (by decide +kernel) rfl ?_
  refine s_incz (p' := 58) (w := (nI 2)) (ls' := [_, _, _]) rfl rfl rfl (by decide +kernel) rfl rfl ?_
  refine s_goto (p' := 22) rfl rfl ?_
  refine s_ildn (p' := 23) rfl rfl rfl ?_
  refine s_con (p' := 24) rfl rfl ?_
  refine s_icmp (p' := 27) false rfl (by decide +kernel) rfl ?_
  refine s_ildn (p' := 28) rfl rfl rfl ?_
  refine s_aldn (p' := 29) rfl rfl rfl ?_
  refine s_gf (p' := 32) rfl (rd_ss rfl (rd_sn rfl (rd_sn rfl (rd_sn rfl (rd_sn rfl (rd_sn rfl (rd_sn rfl (rd_sn rfl (rd_sn rfl H393))))))))) rfl rfl ?_
  refine s_ildn (p' := 33) rfl rfl rfl ?_
  refine s_ialz (p' := 34) (m := 1) (v := (nI 1)) rfl (rd_sn rfl (rd_ss rfl (rd_ss rfl (rd_ss rfl (rd_ss rfl (rd_ss rfl (rd_ss rfl (rd_ss rfl (rd_ss rfl H395))))))))) (by decide +kernel) rfl (by decide +kernel) rfl ?_
  refine s_con (p' := 35) rfl rfl ?_
  refine s_bz (p' := 36) (z := (nI 4294967294)) rfl rfl rfl (by decide +kernel) ?_
  refine s_bz (p' := 37) (z := (nI 0)) rfl rfl rfl (by decide +kernel) ?_
  refine s_con (p' := 38) rfl rfl ?_
  refine s_ildn (p' := 39) rfl rfl rfl ?_
  refine s_bz (p' := 40) (z := (nI 4)) rfl rfl rfl (by decide +kernel) ?_
  refine s_bz (p' := 41) (z := (nI 0)) rfl rfl rfl (by decide +kernel) ?_
  refine s_if (p' := 55) true rfl (by decide +kernel) rfl ?_
  refine s_incz (p' := 58) (w := (nI 3)) (ls' := [_, _, _]) rfl rfl rfl (by decide +kernel) rfl rfl ?_
  refine s_goto (p' := 22) rfl rfl ?_
  refine s_ildn (p' := 23) rfl rfl rfl ?_
  refine s_con (p' := 24) rfl rfl ?_
  refine s_icmp (p' := 61) true rfl (by decide +kernel) rfl ?_
  refine s_con (p' := 62) rfl rfl ?_
  refine s_istn (p' := 63) (ls' := [_, _, _]) rfl rfl rfl rfl ?_
  refine s_ildn (p' := 64) rfl rfl rfl ?_
  refine s_con (p' := 65) rfl rfl ?_
  refine s_icmp (p' := 68) false rfl (by decide +kernel) rfl ?_
  refine s_aldn (p' := 69) rfl rfl rfl ?_
  refine s_gf (p' := 72) rfl (rd_ss rfl (rd_sn rfl (rd_sn rfl (rd_sn rfl (rd_sn rfl (rd_sn rfl (rd_sn rfl (rd_sn rfl (rd_sn rfl H393))))))))) rfl rfl ?_
  refine s_ildn (p' := 73) rfl rfl rfl ?_
  refine s_ialz (p' := 74) (m := 1) (v := (nI 1)) rfl (rd_sn rfl (rd_ss rfl (rd_ss rfl (rd_ss rfl (rd_ss rfl (rd_ss rfl (rd_ss rfl (rd_ss rfl (rd_ss rfl H395))))))))) (by decide +kernel) rfl (by decide +kernel) rfl ?_
  refine s_ildn (p' := 75) rfl rfl rfl ?_
  refine s_con (p' := 76) rfl rfl ?_
  refine s_bz (p' := 77) (z := (nI 4294967294)) rfl rfl rfl (by decide +kernel) ?_
  refine s_bz (p' := 78) (z := (nI 0)) rfl rfl rfl (by decide +kernel) ?_
  refine s_con (p' := 79) rfl rfl ?_
  refine s_ildn (p' := 80) rfl rfl rfl ?_
  refine s_bz (p' := 81) (z := (nI 1)) rfl rfl rfl (by decide +kernel) ?_
  refine s_bz (p' := 82) (z := (nI 0)) rfl rfl rfl (by decide +kernel) ?_
  refine s_if (p' := 91) true rfl (by decide +kernel) rfl ?_
  refine s_incz (p' := 94) (w := (nI 1)) (ls' := [_, _, _]) rfl rfl rfl (by decide +kernel) rfl rfl ?_
  refine s_goto (p' := 63) rfl rfl ?_
  refine s_ildn (p' := 64) rfl rfl rfl ?_
  refine s_con (p' := 65) rfl rfl ?_
  refine s_icmp (p' := 68) false rfl (by decide +kernel) rfl ?_
  refine s_aldn (p' := 69) rfl rfl rfl ?_
  refine s_gf (p' := 72) rfl (rd_ss rfl (rd_sn rfl (rd_sn rfl (rd_sn rfl (rd_sn rfl (rd_sn rfl (rd_sn rfl (rd_sn rfl (rd_sn rfl H393))))))))) rfl rfl ?_
  refine s_ildn (p' := 73) rfl rfl rfl ?_
  refine s_ialz (p' := 74) (m := 1) (v := (nI 1)) rfl (rd_sn rfl (rd_ss rfl (rd_ss rfl (rd_ss rfl (rd_ss rfl (rd_ss rfl (rd_ss rfl (rd_ss rfl (rd_ss rfl H395))))))))) (by decide +kernel) rfl (by decide +kernel) rfl ?_
  refine s_ildn (p' := 75) rfl rfl rfl ?_
  refine s_con (p' := 76) rfl rfl ?_
  refine s_bz (p' := 77) (z := (nI 4294967294)) rfl rfl rfl (by decide +kernel) ?_
  refine s_bz (p' := 78) (z := (nI 0)) rfl rfl rfl (by decide +kernel) ?_
  refine s_con (p' := 79) rfl rfl ?_
  refine s_ildn (p' := 80) rfl rfl rfl ?_
  refine s_bz (p' := 81) (z := (nI 2)) rfl rfl rfl (by decide +kernel) ?_
  refine s_bz (p' := 82) (z := (nI 0)) rfl rfl rfl (by decide +kernel) ?_
  refine s_if (p' := 91) true rfl (by decide +kernel) rfl ?_
  refine s_incz (p' := 94) (w := (nI 2)) (ls' := [_, _, _]) rfl rfl rfl (by decide +kernel) rfl rfl ?_
  refine s_goto (p' := 63) rfl rfl ?_
  refine s_ildn (p' := 64) rfl rfl rfl ?_
  refine s_con (p' := 65) rfl rfl ?_
  refine s_icmp (p' := 68) false rfl (by decide +kernel) rfl ?_
  refine s_aldn (p' := 69) rfl rfl rfl ?_
  refine s_gf (p' := 72) rfl (rd_ss rfl (rd_sn rfl (rd_sn rfl (rd_sn rfl (rd_sn rfl (rd_sn rfl (rd_sn rfl (rd_sn rfl (rd_sn rfl H393))))))))) rfl rfl ?_
  refine s_ildn (p' := 73) rfl rfl rfl ?_
  refine s_ialz (p' := 74) (m := 1) (v := (nI 1)) rfl (rd_sn rfl (rd_ss rfl (rd_ss rfl (rd_ss rfl (rd_ss rfl (rd_ss rfl (rd_ss rfl (rd_ss rfl (rd_ss rfl H395))))))))) (by decide +kernel) rfl (by decide +kernel) rfl ?_
  refine s_ildn (p' := 75) rfl rfl rfl ?_
  refine s_con (p' := 76) rfl rfl ?_
  refine s_bz (p' := 77) (z := (nI 4294967294)) rfl rfl rfl (by decide +kernel) ?_
  refine s_bz (p' := 78) (z := (nI 0)) rfl rfl rfl (by decide +kernel) ?_
  refine s_con (p' := 79) rfl rfl ?_
  refine s_ildn (p' := 80) rfl rfl rfl ?_
  refine s_bz (p' := 81) (z := (nI 4)) rfl rfl rfl (by decide +kernel) ?_
  refine s_bz (p' := 82) (z := (nI 0)) rfl rfl rfl (by decide +kernel) ?_
  refine s_if (p' := 91) true rfl (by decide +kernel) rfl ?_
  refine s_incz (p' := 94) (w := (nI 3)) (ls' := [_, _, _]) rfl rfl rfl (by decide +kernel) rfl rfl ?_
  refine s_goto (p' := 63) rfl rfl ?_
  refine s_ildn (p' := 64) rfl rfl rfl ?_
  refine s_con (p' := 65) rfl rfl ?_
  refine s_icmp (p' := 97) true rfl (by decide +kernel) rfl ?_
  refine s_incz (p' := 100) (w := (nI 2)) (ls' := [_, _, _]) rfl rfl rfl (by decide +kernel) rfl rfl ?_
  refine s_goto (p' := 11) rfl rfl ?_
  refine s_ildn (p' := 12) rfl rfl rfl ?_
  refine s_aldn (p' := 13) rfl rfl rfl ?_
  refine s_gf (p' := 16) rfl (rd_ss rfl (rd_sn rfl (rd_sn rfl (rd_sn rfl (rd_sn rfl (rd_sn rfl (rd_sn rfl (rd_sn rfl (rd_sn rfl H393))))))))) rfl rfl ?_
  refine s_lenz (p' := 17) rfl (mj_rdA_is (rd_sn rfl (rd_ss rfl (rd_ss rfl (rd_ss rfl (rd_ss rfl (rd_ss rfl (rd_ss rfl (rd_ss rfl (rd_ss rfl H395))))))))) (by decide)) rfl rfl ?_
  refine s_icmp (p' := 20) false rfl (by decide +kernel) rfl ?_
  refine s_con (p' := 21) rfl rfl ?_
  refine s_istn (p' := 22) (ls' := [_, _, _]) rfl rfl rfl rfl ?_
  refine s_ildn (p' := 23) rfl rfl rfl ?_
  refine s_con (p' := 24) rfl rfl ?_
  refine s_icmp (p' := 27) false rfl (by decide +kernel) rfl ?_
  refine s_ildn (p' := 28) rfl rfl rfl ?_
  refine s_aldn (p' := 29) rfl rfl rfl ?_
  refine s_gf (p' := 32) rfl (rd_ss rfl (rd_sn rfl (rd_sn rfl (rd_sn rfl (rd_sn rfl (rd_sn rfl (rd_sn rfl (rd_sn rfl (rd_sn rfl H393))))))))) rfl rfl ?_
  refine s_ildn (p' := 33) rfl rfl rfl ?_
  refine s_ialz (p' := 34) (m := 2) (v := (nI 2)) rfl (rd_sn rfl (rd_ss rfl (rd_ss rfl (rd_ss rfl (rd_ss rfl (rd_ss rfl (rd_ss rfl (rd_ss rfl (rd_ss rfl H395))))))))) (by decide +kernel) rfl (by decide +kernel) rfl ?_
  refine s_con (p' := 35) rfl rfl ?_
  refine s_bz (p' := 36) (z := (nI 4294967293)) rfl rfl rfl (by decide +kernel) ?_
  refine s_bz (p' := 37) (z := (nI 0)) rfl rfl rfl (by decide +kernel) ?_
  refine s_con (p' := 38) rfl rfl ?_
  refine s_ildn (p' := 39) rfl rfl rfl ?_
  refine s_bz (p' := 40) (z := (nI 1)) rfl rfl rfl (by decide +kernel) ?_
  refine s_bz (p' := 41) (z := (nI 0)) rfl rfl rfl (by decide +kernel) ?_
  refine s_if (p' := 55) true rfl (by decide +kernel) rfl ?_
  refine s_incz (p' := 58) (w := (nI 1)) (ls' := [_, _, _]) rfl rfl rfl (by decide +kernel) rfl rfl ?_
  refine s_goto (p' := 22) rfl rfl ?_
  refine s_ildn (p' := 23) rfl rfl rfl ?_
  refine s_con (p' := 24) rfl rfl ?_
  refine s_icmp (p' := 27) false rfl (by decide +kernel) rfl ?_
  refine s_ildn (p' := 28) rfl rfl rfl ?_
  refine s_aldn (p' := 29) rfl rfl rfl ?_
  refine s_gf (p' := 32) rfl (rd_ss rfl (rd_sn rfl (rd_sn rfl (rd_sn rfl (rd_sn rfl (rd_sn rfl (rd_sn rfl (rd_sn rfl (rd_sn rfl H393))))))))) rfl rfl ?_
  refine s_ildn (p' := 33) rfl rfl rfl ?_
  refine s_ialz (p' := 34) (m := 2) (v := (nI 2)) rfl (rd_sn rfl (rd_ss rfl (rd_ss rfl (rd_ss rfl (rd_ss rfl (rd_ss rfl (rd_ss rfl (rd_ss rfl (rd_ss rfl H395))))))))) (by decide +kernel) rfl (by decide +kernel) rfl ?_
  refine s_con (p' := 35) rfl rfl ?_
  refine s_bz (p' := 36) (z := (nI 4294967293)) rfl rfl rfl (by decide +kernel) ?_
  refine s_bz (p' := 37) (z := (nI 0)) rfl rfl rfl (by decide +kernel) ?_
  refine s_con (p' := 38) rfl rfl ?_
  refine s_ildn (p' := 39) rfl rfl rfl ?_
  refine s_bz (p' := 40) (z := (nI 2)) rfl rfl rfl (by decide +kernel) ?_
  refine s_bz (p' := 41) (z := (nI 0)) rfl rfl rfl (by decide +kernel) ?_
  refine s_if (p' := 55) true rfl (by decide +kernel) rfl ?_
  refine s_incz (p' := 58) (w := (nI 2)) (ls' := [_, _, _]) rfl rfl rfl (by decide +kernel) rfl rfl ?_
  refine s_goto (p' := 22) rfl rfl ?_
  refine s_ildn (p' := 23) rfl rfl rfl ?_
  refine s_con (p' := 24) rfl rfl ?_
  refine s_icmp (p' := 27) false rfl (by decide +kernel) rfl ?_
  refine s_ildn (p' := 28) rfl rfl rfl ?_
  refine s_aldn (p' := 29) rfl rfl rfl ?_
  refine s_gf (p' := 32) rfl (rd_ss rfl (rd_sn rfl (rd_sn rfl (rd_sn rfl (rd_sn rfl (rd_sn rfl (rd_sn rfl (rd_sn rfl (rd_sn rfl H393))))))))) rfl rfl ?_
  refine s_ildn (p' := 33) rfl rfl rfl ?_
  refine s_ialz (p' := 34) (m := 2) (v := (nI 2)) rfl (rd_sn rfl (rd_ss rfl (rd_ss rfl (rd_ss rfl (rd_ss rfl (rd_ss rfl (rd_ss rfl (rd_ss rfl (rd_ss rfl H395))))))))) (by decide +kernel) rfl (by decide +kernel) rfl ?_
  refine s_con (p' := 35) rfl rfl ?_
  refine s_bz (p' := 36) (z := (nI 4294967293)) rfl rfl rfl (by decide +kernel) ?_
  refine s_bz (p' := 37) (z := (nI 0)) rfl rfl rfl (by decide +kernel) ?_
  refine s_con (p' := 38) rfl rfl ?_
  refine s_ildn (p' := 39) rfl rfl rfl ?_
  refine s_bz (p' := 40) (z := (nI 4)) rfl rfl rfl (by decide +kernel) ?_
  refine s_bz (p' := 41) (z := (nI 0)) rfl rfl rfl (by decide +kernel) ?_
  refine s_if (p' := 55) true rfl (by decide +kernel) rfl ?_
  refine s_incz (p' := 58) (w := (nI 3)) (ls' := [_, _, _]) rfl rfl rfl (by decide +kernel) rfl rfl ?_
  refine s_goto (p' := 22) rfl rfl ?_
  refine s_ildn (p' := 23) rfl rfl rfl ?_
  refine s_con (p' := 24) rfl rfl ?_
  refine s_icmp (p' := 61) true rfl (by decide +kernel) rfl ?_
  refine s_con (p' := 62) rfl rfl ?_
  refine s_istn (p' := 63) (ls' := [_, _, _]) rfl rfl rfl rfl ?_
  refine s_ildn (p' := 64) rfl rfl rfl ?_
  refine s_con (p' := 65) rfl rfl ?_
  refine s_icmp (p' := 68) false rfl (by decide +kernel) rfl ?_
  refine s_aldn (p' := 69) rfl rfl rfl ?_
  refine s_gf (p' := 72) rfl (rd_ss rfl (rd_sn rfl (rd_sn rfl (rd_sn rfl (rd_sn rfl (rd_sn rfl (rd_sn rfl (rd_sn rfl (rd_sn rfl H393))))))))) rfl rfl ?_
  refine s_ildn (p' := 73) rfl rfl rfl ?_
  refine s_ialz (p' := 74) (m := 2) (v := (nI 2)) rfl (rd_sn rfl (rd_ss rfl (rd_ss rfl (rd_ss rfl (rd_ss rfl (rd_ss rfl (rd_ss rfl (rd_ss rfl (rd_ss rfl H395))))))))) (by decide +kernel) rfl (by decide +kernel) rfl ?_
  refine s_ildn (p' := 75) rfl rfl rfl ?_
  refine s_con (p' := 76) rfl rfl ?_
  refine s_bz (p' := 77) (z := (nI 4294967293)) rfl rfl rfl (by decide +kernel) ?_
  refine s_bz (p' := 78) (z := (nI 0)) rfl rfl rfl (by decide +kernel) ?_
  refine s_con (p' := 79) rfl rfl ?_
  refine s_ildn (p' := 80) rfl rfl rfl ?_
  refine s_bz (p' := 81) (z := (nI 1)) rfl rfl rfl (by decide +kernel) ?_
  refine s_bz (p' := 82) (z := (nI 0)) rfl rfl rfl (by decide +kernel) ?_
  refine s_if (p' := 91) true rfl (by decide +kernel) rfl ?_
  refine s_incz (p' := 94) (w := (nI 1)) (ls' := [_, _, _]) rfl rfl rfl (by decide +kernel) rfl rfl ?_
  refine s_goto (p' := 63) rfl rfl ?_
  refine s_ildn (p' := 64) rfl rfl rfl ?_
  refine s_con (p' := 65) rfl rfl ?_
  refine s_icmp (p' := 68) false rfl (by decide +kernel) rfl ?_
  refine s_aldn (p' := 69) rfl rfl rfl ?_
  refine s_gf (p' := 72) rfl (rd_ss rfl (rd_sn rfl (rd_sn rfl (rd_sn rfl (rd_sn rfl (rd_sn rfl (rd_sn rfl (rd_sn rfl (rd_sn rfl H393))))))))) rfl rfl ?_
  refine s_ildn (p' := 73) rfl rfl rfl ?_
  refine s_ialz (p' := 74) (m := 2) (v := (nI 2)) rfl (rd_sn rfl (rd_ss rfl (rd_ss rfl (rd_ss rfl (rd_ss rfl (rd_ss rfl (rd_ss rfl (rd_ss rfl (rd_ss rfl H395))))))))) (by decide +kernel) rfl (by decide +kernel) rfl ?_
  refine s_ildn (p' := 75) rfl rfl rfl ?_
  refine s_con (p' := 76) rfl rfl ?_
  refine s_bz (p' := 77) (z := (nI 4294967293)) rfl rfl rfl (by decide +kernel) ?_
  refine s_bz (p' := 78) (z := (nI 0)) rfl rfl rfl (by decide +kernel) ?_
  refine s_con (p' := 79) rfl rfl ?_
  refine s_ildn (p' := 80) rfl rfl rfl ?_
  refine s_bz (p' := 81) (z := (nI 2)) rfl rfl rfl (by decide +kernel) ?_
  refine s_bz (p' := 82) (z := (nI 0)) rfl rfl rfl (by decide +kernel) ?_
  refine s_if (p' := 91) true rfl (by decide +kernel) rfl ?_
  refine s_incz (p' := 94) (w := (nI 2)) (ls' := [_, _, _]) rfl rfl rfl (by decide +kernel) rfl rfl ?_
  refine s_goto (p' := 63) rfl rfl ?_
  refine s_ildn (p' := 64) rfl rfl rfl ?_
  refine s_con (p' := 65) rfl rfl ?_
  refine s_icmp (p' := 68) false rfl (by decide +kernel) rfl ?_
  refine s_aldn (p' := 69) rfl rfl rfl ?_
  refine s_gf (p' := 72) rfl (rd_ss rfl (rd_sn rfl (rd_sn rfl (rd_sn rfl (rd_sn rfl (rd_sn rfl (rd_sn rfl (rd_sn rfl (rd_sn rfl H393))))))))) rfl rfl ?_
  refine s_ildn (p' := 73) rfl rfl rfl ?_
  refine s_ialz (p' := 74) (m := 2) (v := (nI 2)) rfl (rd_sn rfl (rd_ss rfl (rd_ss rfl (rd_ss rfl (rd_ss rfl (rd_ss rfl (rd_ss rfl (rd_ss rfl (rd_ss rfl H395))))))))) (by decide +kernel) rfl (by decide +kernel) rfl ?_
  refine s_ildn (p' := 75) rfl rfl rfl ?_
  refine s_con (p' := 76) rfl rfl ?_
  refine s_bz (p' := 77) (z := (nI 4294967293)) rfl rfl rfl (by decide +kernel) ?_
  refine s_bz (p' := 78) (z := (nI 0)) rfl rfl rfl (by decide +kernel) ?_
  refine s_con (p' := 79) rfl rfl ?_
  refine s_ildn (p' := 80) rfl rfl rfl ?_
  refine s_bz (p' := 81) (z := (nI 4)) rfl rfl rfl (by decide +kernel) ?_
  refine s_bz (p' := 82) (z := (nI 0)) rfl rfl rfl (by decide +kernel) ?_
  refine s_if (p' := 91) true rfl (by decide +kernel) rfl ?_
  refine s_incz (p' := 94) (w := (nI 3)) (ls' := [_, _, _]) rfl rfl rfl (by decide +kernel) rfl rfl ?_
  refine s_goto (p' := 63) rfl rfl ?_
  refine s_ildn (p' := 64) rfl rfl rfl ?_
  refine s_con (p' := 65) rfl rfl ?_
  refine s_icmp (p' := 97) true rfl (by decide +kernel) rfl ?_
  refine s_incz (p' := 100) (w := (nI 3)) (ls' := [_, _, _]) rfl rfl rfl (by decide +kernel) rfl rfl ?_
  refine s_goto (p' := 11) rfl rfl ?_
  refine s_ildn (p' := 12) rfl rfl rfl ?_
  refine s_aldn (p' := 13) rfl rfl rfl ?_
  refine s_gf (p' := 16) rfl (rd_ss rfl (rd_sn rfl (rd_sn rfl (rd_sn rfl (rd_sn rfl (rd_sn rfl (rd_sn rfl (rd_sn rfl (rd_sn rfl H393))))))))) rfl rfl ?_
  refine s_lenz (p' := 17) rfl (mj_rdA_is (rd_sn rfl (rd_ss rfl (rd_ss rfl (rd_ss rfl (rd_ss rfl (rd_ss rfl (rd_ss rfl (rd_ss rfl (rd_ss rfl H395))))))))) (by decide)) rfl rfl ?_
  refine s_icmp (p' := 20) false rfl (by decide +kernel) rfl ?_
  refine s_con (p' := 21) rfl rfl ?_
  refine s_istn (p' := 22) (ls' := [_, _, _]) rfl rfl rfl rfl ?_
  refine s_ildn (p' := 23) rfl rfl rfl ?_
  refine s_con (p' := 24) rfl rfl ?_
  refine s_icmp (p' := 27) false rfl (by decide +kernel) rfl ?_
  refine s_ildn (p' := 28) rfl rfl rfl ?_
  refine s_aldn (p' := 29) rfl rfl rfl ?_
  refine s_gf (p' := 32) rfl (rd_ss rfl (rd_sn rfl (rd_sn rfl (rd_sn rfl (rd_sn rfl (rd_sn rfl (rd_sn rfl (rd_sn rfl (rd_sn rfl H393))))))))) rfl rfl ?_
  refine s_ildn (p' := 33) rfl rfl rfl ?_
  refine s_ialz (p' := 34) (m := 3) (v := (nI 3)) rfl (rd_sn rfl (rd_ss rfl (rd_ss rfl (rd_ss rfl (rd_ss rfl (rd_ss rfl (rd_ss rfl (rd_ss rfl (rd_ss rfl H395))))))))) (by decide +kernel) rfl (by decide +kernel) rfl ?_
  refine s_con (p' := 35) rfl rfl ?_
  refine s_bz (p' := 36) (z := (nI 4294967292)) rfl rfl rfl (by decide +kernel) ?_
  refine s_bz (p' := 37) (z := (nI 0)) rfl rfl rfl (by decide +kernel) ?_
  refine s_con (p' := 38) rfl rfl ?_
  refine s_ildn (p' := 39) rfl rfl rfl ?_
  refine s_bz (p' := 40) (z := (nI 1)) rfl rfl rfl (by decide +kernel) ?_
  refine s_bz (p' := 41) (z := (nI 0)) rfl rfl rfl (by decide +kernel) ?_
  refine s_if (p' := 55) true rfl (by decide +kernel) rfl ?_
  refine s_incz (p' := 58) (w := (nI 1)) (ls' := [_, _, _]) rfl rfl rfl (by decide +kernel) rfl rfl ?_
  refine s_goto (p' := 22) rfl rfl ?_
  refine s_ildn (p' := 23) rfl rfl rfl ?_
  refine s_con (p' := 24) rfl rfl ?_
  refine s_icmp (p' := 27) false rfl (by decide +kernel) rfl ?_
  refine s_ildn (p' := 28) rfl rfl rfl ?_
  refine s_aldn (p' := 29) rfl rfl rfl ?_
  refine s_gf (p' := 32) rfl (rd_ss rfl (rd_sn rfl (rd_sn rfl (rd_sn rfl (rd_sn rfl (rd_sn rfl (rd_sn rfl (rd_sn rfl (rd_sn rfl H393))))))))) rfl rfl ?_
  refine s_ildn (p' := 33) rfl rfl rfl ?_
  refine s_ialz (p' := 34) (m := 3) (v := (nI 3)) rfl (rd_sn rfl (rd_ss rfl (rd_ss rfl (rd_ss rfl (rd_ss rfl (rd_ss rfl (rd_ss rfl (rd_ss rfl (rd_ss rfl H395))))))))) (by decide +kernel) rfl (by decide +kernel) rfl ?_
  refine s_con (p' := 35) rfl rfl ?_
  refine s_bz (p' := 36) (z := (nI 4294967292)) rfl rfl rfl (by decide +kernel) ?_
  refine s_bz (p' := 37) (z := (nI 0)) rfl rfl rfl (by decide +kernel) ?_
  refine s_con (p' := 38) rfl rfl ?_
  refine s_ildn (p' := 39) rfl rfl rfl ?_
  refine s_bz (p' := 40) (z := (nI 2)) rfl rfl rfl (by decide +kernel) ?_
  refine s_bz (p' := 41) (z := (nI 0)) rfl rfl rfl (by decide +kernel) ?_
  refine s_if (p' := 55) true rfl (by decide +kernel) rfl ?_
  refine s_incz (p' := 58) (w := (nI 2)) (ls' := [_, _, _]) rfl rfl rfl (by decide +kernel) rfl rfl ?_
  refine s_goto (p' := 22) rfl rfl ?_
  refine s_ildn (p' := 23) rfl rfl rfl ?_
  refine s_con (p' := 24) rfl rfl ?_
  refine s_icmp (p' := 27) false rfl (by decide +kernel) rfl ?_
  refine s_ildn (p' := 28) rfl rfl rfl ?_
  refine s_aldn (p' := 29) rfl rfl rfl ?_
  refine s_gf (p' := 32) rfl (rd_ss rfl (rd_sn rfl (rd_sn rfl (rd_sn rfl (rd_sn rfl (rd_sn rfl (rd_sn rfl (rd_sn rfl (rd_sn rfl H393))))))))) rfl rfl ?_
  refine s_ildn (p' := 33) rfl rfl rfl ?_
  refine s_ialz (p' := 34) (m := 3) (v := (nI 3)) rfl (rd_sn rfl (rd_ss rfl (rd_ss rfl (rd_ss rfl (rd_ss rfl (rd_ss rfl (rd_ss rfl (rd_ss rfl (rd_ss rfl H395))))))))) (by decide +kernel) rfl (by decide +kernel) rfl ?_
  refine s_con (p' := 35) rfl rfl ?_
  refine s_bz (p' := 36) (z := (nI 4294967292)) rfl rfl rfl (by decide +kernel) ?_
  refine s_bz (p' := 37) (z := (nI 0)) rfl rfl rfl (by decide +kernel) ?_
  refine s_con (p' := 38) rfl rfl ?_
  refine s_ildn (p' := 39) rfl rfl rfl ?_
  refine s_bz (p' := 40) (z := (nI 4)) rfl rfl rfl (by decide +kernel) ?_
  refine s_bz (p' := 41) (z := (nI 0)) rfl rfl rfl (by decide +kernel) ?_
  refine s_if (p' := 55) true rfl (by decide +kernel) rfl ?_
  refine s_incz (p' := 58) (w := (nI 3)) (ls' := [_, _, _]) rfl rfl rfl (by decide +kernel) rfl rfl ?_
  refine s_goto (p' := 22) rfl rfl ?_
  refine s_ildn (p' := 23) rfl rfl rfl ?_
  refine s_con (p' := 24) rfl rfl ?_
  refine s_icmp (p' := 61) true rfl (by decide +kernel) rfl ?_
  refine s_con (p' := 62) rfl rfl ?_
  refine s_istn (p' := 63) (ls' := [_, _, _]) rfl rfl rfl rfl ?_
  refine s_ildn (p' := 64) rfl rfl rfl ?_
  refine s_con (p' := 65) rfl rfl ?_
  refine s_icmp (p' := 68) false rfl (by decide +kernel) rfl ?_
  refine s_aldn (p' := 69) rfl rfl rfl ?_
  refine s_gf (p' := 72) rfl (rd_ss rfl (rd_sn rfl (rd_sn rfl (rd_sn rfl (rd_sn rfl (rd_sn rfl (rd_sn rfl (rd_sn rfl (rd_sn rfl H393))))))))) rfl rfl ?_
  refine s_ildn (p' := 73) rfl rfl rfl ?_
  refine s_ialz (p' := 74) (m := 3) (v := (nI 3)) rfl (rd_sn rfl (rd_ss rfl (rd_ss rfl (rd_ss rfl (rd_ss rfl (rd_ss rfl (rd_ss rfl (rd_ss rfl (rd_ss rfl H395))))))))) (by decide +kernel) rfl (by decide +kernel) rfl ?_
  refine s_ildn (p' := 75) rfl rfl rfl ?_
  refine s_con (p' := 76) rfl rfl ?_
  refine s_bz (p' := 77) (z := (nI 4294967292)) rfl rfl rfl (by decide +kernel) ?_
  refine s_bz (p' := 78) (z := (nI 0)) rfl rfl rfl (by decide +kernel) ?_
  refine s_con (p' := 79) rfl rfl ?_
  refine s_ildn (p' := 80) rfl rfl rfl ?_
  refine s_bz (p' := 81) (z := (nI 1)) rfl rfl rfl (by decide +kernel) ?_
  refine s_bz (p' := 82) (z := (nI 0)) rfl rfl rfl (by decide +kernel) ?_
  refine s_if (p' := 91) true rfl (by decide +kernel) rfl ?_
  refine s_incz (p' := 94) (w := (nI 1)) (ls' := [_, _, _]) rfl rfl rfl (by decide +kernel) rfl rfl ?_
  refine s_goto (p' := 63) rfl rfl ?_
  refine s_ildn (p' := 64) rfl rfl rfl ?_
  refine s_con (p' := 65) rfl rfl ?_
  refine s_icmp (p' := 68) false rfl (by decide +kernel) rfl ?_
  refine s_aldn (p' := 69) rfl rfl rfl ?_
  refine s_gf (p' := 72) rfl (rd_ss rfl (rd_sn rfl (rd_sn rfl (rd_sn rfl (rd_sn rfl (rd_sn rfl (rd_sn rfl (rd_sn rfl (rd_sn rfl H393))))))))) rfl rfl ?_
  refine s_ildn (p' := 73) rfl rfl rfl ?_
  refine s_ialz (p' := 74) (m := 3) (v := (nI 3)) rfl (rd_sn rfl (rd_ss rfl (rd_ss rfl (rd_ss rfl (rd_ss rfl (rd_ss rfl (rd_ss rfl (rd_ss rfl (rd_ss rfl H395))))))))) (by decide +kernel) rfl (by decide +kernel) rfl ?_
  refine s_ildn (p' := 75) rfl rfl rfl ?_
  refine s_con (p' := 76) rfl rfl ?_
  refine s_bz (p' := 77) (z := (nI 4294967292)) rfl rfl rfl (by decide +kernel) ?_
  refine s_bz (p' := 78) (z := (nI 0)) rfl rfl rfl (by decide +kernel) ?_
  refine s_con (p' := 79) rfl rfl ?_
  refine s_ildn (p' := 80) rfl rfl rfl ?_
  refine s_bz (p' := 81) (z := (nI 2)) rfl rfl rfl (by decide +kernel) ?_
  refine s_bz (p' := 82) (z := (nI 0)) rfl rfl rfl (by decide +kernel) ?_
  refine s_if (p' := 91) true rfl (by decide +kernel) rfl ?_
  refine s_incz (p' := 94) (w := (nI 2)) (ls' := [_, _, _]) rfl rfl rfl (by decide +kernel) rfl rfl ?_
  refine s_goto (p' := 63) rfl rfl ?_
  refine s_ildn (p' := 64) rfl rfl rfl ?_
  refine s_con (p' := 65) rfl rfl ?_
  refine s_icmp (p' := 68) false rfl (by decide +kernel) rfl ?_
  refine s_aldn (p' := 69) rfl rfl rfl ?_
  refine s_gf (p' := 72) rfl (rd_ss rfl (rd_sn rfl (rd_sn rfl (rd_sn rfl (rd_sn rfl (rd_sn rfl (rd_sn rfl (rd_sn rfl (rd_sn rfl H393))))))))) rfl rfl ?_
  refine s_ildn (p' := 73) rfl rfl rfl ?_
  refine s_ialz (p' := 74) (m := 3) (v := (nI 3)) rfl (rd_sn rfl (rd_ss rfl (rd_ss rfl (rd_ss rfl (rd_ss rfl (rd_ss rfl (rd_ss rfl (rd_ss rfl (rd_ss rfl H395))))))))) (by decide +kernel) rfl (by decide +kernel) rfl ?_
  refine s_ildn (p' := 75) rfl rfl rfl ?_
  refine s_con (p' := 76) rfl rfl ?_
  refine s_bz (p' := 77) (z := (nI 4294967292)) rfl rfl rfl (by decide +kernel) ?_
  refine s_bz (p' := 78) (z := (nI 0)) rfl rfl rfl (by decide +kernel) ?_
  refine s_con (p' := 79) rfl rfl ?_
  refine s_ildn (p' := 80) rfl rfl rfl ?_
  refine s_bz (p' := 81) (z := (nI 4)) rfl rfl rfl (by decide +kernel) ?_
  refine s_bz (p' := 82) (z := (nI 0)) rfl rfl rfl (by decide +kernel) ?_
  refine s_if (p' := 91) true rfl (by decide +kernel) rfl ?_
  refine s_incz (p' := 94) (w := (nI 3)) (ls' := [_, _, _]) rfl rfl rfl (by decide +kernel) rfl rfl ?_
  refine s_goto (p' := 63) rfl rfl ?_
  refine s_ildn (p' := 64) rfl rfl rfl ?_
  refine s_con (p' := 65) rfl rfl ?_
  refine s_icmp (p' := 97) true rfl (by decide +kernel) rfl ?_
  refine s_incz (p' := 100) (w := (nI 4)) (ls' := [_, _, _]) rfl rfl rfl (by decide +kernel) rfl rfl ?_
  refine s_goto (p' := 11) rfl rfl ?_
  refine s_ildn (p' := 12) rfl rfl rfl ?_
  refine s_aldn (p' := 13) rfl rfl rfl ?_
  refine s_gf (p' := 16) rfl (rd_ss rfl (rd_sn rfl (rd_sn rfl (rd_sn rfl (rd_sn rfl (rd_sn rfl (rd_sn rfl (rd_sn rfl (rd_sn rfl H393))))))))) rfl rfl ?_
  refine s_lenz (p' := 17) rfl (mj_rdA_is (rd_sn rfl (rd_ss rfl (rd_ss rfl (rd_ss rfl (rd_ss rfl (rd_ss rfl (rd_ss rfl (rd_ss rfl (rd_ss rfl H395))))))))) (by decide)) rfl rfl ?_
  refine s_icmp (p' := 20) false rfl (by decide +kernel) rfl ?_
  refine s_con (p' := 21) rfl rfl ?_
  refine s_istn (p' := 22) (ls' := [_, _, _]) rfl rfl rfl rfl ?_
  refine s_ildn (p' := 23) rfl rfl rfl ?_
  refine s_con (p' := 24) rfl rfl ?_
  refine s_icmp (p' := 27) false rfl (by decide +kernel) rfl ?_
  refine s_ildn (p' := 28) rfl rfl rfl ?_
  refine s_aldn (p' := 29) rfl rfl rfl ?_
  refine s_gf (p' := 32) rfl (rd_ss rfl (rd_sn rfl (rd_sn rfl (rd_sn rfl (rd_sn rfl (rd_sn rfl (rd_sn rfl (rd_sn rfl (rd_sn rfl H393))))))))) rfl rfl ?_
  refine s_ildn (p' := 33) rfl rfl rfl ?_
  refine s_ialz (p' := 34) (m := 4) (v := (nI 4)) rfl (rd_sn rfl (rd_ss rfl (rd_ss rfl (rd_ss rfl (rd_ss rfl (rd_ss rfl (rd_ss rfl (rd_ss rfl (rd_ss rfl H395))))))))) (by decide +kernel) rfl (by decide +kernel) rfl ?_
  refine s_con (p' := 35) rfl rfl ?_
  refine s_bz (p' := 36) (z := (nI 4294967291)) rfl rfl rfl (by decide +kernel) ?_
  refine s_bz (p' := 37) (z := (nI 0)) rfl rfl rfl (by decide +kernel) ?_
  refine s_con (p' := 38) rfl rfl ?_
  refine s_ildn (p' := 39) rfl rfl rfl ?_
  refine s_bz (p' := 40) (z := (nI 1)) rfl rfl rfl (by decide +kernel) ?_
  refine s_bz (p' := 41) (z := (nI 0)) rfl rfl rfl (by decide +kernel) ?_
  refine s_if (p' := 55) true rfl (by decide +kernel) rfl ?_
  refine s_incz (p' := 58) (w := (nI 1)) (ls' := [_, _, _]) rfl rfl rfl (by decide +kernel) rfl rfl ?_
  refine s_goto (p' := 22) rfl rfl ?_
  refine s_ildn (p' := 23) rfl rfl rfl ?_
  refine s_con (p' := 24) rfl rfl ?_
  refine s_icmp (p' := 27) false rfl (by decide +kernel) rfl ?_
  refine s_ildn (p' := 28) rfl rfl rfl ?_
  refine s_aldn (p' := 29) rfl rfl rfl ?_
  refine s_gf (p' := 32) rfl (rd_ss rfl (rd_sn rfl (rd_sn rfl (rd_sn rfl (rd_sn rfl (rd_sn rfl (rd_sn rfl (rd_sn rfl (rd_sn rfl H393))))))))) rfl rfl ?_
  refine s_ildn (p' := 33) rfl rfl rfl ?_
  refine s_ialz (p' := 34) (m := 4) (v := (nI 4)) rfl (rd_sn rfl (rd_ss rfl (rd_ss rfl (rd_ss rfl (rd_ss rfl (rd_ss rfl (rd_ss rfl (rd_ss rfl (rd_ss rfl H395))))))))) (by decide +kernel) rfl (by decide +kernel) rfl ?_
  refine s_con (p' := 35) rfl rfl ?_
  refine s_bz (p' := 36) (z := (nI 4294967291)) rfl rfl rfl (by decide +kernel) ?_
  refine s_bz (p' := 37) (z := (nI 0)) rfl rfl rfl (by decide +kernel) ?_
  refine s_con (p' := 38) rfl rfl ?_
  refine s_ildn (p' := 39) rfl rfl rfl ?_
  refine s_bz (p' := 40) (z := (nI 2)) rfl rfl rfl (by decide +kernel) ?_
  refine s_bz (p' := 41) (z := (nI 0)) rfl rfl rfl (by decide +kernel) ?_
  refine s_if (p' := 55) true rfl (by decide +kernel) rfl ?_
  refine s_incz (p' := 58) (w := (nI 2)) (ls' := [_, _, _]) rfl rfl rfl (by decide +kernel) rfl rfl ?_
  refine s_goto (p' := 22) rfl rfl ?_
  refine s_ildn (p' := 23) rfl rfl rfl ?_
  refine s_con (p' := 24) rfl rfl ?_
  refine s_icmp (p' := 27) false rfl (by decide +kernel) rfl ?_
  refine s_ildn (p' := 28) rfl rfl rfl ?_
  refine s_aldn (p' := 29) rfl rfl rfl ?_
  refine s_gf (p' := 32) rfl (rd_ss rfl (rd_sn rfl (rd_sn rfl (rd_sn rfl (rd_sn rfl (rd_sn rfl (rd_sn rfl (rd_sn rfl (rd_sn rfl H393))))))))) rfl rfl ?_
  refine s_ildn (p' := 33) rfl rfl rfl ?_
  refine s_ialz (p' := 34) (m := 4) (v := (nI 4)) rfl (rd_sn rfl (rd_ss rfl (rd_ss rfl (rd_ss rfl (rd_ss rfl (rd_ss rfl (rd_ss rfl (rd_ss rfl (rd_ss rfl H395))))))))) (by decide +kernel) rfl (by decide +kernel) rfl ?_
  refine s_con (p' := 35) rfl rfl ?_
  refine s_bz (p' := 36) (z := (nI 4294967291)) rfl rfl rfl (by decide +kernel) ?_
  refine s_bz (p' := 37) (z := (nI 0)) rfl rfl rfl (by decide +kernel) ?_
  refine s_con (p' := 38) rfl rfl ?_
  refine s_ildn (p' := 39) rfl rfl rfl ?_
  refine s_bz (p' := 40) (z := (nI 4)) rfl rfl rfl (by decide +kernel) ?_
  refine s_bz (p' := 41) (z := (nI 0)) rfl rfl rfl (by decide +kernel) ?_
  refine s_if (p' := 55) true rfl (by decide +kernel) rfl ?_
  refine s_incz (p' := 58) (w := (nI 3)) (ls' := [_, _, _]) rfl rfl rfl (by decide +kernel) rfl rfl ?_
  refine s_goto (p' := 22) rfl rfl ?_
  refine s_ildn (p' := 23) rfl rfl rfl ?_
  refine s_con (p' := 24) rfl rfl ?_
  refine s_icmp (p' := 61) true rfl (by decide +kernel) rfl ?_
  refine s_con (p' := 62) rfl rfl ?_
  refine s_istn (p' := 63) (ls' := [_, _, _]) rfl rfl rfl rfl ?_
  refine s_ildn (p' := 64) rfl rfl rfl ?_
  refine s_con (p' := 65) rfl rfl ?_
  refine s_icmp (p' := 68) false rfl (by decide +kernel) rfl ?_
  refine s_aldn (p' := 69) rfl rfl rfl ?_
  refine s_gf (p' := 72) rfl (rd_ss rfl (rd_sn rfl (rd_sn rfl (rd_sn rfl (rd_sn rfl (rd_sn rfl (rd_sn rfl (rd_sn rfl (rd_sn rfl H393))))))))) rfl rfl ?_
  refine s_ildn (p' := 73) rfl rfl rfl ?_
  refine s_ialz (p' := 74) (m := 4) (v := (nI 4)) rfl (rd_sn rfl (rd_ss rfl (rd_ss rfl (rd_ss rfl (rd_ss rfl (rd_ss rfl (rd_ss rfl (rd_ss rfl (rd_ss rfl H395))))))))) (by decide +kernel) rfl (by decide +kernel) rfl ?_
  refine s_ildn (p' := 75) rfl rfl rfl ?_
  refine s_con (p' := 76) rfl rfl ?_
  refine s_bz (p' := 77) (z := (nI 4294967291)) rfl rfl rfl (by decide +kernel) ?_
  refine s_bz (p' := 78) (z := (nI 0)) rfl rfl rfl (by decide +kernel) ?_
  refine s_con (p' := 79) rfl rfl ?_
  refine s_ildn (p' := 80) rfl rfl rfl ?_
  refine s_bz (p' := 81) (z := (nI 1)) rfl rfl rfl (by decide +kernel) ?_
  refine s_bz (p' := 82) (z := (nI 0)) rfl rfl rfl (by decide +kernel) ?_
  refine s_if (p' := 91) true rfl (by decide +kernel) rfl ?_
  refine s_incz (p' := 94) (w := (nI 1)) (ls' := [_, _, _]) rfl rfl rfl (by decide +kernel) rfl rfl ?_
  refine s_goto (p' := 63) rfl rfl ?_
  refine s_ildn (p' := 64) rfl rfl rfl ?_
  refine s_con (p' := 65) rfl rfl ?_
  refine s_icmp (p' := 68) false rfl (by decide +kernel) rfl ?_
  refine s_aldn (p' := 69) rfl rfl rfl ?_
  refine s_gf (p' := 72) rfl (rd_ss rfl (rd_sn rfl (rd_sn rfl (rd_sn rfl (rd_sn rfl (rd_sn rfl (rd_sn rfl (rd_sn rfl (rd_sn rfl H393))))))))) rfl rfl ?_
  refine s_ildn (p' := 73) rfl rfl rfl ?_
  refine s_ialz (p' := 74) (m := 4) (v := (nI 4)) rfl (rd_sn rfl (rd_ss rfl (rd_ss rfl (rd_ss rfl (rd_ss rfl (rd_ss rfl (rd_ss rfl (rd_ss rfl (rd_ss rfl H395))))))))) (by decide +kernel) rfl (by decide +kernel) rfl ?_
  refine s_ildn (p' := 75) rfl rfl rfl ?_
  refine s_con (p' := 76) rfl rfl ?_
  refine s_bz (p' := 77) (z := (nI 4294967291)) rfl rfl rfl (by decide +kernel) ?_
  refine s_bz (p' := 78) (z := (nI 0)) rfl rfl rfl (by decide +kernel) ?_
  refine s_con (p' := 79) rfl rfl ?_
  refine s_ildn (p' := 80) rfl rfl rfl ?_
  refine s_bz (p' := 81) (z := (nI 2)) rfl rfl rfl (by decide +kernel) ?_
  refine s_bz (p' := 82) (z := (nI 0)) rfl rfl rfl (by decide +kernel) ?_
  refine s_if (p' := 91) true rfl (by decide +kernel) rfl ?_
  refine s_incz (p' := 94) (w := (nI 2)) (ls' := [_, _, _]) rfl rfl rfl (by decide +kernel) rfl rfl ?_
  refine s_goto (p' := 63) rfl rfl ?_
  refine s_ildn (p' := 64) rfl rfl rfl ?_
  refine s_con (p' := 65) rfl rfl ?_
  refine s_icmp (p' := 68) false rfl (by decide +kernel) rfl ?_
  refine s_aldn (p' := 69) rfl rfl rfl ?_
  refine s_gf (p' := 72) rfl (rd_ss rfl (rd_sn rfl (rd_sn rfl (rd_sn rfl (rd_sn rfl (rd_sn rfl (rd_sn rfl (rd_sn rfl (rd_sn rfl H393))))))))) rfl rfl ?_
  refine s_ildn (p' := 73) rfl rfl rfl ?_
  refine s_ialz (p' := 74) (m := 4) (v := (nI 4)) rfl (rd_sn rfl (rd_ss rfl (rd_ss rfl (rd_ss rfl (rd_ss rfl (rd_ss rfl (rd_ss rfl (rd_ss rfl (rd_ss rfl H395))))))))) (by decide +kernel) rfl (by decide +kernel) rfl ?_
  refine s_ildn (p' := 75) rfl rfl rfl ?_
  refine s_con (p' := 76) rfl rfl ?_
  refine s_bz (p' := 77) (z := (nI 4294967291)) rfl rfl rfl (by decide +kernel) ?_
  refine s_bz (p' := 78) (z := (nI 0)) rfl rfl rfl (by decide +kernel) ?_
  refine s_con (p' := 79) rfl rfl ?_
  refine s_ildn (p' := 80) rfl rfl rfl ?_
  refine s_bz (p' := 81) (z := (nI 4)) rfl rfl rfl (by decide +kernel) ?_
  refine s_bz (p' := 82) (z := (nI 0)) rfl rfl rfl (by decide +kernel) ?_
  refine s_if (p' := 91) true rfl (by decide +kernel) rfl ?_
  refine s_incz (p' := 94) (w := (nI 3)) (ls' := [_, _, _]) rfl rfl rfl (by decide +kernel) rfl rfl ?_
  refine s_goto (p' := 63) rfl rfl ?_
  refine s_ildn (p' := 64) rfl rfl rfl ?_
  refine s_con (p' := 65) rfl rfl ?_
  refine s_icmp (p' := 97) true rfl (by decide +kernel) rfl ?_
  refine s_incz (p' := 100) (w := (nI 5)) (ls' := [_, _, _]) rfl rfl rfl (by decide +kernel) rfl rfl ?_
  refine s_goto (p' := 11) rfl rfl ?_
  refine s_ildn (p' := 12) rfl rfl rfl ?_
  refine s_aldn (p' := 13) rfl rfl rfl ?_
  refine s_gf (p' := 16) rfl (rd_ss rfl (rd_sn rfl (rd_sn rfl (rd_sn rfl (rd_sn rfl (rd_sn rfl (rd_sn rfl (rd_sn rfl (rd_sn rfl H393))))))))) rfl rfl ?_
  refine s_lenz (p' := 17) rfl (mj_rdA_is (rd_sn rfl (rd_ss rfl (rd_ss rfl (rd_ss rfl (rd_ss rfl (rd_ss rfl (rd_ss rfl (rd_ss rfl (rd_ss rfl H395))))))))) (by decide)) rfl rfl ?_
  refine s_icmp (p' := 20) false rfl (by decide +kernel) rfl ?_
  refine s_con (p' := 21) rfl rfl ?_
  refine s_istn (p' := 22) (ls' := [_, _, _]) rfl rfl rfl rfl ?_
  refine s_ildn (p' := 23) rfl rfl rfl ?_
  refine s_con (p' := 24) rfl rfl ?_
  refine s_icmp (p' := 27) false rfl (by decide +kernel) rfl ?_
  refine s_ildn (p' := 28) rfl rfl rfl ?_
  refine s_aldn (p' := 29) rfl rfl rfl ?_
  refine s_gf (p' := 32) rfl (rd_ss rfl (rd_sn rfl (rd_sn rfl (rd_sn rfl (rd_sn rfl (rd_sn rfl (rd_sn rfl (rd_sn rfl (rd_sn rfl H393))))))))) rfl rfl ?_
  refine s_ildn (p' := 33) rfl rfl rfl ?_
  refine s_ialz (p' := 34) (m := 5) (v := (nI 5)) rfl (rd_sn rfl (rd_ss rfl (rd_ss rfl (rd_ss rfl (rd_ss rfl (rd_ss rfl (rd_ss rfl (rd_ss rfl (rd_ss rfl H395))))))))) (by decide +kernel) rfl (by decide +kernel) rfl ?_
  refine s_con (p' := 35) rfl rfl ?_
  refine s_bz (p' := 36) (z := (nI 4294967290)) rfl rfl rfl (by decide +kernel) ?_
  refine s_bz (p' := 37) (z := (nI 0)) rfl rfl rfl (by decide +kernel) ?_
  refine s_con (p' := 38) rfl rfl ?_
  refine s_ildn (p' := 39) rfl rfl rfl ?_
  refine s_bz (p' := 40) (z := (nI 1)) rfl rfl rfl (by decide +kernel) ?_
  refine s_bz (p' := 41) (z := (nI 0)) rfl rfl rfl (by decide +kernel) ?_
  refine s_if (p' := 55) true rfl (by decide +kernel) rfl ?_
  refine s_incz (p' := 58) (w := (nI 1)) (ls' := [_, _, _]) rfl rfl rfl (by decide +kernel) rfl rfl ?_
  refine s_goto (p' := 22) rfl rfl ?_
  refine s_ildn (p' := 23) rfl rfl rfl ?_
  refine s_con (p' := 24) rfl rfl ?_
  refine s_icmp (p' := 27) false rfl (by decide +kernel) rfl ?_
  refine s_ildn (p' := 28) rfl rfl rfl ?_
  refine s_aldn (p' := 29) rfl rfl rfl ?_
  refine s_gf (p' := 32) rfl (rd_ss rfl (rd_sn rfl (rd_sn rfl (rd_sn rfl (rd_sn rfl (rd_sn rfl (rd_sn rfl (rd_sn rfl (rd_sn rfl H393))))))))) rfl rfl ?_
  refine s_ildn (p' := 33) rfl rfl rfl ?_
  refine s_ialz (p' := 34) (m := 5) (v := (nI 5)) rfl (rd_sn rfl (rd_ss rfl (rd_ss rfl (rd_ss rfl (rd_ss rfl (rd_ss rfl (rd_ss rfl (rd_ss rfl (rd_ss rfl H395))))))))) (by decide +kernel) rfl (by decide +kernel) rfl ?_
  refine s_con (p' := 35) rfl rfl ?_
  refine s_bz (p' := 36) (z := (nI 4294967290)) rfl rfl rfl (by decide +kernel) ?_
  refine s_bz (p' := 37) (z := (nI 0)) rfl rfl rfl (by decide +kernel) ?_
  refine s_con (p' := 38) rfl rfl ?_
  refine s_ildn (p' := 39) rfl rfl rfl ?_
  refine s_bz (p' := 40) (z := (nI 2)) rfl rfl rfl (by decide +kernel) ?_
  refine s_bz (p' := 41) (z := (nI 0)) rfl rfl rfl (by decide +kernel) ?_
  refine s_if (p' := 55) true rfl (by decide +kernel) rfl ?_
  refine s_incz (p' := 58) (w := (nI 2)) (ls' := [_, _, _]) rfl rfl rfl (by decide +kernel) rfl rfl ?_
  refine s_goto (p' := 22) rfl rfl ?_
  refine s_ildn (p' := 23) rfl rfl rfl ?_
  refine s_con (p' := 24) rfl rfl ?_
  refine s_icmp (p' := 27) false rfl (by decide +kernel) rfl ?_
  refine s_ildn (p' := 28) rfl rfl rfl ?_
  refine s_aldn (p' := 29) rfl rfl rfl ?_
  refine s_gf (p' := 32) rfl (rd_ss rfl (rd_sn rfl (rd_sn rfl (rd_sn rfl (rd_sn rfl (rd_sn rfl (rd_sn rfl (rd_sn rfl (rd_sn rfl H393))))))))) rfl rfl ?_
  refine s_ildn (p' := 33) rfl rfl rfl ?_
  refine s_ialz (p' := 34) (m := 5) (v := (nI 5)) rfl (rd_sn rfl (rd_ss rfl (rd_ss rfl (rd_ss rfl (rd_ss rfl (rd_ss rfl (rd_ss rfl (rd_ss rfl (rd_ss rfl H395))))))))) (by decide +kernel) rfl (by decide +kernel) rfl ?_
  refine s_con (p' := 35) rfl rfl ?_
  refine s_bz (p' := 36) (z := (nI 4294967290)) rfl rfl rfl (by decide +kernel) ?_
  refine s_bz (p' := 37) (z := (nI 0)) rfl rfl rfl (by decide +kernel) ?_
  refine s_con (p' := 38) rfl rfl ?_
  refine s_ildn (p' := 39) rfl rfl rfl ?_
  refine s_bz (p' := 40) (z := (nI 4)) rfl rfl rfl (by decide +kernel) ?_
  refine s_bz (p' := 41) (z := (nI 0)) rfl rfl rfl (by decide +kernel) ?_
  refine s_if (p' := 55) true rfl (by decide +kernel) rfl ?_
  refine s_incz (p' := 58) (w := (nI 3)) (ls' := [_, _, _]) rfl rfl rfl (by decide +kernel) rfl rfl ?_
  refine s_goto (p' := 22) rfl rfl ?_
  refine s_ildn (p' := 23) rfl rfl rfl ?_
  refine s_con (p' := 24) rfl rfl ?_
  refine s_icmp (p' := 61) true rfl (by decide +kernel) rfl ?_
  refine s_con (p' := 62) rfl rfl ?_
  refine s_istn (p' := 63) (ls' := [_, _, _]) rfl rfl rfl rfl ?_
  refine s_ildn (p' := 64) rfl rfl rfl ?_
  refine s_con (p' := 65) rfl rfl ?_
  refine s_icmp (p' := 68) false rfl (by decide +kernel) rfl ?_
  refine s_aldn (p' := 69) rfl rfl rfl ?_
  refine s_gf (p' := 72) rfl (rd_ss rfl (rd_sn rfl (rd_sn rfl (rd_sn rfl (rd_sn rfl (rd_sn rfl (rd_sn rfl (rd_sn rfl (rd_sn rfl H393))))))))) rfl rfl ?_
  refine s_ildn (p' := 73) rfl rfl rfl ?_
  refine s_ialz (p' := 74) (m := 5) (v := (nI 5)) rfl (rd_sn rfl (rd_ss rfl (rd_ss rfl (rd_ss rfl (rd_ss rfl (rd_ss rfl (rd_ss rfl (rd_ss rfl (rd_ss rfl H395))))))))) (by decide +kernel) rfl (by decide +kernel) rfl ?_
  refine s_ildn (p' := 75) rfl rfl rfl ?_
  refine s_con (p' := 76) rfl rfl ?_
  refine s_bz (p' := 77) (z := (nI 4294967290)) rfl rfl rfl (by decide +kernel) ?_
  refine s_bz (p' := 78) (z := (nI 0)) rfl rfl rfl (by decide +kernel) ?_
  refine s_con (p' := 79) rfl rfl ?_
  refine s_ildn (p' := 80) rfl rfl rfl ?_
  refine s_bz (p' := 81) (z := (nI 1)) rfl rfl rfl (by decide +kernel) ?_
  refine s_bz (p' := 82) (z := (nI 0)) rfl rfl rfl (by decide +kernel) ?_
  refine s_if (p' := 91) true rfl (by decide +kernel) rfl ?_
  refine s_incz (p' := 94) (w := (nI 1)) (ls' := [_, _, _]) rfl rfl rfl (by decide +kernel) rfl rfl ?_
  refine s_goto (p' := 63) rfl rfl ?_
  refine s_ildn (p' := 64) rfl rfl rfl ?_
  refine s_con (p' := 65) rfl rfl ?_
  refine s_icmp (p' := 68) false rfl (by decide +kernel) rfl ?_
  refine s_aldn (p' := 69) rfl rfl rfl ?_
  refine s_gf (p' := 72) rfl (rd_ss rfl (rd_sn rfl (rd_sn rfl (rd_sn rfl (rd_sn rfl (rd_sn rfl (rd_sn rfl (rd_sn rfl (rd_sn rfl H393))))))))) rfl rfl ?_
  refine s_ildn (p' := 73) rfl rfl rfl ?_
  refine s_ialz (p' := 74) (m := 5) (v := (nI 5)) rfl (rd_sn rfl (rd_ss rfl (rd_ss rfl (rd_ss rfl (rd_ss rfl (rd_ss rfl (rd_ss rfl (rd_ss rfl (rd_ss rfl H395))))))))) (by decide +kernel) rfl (by decide +kernel) rfl ?_
  refine s_ildn (p' := 75) rfl rfl rfl ?_
  refine s_con (p' := 76) rfl rfl ?_
  refine s_bz (p' := 77) (z := (nI 4294967290)) rfl rfl rfl (by decide +kernel) ?_
  refine s_bz (p' := 78) (z := (nI 0)) rfl rfl rfl (by decide +kernel) ?_
  refine s_con (p' := 79) rfl rfl ?_
  refine s_ildn (p' := 80) rfl rfl rfl ?_
  refine s_bz (p' := 81) (z := (nI 2)) rfl rfl rfl (by decide +kernel) ?_
  refine s_bz (p' := 82) (z := (nI 0)) rfl rfl rfl (by decide +kernel) ?_
  refine s_if (p' := 91) true rfl (by decide +kernel) rfl ?_
  refine s_incz (p' := 94) (w := (nI 2)) (ls' := [_, _, _]) rfl rfl rfl (by decide +kernel) rfl rfl ?_
  refine s_goto (p' := 63) rfl rfl ?_
  refine s_ildn (p' := 64) rfl rfl rfl ?_
  refine s_con (p' := 65) rfl rfl ?_
  refine s_icmp (p' := 68) false rfl (by decide +kernel) rfl ?_
  refine s_aldn (p' := 69) rfl rfl rfl ?_
  refine s_gf (p' := 72) rfl (rd_ss rfl (rd_sn rfl (rd_sn rfl (rd_sn rfl (rd_sn rfl (rd_sn rfl (rd_sn rfl (rd_sn rfl (rd_sn rfl H393))))))))) rfl rfl ?_
  refine s_ildn (p' := 73) rfl rfl rfl ?_
  refine s_ialz (p' := 74) (m := 5) (v := (nI 5)) rfl (rd_sn rfl (rd_ss rfl (rd_ss rfl (rd_ss rfl (rd_ss rfl (rd_ss rfl (rd_ss rfl (rd_ss rfl (rd_ss rfl H395))))))))) (by decide +kernel) rfl (by decide +kernel) rfl ?_
  refine s_ildn (p' := 75) rfl rfl rfl ?_
  refine s_con (p' := 76) rfl rfl ?_
  refine s_bz (p' := 77) (z := (nI 4294967290)) rfl rfl rfl (by decide +kernel) ?_
  refine s_bz (p' := 78) (z := (nI 0)) rfl rfl rfl (by decide +kernel) ?_
  refine s_con (p' := 79) rfl rfl ?_
  refine s_ildn (p' := 80) rfl rfl rfl ?_
  refine s_bz (p' := 81) (z := (nI 4)) rfl rfl rfl (by decide +kernel) ?_
  refine s_bz (p' := 82) (z := (nI 0)) rfl rfl rfl (by decide +kernel) ?_
  refine s_if (p' := 91) true rfl (by decide +kernel) rfl ?_
  refine s_incz (p' := 94) (w := (nI 3)) (ls' := [_, _, _]) rfl rfl rfl (by decide +kernel) rfl rfl ?_
  refine s_goto (p' := 63) rfl rfl ?_
  refine s_ildn (p' := 64) rfl rfl rfl ?_
  refine s_con (p' := 65) rfl rfl ?_
  refine s_icmp (p' := 97) true rfl (by decide +kernel) rfl ?_
  refine s_incz (p' := 100) (w := (nI 6)) (ls' := [_, _, _]) rfl rfl rfl (by decide +kernel) rfl rfl ?_
  refine s_goto (p' := 11) rfl rfl ?_
  refine s_ildn (p' := 12) rfl rfl rfl ?_
  refine s_aldn (p' := 13) rfl rfl rfl ?_
  refine s_gf (p' := 16) rfl (rd_ss rfl (rd_sn rfl (rd_sn rfl (rd_sn rfl (rd_sn rfl (rd_sn rfl (rd_sn rfl (rd_sn rfl (rd_sn rfl H393))))))))) rfl rfl ?_
  refine s_lenz (p' := 17) rfl (mj_rdA_is (rd_sn rfl (rd_ss rfl (rd_ss rfl (rd_ss rfl (rd_ss rfl (rd_ss rfl (rd_ss rfl (rd_ss rfl (rd_ss rfl H395))))))))) (by decide)) rfl rfl ?_
  refine s_icmp (p' := 20) false rfl (by decide +kernel) rfl ?_
  refine s_con (p' := 21) rfl rfl ?_
  refine s_istn (p' := 22) (ls' := [_, _, _]) rfl rfl rfl rfl ?_
  refine s_ildn (p' := 23) rfl rfl rfl ?_
  refine s_con (p' := 24) rfl rfl ?_
  refine s_icmp (p' := 27) false rfl (by decide +kernel) rfl ?_
  refine s_ildn (p' := 28) rfl rfl rfl ?_
  refine s_aldn (p' := 29) rfl rfl rfl ?_
  refine s_gf (p' := 32) rfl (rd_ss rfl (rd_sn rfl (rd_sn rfl (rd_sn rfl (rd_sn rfl (rd_sn rfl (rd_sn rfl (rd_sn rfl (rd_sn rfl H393))))))))) rfl rfl ?_
  refine s_ildn (p' := 33) rfl rfl rfl ?_
  refine s_ialz (p' := 34) (m := 6) (v := (nI 6)) rfl (rd_sn rfl (rd_ss rfl (rd_ss rfl (rd_ss rfl (rd_ss rfl (rd_ss rfl (rd_ss rfl (rd_ss rfl (rd_ss rfl H395))))))))) (by decide +kernel) rfl (by decide +kernel) rfl ?_
  refine s_con (p' := 35) rfl rfl ?_
  refine s_bz (p' := 36) (z := (nI 4294967289)) rfl rfl rfl (by decide +kernel) ?_
  refine s_bz (p' := 37) (z := (nI 0)) rfl rfl rfl (by decide +kernel) ?_
  refine s_con (p' := 38) rfl rfl ?_
  refine s_ildn (p' := 39) rfl rfl rfl ?_
  refine s_bz (p' := 40) (z := (nI 1)) rfl rfl rfl (by decide +kernel) ?_
  refine s_bz (p' := 41) (z := (nI 0)) rfl rfl rfl (by decide +kernel) ?_
  refine s_if (p' := 55) true rfl (by decide +kernel) rfl ?_
  refine s_incz (p' := 58) (w := (nI 1)) (ls' := [_, _, _]) rfl rfl rfl (by decide +kernel) rfl rfl ?_
  refine s_goto (p' := 22) rfl rfl ?_
  refine s_ildn (p' := 23) rfl rfl rfl ?_
  refine s_con (p' := 24) rfl rfl ?_
  refine s_icmp (p' := 27) false rfl (by decide +kernel) rfl ?_
  refine s_ildn (p' := 28) rfl rfl rfl ?_
  refine s_aldn (p' := 29) rfl rfl rfl ?_
  refine s_gf (p' := 32) rfl (rd_ss rfl (rd_sn rfl (rd_sn rfl (rd_sn rfl (rd_sn rfl (rd_sn rfl (rd_sn rfl (rd_sn rfl (rd_sn rfl H393))))))))) rfl rfl ?_
  refine s_ildn (p' := 33) rfl rfl rfl ?_
  refine s_ialz (p' := 34) (m := 6) (v := (nI 6)) rfl (rd_sn rfl (rd_ss rfl (rd_ss rfl (rd_ss rfl (rd_ss rfl (rd_ss rfl (rd_ss rfl (rd_ss rfl (rd_ss rfl H395))))))))) (by decide +kernel) rfl (by decide +kernel) rfl ?_
  refine s_con (p' := 35) rfl rfl ?_
  refine s_bz (p' := 36) (z := (nI 4294967289)) rfl rfl rfl (by decide +kernel) ?_
  refine s_bz (p' := 37) (z := (nI 0)) rfl rfl rfl (by decide +kernel) ?_
  refine s_con (p' := 38) rfl rfl ?_
  refine s_ildn (p' := 39) rfl rfl rfl ?_
  refine s_bz (p' := 40) (z := (nI 2)) rfl rfl rfl (by decide +kernel) ?_
  refine s_bz (p' := 41) (z := (nI 0)) rfl rfl rfl (by decide +kernel) ?_
  refine s_if (p' := 55) true rfl (by decide +kernel) rfl ?_
  refine s_incz (p' := 58) (w := (nI 2)) (ls' := [_, _, _]) rfl rfl rfl (by decide +kernel) rfl rfl ?_
  refine s_goto (p' := 22) rfl rfl ?_
  refine s_ildn (p' := 23) rfl rfl rfl ?_
  refine s_con (p' := 24) rfl rfl ?_
  refine s_icmp (p' := 27) false rfl (by decide +kernel) rfl ?_
  refine s_ildn (p' := 28) rfl rfl rfl ?_
  refine s_aldn (p' := 29) rfl rfl rfl ?_
  refine s_gf (p' := 32) rfl (rd_ss rfl (rd_sn rfl (rd_sn rfl (rd_sn rfl (rd_sn rfl (rd_sn rfl (rd_sn rfl (rd_sn rfl (rd_sn rfl H393))))))))) rfl rfl ?_
  refine s_ildn (p' := 33) rfl rfl rfl ?_
  refine s_ialz (p' := 34) (m := 6) (v := (nI 6)) rfl (rd_sn rfl (rd_ss rfl (rd_ss rfl (rd_ss rfl (rd_ss rfl (rd_ss rfl (rd_ss rfl (rd_ss rfl (rd_ss rfl H395))))))))) (by decide +kernel) rfl (by decide +kernel) rfl ?_
  refine s_con (p' := 35) rfl rfl ?_
  refine s_bz (p' := 36) (z := (nI 4294967289)) rfl rfl rfl (by decide +kernel) ?_
  refine s_bz (p' := 37) (z := (nI 0)) rfl rfl rfl (by decide +kernel) ?_
  refine s_con (p' := 38) rfl rfl ?_
  refine s_ildn (p' := 39) rfl rfl rfl ?_
  refine s_bz (p' := 40) (z := (nI 4)) rfl rfl rfl (by decide +kernel) ?_
  refine s_bz (p' := 41) (z := (nI 0)) rfl rfl rfl (by decide +kernel) ?_
  refine s_if (p' := 55) true rfl (by decide +kernel) rfl ?_
  refine s_incz (p' := 58) (w := (nI 3)) (ls' := [_, _, _]) rfl rfl rfl (by decide +kernel) rfl rfl ?_
  refine s_goto (p' := 22) rfl rfl ?_
  refine s_ildn (p' := 23) rfl rfl rfl ?_
  refine s_con (p' := 24) rfl rfl ?_
  refine s_icmp (p' := 61) true rfl (by decide +kernel) rfl ?_
  refine s_con (p' := 62) rfl rfl ?_
  refine s_istn (p' := 63) (ls' := [_, _, _]) rfl rfl rfl rfl ?_
  refine s_ildn (p' := 64) rfl rfl rfl ?_
  refine s_con (p' := 65) rfl rfl ?_
  refine s_icmp (p' := 68) false rfl (by decide +kernel) rfl ?_
  refine s_aldn (p' := 69) rfl rfl rfl ?_
  refine s_gf (p' := 72) rfl (rd_ss rfl (rd_sn rfl (rd_sn rfl (rd_sn rfl (rd_sn rfl (rd_sn rfl (rd_sn rfl (rd_sn rfl (rd_sn rfl H393))))))))) rfl rfl ?_
  refine s_ildn (p' := 73) rfl rfl rfl ?_
  refine s_ialz (p' := 74) (m := 6) (v := (nI 6)) rfl (rd_sn rfl (rd_ss rfl (rd_ss rfl (rd_ss rfl (rd_ss rfl (rd_ss rfl (rd_ss rfl (rd_ss rfl (rd_ss rfl H395))))))))) (by decide +kernel) rfl (by decide +kernel) rfl ?_
  refine s_ildn (p' := 75) rfl rfl rfl ?_
  refine s_con (p' := 76) rfl rfl ?_
  refine s_bz (p' := 77) (z := (nI 4294967289)) rfl rfl rfl (by decide +kernel) ?_
  refine s_bz (p' := 78) (z := (nI 0)) rfl rfl rfl (by decide +kernel) ?_
  refine s_con (p' := 79) rfl rfl ?_
  refine s_ildn (p' := 80) rfl rfl rfl ?_
  refine s_bz (p' := 81) (z := (nI 1)) rfl rfl rfl (by decide +kernel) ?_
  refine s_bz (p' := 82) (z := (nI 0)) rfl rfl rfl (by decide +kernel) ?_
  refine s_if (p' := 91) true rfl (by decide +kernel) rfl ?_
  refine s_incz (p' := 94) (w := (nI 1)) (ls' := [_, _, _]) rfl rfl rfl (by decide +kernel) rfl rfl ?_
  refine s_goto (p' := 63) rfl rfl ?_
  refine s_ildn (p' := 64) rfl rfl rfl ?_
  refine s_con (p' := 65) rfl rfl ?_
  refine s_icmp (p' := 68) false rfl (by decide +kernel) rfl ?_
  refine s_aldn (p' := 69) rfl rfl rfl ?_
  refine s_gf (p' := 72) rfl (rd_ss rfl (rd_sn rfl (rd_sn rfl (rd_sn rfl (rd_sn rfl (rd_sn rfl (rd_sn rfl (rd_sn rfl (rd_sn rfl H393))))))))) rfl rfl ?_
  refine s_ildn (p' := 73) rfl rfl rfl ?_
  refine s_ialz (p' := 74) (m := 6) (v := (nI 6)) rfl (rd_sn rfl (rd_ss rfl (rd_ss rfl (rd_ss rfl (rd_ss rfl (rd_ss rfl (rd_ss rfl (rd_ss rfl (rd_ss rfl H395))))))))) (by decide +kernel) rfl (by decide +kernel) rfl ?_
  refine s_ildn (p' := 75) rfl rfl rfl ?_
  refine s_con (p' := 76) rfl rfl ?_
  refine s_bz (p' := 77) (z := (nI 4294967289)) rfl rfl rfl (by decide +kernel) ?_
  refine s_bz (p' := 78) (z := (nI 0)) rfl rfl rfl (by decide +kernel) ?_
  refine s_con (p' := 79) rfl rfl ?_
  refine s_ildn (p' := 80) rfl rfl rfl ?_
  refine s_bz (p' := 81) (z := (nI 2)) rfl rfl rfl (by decide +kernel) ?_
  refine s_bz (p' := 82) (z := (nI 0)) rfl rfl rfl (by decide +kernel) ?_
  refine s_if (p' := 91) true rfl (by decide +kernel) rfl ?_
  refine s_incz (p' := 94) (w := (nI 2)) (ls' := [_, _, _]) rfl rfl rfl (by decide +kernel) rfl rfl ?_
  refine s_goto (p' := 63) rfl rfl ?_
  refine s_ildn (p' := 64) rfl rfl rfl ?_
  refine s_con (p' := 65) rfl rfl ?_
  refine s_icmp (p' := 68) false rfl (by decide +kernel) rfl ?_
  refine s_aldn (p' := 69) rfl rfl rfl ?_
  refine s_gf (p' := 72) rfl (rd_ss rfl (rd_sn rfl (rd_sn rfl (rd_sn rfl (rd_sn rfl (rd_sn rfl (rd_sn rfl (rd_sn rfl (rd_sn rfl H393))))))))) rfl rfl ?_
  refine s_ildn (p' := 73) rfl rfl rfl ?_
  refine s_ialz (p' := 74) (m := 6) (v := (nI 6)) rfl (rd_sn rfl (rd_ss rfl (rd_ss rfl (rd_ss rfl (rd_ss rfl (rd_ss rfl (rd_ss rfl (rd_ss rfl (rd_ss rfl H395))))))))) (by decide +kernel) rfl (by decide +kernel) rfl ?_
  refine s_ildn (p' := 75) rfl rfl rfl ?_
  refine s_con (p' := 76) rfl rfl ?_
  refine s_bz (p' := 77) (z := (nI 4294967289)) rfl rfl rfl (by decide +kernel) ?_
  refine s_bz (p' := 78) (z := (nI 0)) rfl rfl rfl (by decide +kernel) ?_
  refine s_con (p' := 79) rfl rfl ?_
  refine s_ildn (p' := 80) rfl rfl rfl ?_
  refine s_bz (p' := 81) (z := (nI 4)) rfl rfl rfl (by decide +kernel) ?_
  refine s_bz (p' := 82) (z := (nI 0)) rfl rfl rfl (by decide +kernel) ?_
  refine s_if (p' := 91) true rfl (by decide +kernel) rfl ?_
  refine s_incz (p' := 94) (w := (nI 3)) (ls' := [_, _, _]) rfl rfl rfl (by decide +kernel) rfl rfl ?_
  refine s_goto (p' := 63) rfl rfl ?_
  refine s_ildn (p' := 64) rfl rfl rfl ?_
  refine s_con (p' := 65) rfl rfl ?_
  refine s_icmp (p' := 97) true rfl (by decide +kernel) rfl ?_
  refine s_incz (p' := 100) (w := (nI 7)) (ls' := [_, _, _]) rfl rfl rfl (by decide +kernel) rfl rfl ?_
  refine s_goto (p' := 11) rfl rfl ?_
  refine s_ildn (p' := 12) rfl rfl rfl ?_
  refine s_aldn (p' := 13) rfl rfl rfl ?_
  refine s_gf (p' := 16) rfl (rd_ss rfl (rd_sn rfl (rd_sn rfl (rd_sn rfl (rd_sn rfl (rd_sn rfl (rd_sn rfl (rd_sn rfl (rd_sn rfl H393))))))))) rfl rfl ?_
  refine s_lenz (p' := 17) rfl (mj_rdA_is (rd_sn rfl (rd_ss rfl (rd_ss rfl (rd_ss rfl (rd_ss rfl (rd_ss rfl (rd_ss rfl (rd_ss rfl (rd_ss rfl H395))))))))) (by decide)) rfl rfl ?_
  refine s_icmp (p' := 20) false rfl (by decide +kernel) rfl ?_
  refine s_con (p' := 21) rfl rfl ?_
  refine s_istn (p' := 22) (ls' := [_, _, _]) rfl rfl rfl rfl ?_
  refine s_ildn (p' := 23) rfl rfl rfl ?_
  refine s_con (p' := 24) rfl rfl ?_
  refine s_icmp (p' := 27) false rfl (by decide +kernel) rfl ?_
  refine s_ildn (p' := 28) rfl rfl rfl ?_
  refine s_aldn (p' := 29) rfl rfl rfl ?_
  refine s_gf (p' := 32) rfl (rd_ss rfl (rd_sn rfl (rd_sn rfl (rd_sn rfl (rd_sn rfl (rd_sn rfl (rd_sn rfl (rd_sn rfl (rd_sn rfl H393))))))))) rfl rfl ?_
  refine s_ildn (p' := 33) rfl rfl rfl ?_
  refine s_ialz (p' := 34) (m := 7) (v := (nI 7)) rfl (rd_sn rfl (rd_ss rfl (rd_ss rfl (rd_ss rfl (rd_ss rfl (rd_ss rfl (rd_ss rfl (rd_ss rfl (rd_ss rfl H395))))))))) (by decide +kernel) rfl (by decide +kernel) rfl ?_
  refine s_con (p' := 35) rfl rfl ?_
  refine s_bz (p' := 36) (z := (nI 4294967288)) rfl rfl rfl (by decide +kernel) ?_
  refine s_bz (p' := 37) (z := (nI 0)) rfl rfl rfl (by decide +kernel) ?_
  refine s_con (p' := 38) rfl rfl ?_
  refine s_ildn (p' := 39) rfl rfl rfl ?_
  refine s_bz (p' := 40) (z := (nI 1)) rfl rfl rfl (by decide +kernel) ?_
  refine s_bz (p' := 41) (z := (nI 0)) rfl rfl rfl (by decide +kernel) ?_
  refine s_if (p' := 55) true rfl (by decide +kernel) rfl ?_
  refine s_incz (p' := 58) (w := (nI 1)) (ls' := [_, _, _]) rfl rfl rfl (by decide +kernel) rfl rfl ?_
  refine s_goto (p' := 22) rfl rfl ?_
  refine s_ildn (p' := 23) rfl rfl rfl ?_
  refine s_con (p' := 24) rfl rfl ?_
  refine s_icmp (p' := 27) false rfl (by decide +kernel) rfl ?_
  refine s_ildn (p' := 28) rfl rfl rfl ?_
  refine s_aldn (p' := 29) rfl rfl rfl ?_
  refine s_gf (p' := 32) rfl (rd_ss rfl (rd_sn rfl (rd_sn rfl (rd_sn rfl (rd_sn rfl (rd_sn rfl (rd_sn rfl (rd_sn rfl (rd_sn rfl H393))))))))) rfl rfl ?_
  refine s_ildn (p' := 33) rfl rfl rfl ?_
  refine s_ialz (p' := 34) (m := 7) (v := (nI 7)) rfl (rd_sn rfl (rd_ss rfl (rd_ss rfl (rd_ss rfl (rd_ss rfl (rd_ss rfl (rd_ss rfl (rd_ss rfl (rd_ss rfl H395))))))))) (by decide +kernel) rfl (by decide +kernel) rfl ?_
  refine s_con (p' := 35) rfl rfl ?_
  refine s_bz (p' := 36) (z := (nI 4294967288)) rfl rfl rfl (by decide +kernel) ?_
  refine s_bz (p' := 37) (z := (nI 0)) rfl rfl rfl (by decide +kernel) ?_
  refine s_con (p' := 38) rfl rfl ?_
  refine s_ildn (p' := 39) rfl rfl rfl ?_
  refine s_bz (p' := 40) (z := (nI 2)) rfl rfl rfl (by decide +kernel) ?_
  refine s_bz (p' := 41) (z := (nI 0)) rfl rfl rfl (by decide +kernel) ?_
  refine s_if (p' := 55) true rfl (by decide +kernel) rfl ?_
  refine s_incz (p' := 58) (w := (nI 2)) (ls' := [_, _, _]) rfl rfl rfl (by decide +kernel) rfl rfl ?_
  refine s_goto (p' := 22) rfl rfl ?_
  refine s_ildn (p' := 23) rfl rfl rfl ?_
  refine s_con (p' := 24) rfl rfl ?_
  refine s_icmp (p' := 27) false rfl (by decide +kernel) rfl ?_
  refine s_ildn (p' := 28) rfl rfl rfl ?_
  refine s_aldn (p' := 29) rfl rfl rfl ?_
  refine s_gf (p' := 32) rfl (rd_ss rfl (rd_sn rfl (rd_sn rfl (rd_sn rfl (rd_sn rfl (rd_sn rfl (rd_sn rfl (rd_sn rfl (rd_sn rfl H393))))))))) rfl rfl ?_
  refine s_ildn (p' := 33) rfl rfl rfl ?_
  refine s_ialz (p' := 34) (m := 7) (v := (nI 7)) rfl (rd_sn rfl (rd_ss rfl (rd_ss rfl (rd_ss rfl (rd_ss rfl (rd_ss rfl (rd_ss rfl (rd_ss rfl (rd_ss rfl H395))))))))) (by decide +kernel) rfl (by decide +kernel) rfl ?_
  refine s_con (p' := 35) rfl rfl ?_
  refine s_bz (p' := 36) (z := (nI 4294967288)) rfl rfl rfl (by decide +kernel) ?_
  refine s_bz (p' := 37) (z := (nI 0)) rfl rfl rfl (by decide +kernel) ?_
  refine s_con (p' := 38) rfl rfl ?_
  refine s_ildn (p' := 39) rfl rfl rfl ?_
  refine s_bz (p' := 40) (z := (nI 4)) rfl rfl rfl (by decide +kernel) ?_
  refine s_bz (p' := 41) (z := (nI 0)) rfl rfl rfl (by decide +kernel) ?_
  refine s_if (p' := 55) true rfl (by decide +kernel) rfl ?_
  refine s_incz (p' := 58) (w := (nI 3)) (ls' := [_, _, _]) rfl rfl rfl (by decide +kernel) rfl rfl ?_
  refine s_goto (p' := 22) rfl rfl ?_
  refine s_ildn (p' := 23) rfl rfl rfl ?_
  refine s_con (p' := 24) rfl rfl ?_
  refine s_icmp (p' := 61) true rfl (by decide +kernel) rfl ?_
  refine s_con (p' := 62) rfl rfl ?_
  refine s_istn (p' := 63) (ls' := [_, _, _]) rfl rfl rfl rfl ?_
  refine s_ildn (p' := 64) rfl rfl rfl ?_
  refine s_con (p' := 65) rfl rfl ?_
  refine s_icmp (p' := 68) false rfl (by decide +kernel) rfl ?_
  refine s_aldn (p' := 69) rfl rfl rfl ?_
  refine s_gf (p' := 72) rfl (rd_ss rfl (rd_sn rfl (rd_sn rfl (rd_sn rfl (rd_sn rfl (rd_sn rfl (rd_sn rfl (rd_sn rfl (rd_sn rfl H393))))))))) rfl rfl ?_
  refine s_ildn (p' := 73) rfl rfl rfl ?_
  refine s_ialz (p' := 74) (m := 7) (v := (nI 7)) rfl (rd_sn rfl (rd_ss rfl (rd_ss rfl (rd_ss rfl (rd_ss rfl (rd_ss rfl (rd_ss rfl (rd_ss rfl (rd_ss rfl H395))))))))) (by decide +kernel) rfl (by decide +kernel) rfl ?_
  refine s_ildn (p' := 75) rfl rfl rfl ?_
  refine s_con (p' := 76) rfl rfl ?_
  refine s_bz (p' := 77) (z := (nI 4294967288)) rfl rfl rfl (by decide +kernel) ?_
  refine s_bz (p' := 78) (z := (nI 0)) rfl rfl rfl (by decide +kernel) ?_
  refine s_con (p' := 79) rfl rfl ?_
  refine s_ildn (p' := 80) rfl rfl rfl ?_
  refine s_bz (p' := 81) (z := (nI 1)) rfl rfl rfl (by decide +kernel) ?_
  refine s_bz (p' := 82) (z := (nI 0)) rfl rfl rfl (by decide +kernel) ?_
  refine s_if (p' := 91) true rfl (by decide +kernel) rfl ?_
  refine s_incz (p' := 94) (w := (nI 1)) (ls' := [_, _, _]) rfl rfl rfl (by decide +kernel) rfl rfl ?_
  refine s_goto (p' := 63) rfl rfl ?_
  refine s_ildn (p' := 64) rfl rfl rfl ?_
  refine s_con (p' := 65) rfl rfl ?_
  refine s_icmp (p' := 68) false rfl (by decide +kernel) rfl ?_
  refine s_aldn (p' := 69) rfl rfl rfl ?_
  refine s_gf (p' := 72) rfl (rd_ss rfl (rd_sn rfl (rd_sn rfl (rd_sn rfl (rd_sn rfl (rd_sn rfl (rd_sn rfl (rd_sn rfl (rd_sn rfl H393))))))))) rfl rfl ?_
  refine s_ildn (p' := 73) rfl rfl rfl ?_
  refine s_ialz (p' := 74) (m := 7) (v := (nI 7)) rfl (rd_sn rfl (rd_ss rfl (rd_ss rfl (rd_ss rfl (rd_ss rfl (rd_ss rfl (rd_ss rfl (rd_ss rfl (rd_ss rfl H395))))))))) (by decide +kernel) rfl (by decide +kernel) rfl ?_
  refine s_ildn (p' := 75) rfl rfl rfl ?_
  refine s_con (p' := 76) rfl rfl ?_
  refine s_bz (p' := 77) (z := (nI 4294967288)) rfl rfl rfl (by decide +kernel) ?_
  refine s_bz (p' := 78) (z := (nI 0)) rfl rfl rfl (by decide +kernel) ?_
  refine s_con (p' := 79) rfl rfl ?_
  refine s_ildn (p' := 80) rfl rfl rfl ?_
  refine s_bz (p' := 81) (z := (nI 2)) rfl rfl rfl (by decide +kernel) ?_
  refine s_bz (p' := 82) (z := (nI 0)) rfl rfl rfl (by decide +kernel) ?_
  refine s_if (p' := 91) true rfl (by decide +kernel) rfl ?_
  refine s_incz (p' := 94) (w := (nI 2)) (ls' := [_, _, _]) rfl rfl rfl (by decide +kernel) rfl rfl ?_
  refine s_goto (p' := 63) rfl rfl ?_
  refine s_ildn (p' := 64) rfl rfl rfl ?_
  refine s_con (p' := 65) rfl rfl ?_
  refine s_icmp (p' := 68) false rfl (by decide +kernel) rfl ?_
  refine s_aldn (p' := 69) rfl rfl rfl ?_
  refine s_gf (p' := 72) rfl (rd_ss rfl (rd_sn rfl (rd_sn rfl (rd_sn rfl (rd_sn rfl (rd_sn rfl (rd_sn rfl (rd_sn rfl (rd_sn rfl H393))))))))) rfl rfl ?_
  refine s_ildn (p' := 73) rfl rfl rfl ?_
  refine s_ialz (p' := 74) (m := 7) (v := (nI 7)) rfl (rd_sn rfl (rd_ss rfl (rd_ss rfl (rd_ss rfl (rd_ss rfl (rd_ss rfl (rd_ss rfl (rd_ss rfl (rd_ss rfl H395))))))))) (by decide +kernel) rfl (by decide +kernel) rfl ?_
  refine s_ildn (p' := 75) rfl rfl rfl ?_
  refine s_con (p' := 76) rfl rfl ?_
  refine s_bz (p' := 77) (z := (nI 4294967288)) rfl rfl rfl (by decide +kernel) ?_
  refine s_bz (p' := 78) (z := (nI 0)) rfl rfl rfl (by decide +kernel) ?_
  refine s_con (p' := 79) rfl rfl ?_
  refine s_ildn (p' := 80) rfl rfl rfl ?_
  refine s_bz (p' := 81) (z := (nI 4)) rfl rfl rfl (by decide +kernel) ?_
  refine s_bz (p' := 82) (z := (nI 0)) rfl rfl rfl (by decide +kernel) ?_
  refine s_if (p' := 91) true rfl (by decide +kernel) rfl ?_
  refine s_incz (p' := 94) (w := (nI 3)) (ls' := [_, _, _]) rfl rfl rfl (by decide +kernel) rfl rfl ?_
  refine s_goto (p' := 63) rfl rfl ?_
  refine s_ildn (p' := 64) rfl rfl rfl ?_
  refine s_con (p' := 65) rfl rfl ?_
  refine s_icmp (p' := 97) true rfl (by decide +kernel) rfl ?_
  refine s_incz (p' := 100) (w := (nI 8)) (ls' := [_, _, _]) rfl rfl rfl (by decide +kernel) rfl rfl ?_
  refine s_goto (p' := 11) rfl rfl ?_
  refine s_ildn (p' := 12) rfl rfl rfl ?_
  refine s_aldn (p' := 13) rfl rfl rfl ?_
  refine s_gf (p' := 16) rfl (rd_ss rfl (rd_sn rfl (rd_sn rfl (rd_sn rfl (rd_sn rfl (rd_sn rfl (rd_sn rfl (rd_sn rfl (rd_sn rfl H393))))))))) rfl rfl ?_
  refine s_lenz (p' := 17) rfl (mj_rdA_is (rd_sn rfl (rd_ss rfl (rd_ss rfl (rd_ss rfl (rd_ss rfl (rd_ss rfl (rd_ss rfl (rd_ss rfl (rd_ss rfl H395))))))))) (by decide)) rfl rfl ?_
  refine s_icmp (p' := 103) true rfl (by decide +kernel) rfl ?_
  refine s_aldn (p' := 104) rfl rfl rfl ?_
  refine s_gf (p' := 107) rfl (rd_ss rfl (rd_sn rfl (rd_sn rfl (rd_sn rfl (rd_sn rfl (rd_sn rfl (rd_sn rfl (rd_sn rfl (rd_sn rfl H393))))))))) rfl rfl ?_
  refine c_iret rfl rfl ?_
  refine s_istn (p' := 8) (ls' := [_, _, _]) rfl rfl rfl rfl ?_
  refine s_ildn (p' := 9) rfl rfl rfl ?_
  refine s_if (p' := 17) true rfl ((cg_lt (w := 0) (by decide +kernel)).trans (decide_eq_true (by omega))) rfl ?_
  refine s_thrz (q := 414) rfl (len_s (len_s (len_s (len_s (len_s (len_s (len_s (len_s (len_s HL))))))))) rfl ?_
  refine K_c (hp := 12) rfl (mj_ocl_is (rd_nw rfl (len_s (len_s (len_s (len_s (len_s (len_s (len_s (len_s (len_s HL))))))))))) rfl ?_
  refine s_astn (p' := 13) (ls' := [_, _, _, _]) rfl rfl rfl rfl ?_
  refine s_con (p' := 14) rfl rfl ?_
  refine k_iret rfl rfl ?_
  refine l_ist (p' := 2106) (ls' := [_, _, _, _, _, _, _, _, _, _]) rfl rfl rfl rfl rfl ?_
  refine l_aldn (p' := 2107) rfl rfl rfl rfl ?_
  refine l_alds (p' := 2108) rfl rfl rfl rfl ?_
  refine l_ild (p' := 2110) rfl rfl rfl rfl ?_
  refine l_con (p' := 2111) rfl rfl rfl ?_
  refine l_bz (p' := 2112) (z := (nI 1)) rfl rfl rfl rfl rfl (by decide +kernel) ?_
  refine l_ialz (p' := 2113) (m := 1) (z := p) rfl rfl (by decide +kernel) rfl hx1 rfl ?_
  refine l_call (p' := 2116) (kc := 99) (ls0 := [_, _, _]) rfl rfl rfl rfl rfl rfl (mj_rcv_is (rd_app (rd_sn rfl (rd_sn rfl (rd_sn rfl (rd_sn rfl (rd_sn rfl (rd_sn rfl (rd_sn rfl (rd_sn rfl (rd_sn rfl H400))))))))))) rfl rfl rfl ?_
  refine s_aldn (p' := 1) rfl rfl rfl ?_
  refine c_call (p' := 4) (kc := 98) (ls0 := [_, _, _, _, _, _, _, _]) rfl rfl rfl rfl rfl (mj_rcv_is (rd_app (rd_sn rfl (rd_sn rfl (rd_sn rfl (rd_sn rfl (rd_sn rfl (rd_sn rfl (rd_sn rfl (rd_sn rfl (rd_sn rfl H400))))))))))) rfl rfl rfl ?_
  refine s_bip (p' := 2) rfl rfl ?_
  refine s_naz (p' := 4) (a := 415) (n := 8) rfl (len_a (len_s (len_s (len_s (len_s (len_s (len_s (len_s (len_s (len_s HL))))))))) rfl) rfl rfl ?_
  refine s_astn (p' := 5) (ls' := [_, _, _, _, _, _, _, _]) rfl rfl rfl rfl ?_
  refine s_con (p' := 6) rfl rfl ?_
  refine s_istn (p' := 7) (ls' := [_, _, _, _, _, _, _, _]) rfl rfl rfl rfl ?_
  refine s_ildn (p' := 8) rfl rfl rfl ?_
  refine s_bip (p' := 10) rfl rfl ?_
  refine s_icmp (p' := 13) false rfl (by decide +kernel) rfl ?_
  refine s_aldn (p' := 14) rfl rfl rfl ?_
  refine s_ildn (p' := 15) rfl rfl rfl ?_
  refine s_aldn (p' := 16) rfl rfl rfl ?_
  refine s_ildn (p' := 17) rfl rfl rfl ?_
  refine c_call (p' := 20) (kc := 97) (ls0 := [_, _, _, _, _]) rfl rfl rfl rfl rfl (mj_rcv_is (rd_app (rd_app (rd_sn rfl (rd_sn rfl (rd_sn rfl (rd_sn rfl (rd_sn rfl (rd_sn rfl (rd_sn rfl (rd_sn rfl (rd_sn rfl H400)))))))))))) rfl rfl rfl ?_
  refine s_ildn (p' := 1) rfl rfl rfl ?_
  refine s_istn (p' := 2) (ls' := [_, _, _, _, _]) rfl rfl rfl rfl ?_
  refine s_aldn (p' := 3) rfl rfl rfl ?_
  refine s_gf (p' := 6) rfl (rd_app (rd_app (rd_sn rfl (rd_sn rfl (rd_sn rfl (rd_sn rfl (rd_sn rfl (rd_sn rfl (rd_sn rfl (rd_sn rfl (rd_sn rfl H400))))))))))) rfl rfl ?_
  refine c_call (p' := 11) (kc := 96) (ls0 := [_]) rfl rfl rfl rfl rfl (mj_rcv_is (rd_app (rd_app (rd_sn rfl (rd_sn rfl (rd_sn rfl (rd_sn rfl (rd_sn rfl (rd_sn rfl (rd_sn rfl (rd_sn rfl (rd_sn rfl H410)))))))))))) rfl rfl rfl ?_
  refine s_newz (p' := 3) (a := 416) rfl (len_a (len_a (len_s (len_s (len_s (len_s (len_s (len_s (len_s (len_s (len_s HL))))))))) rfl) rfl) rfl rfl ?_
  refine s_dupr (p' := 4) rfl rfl ?_
  refine s_aldn (p' := 5) rfl rfl rfl ?_
  refine c_call (p' := 8) (kc := 95) (ls0 := [_, _]) rfl rfl rfl rfl rfl (mj_rcv_is (rd_nw rfl (len_a (len_a (len_s (len_s (len_s (len_s (len_s (len_s (len_s (len_s (len_s HL))))))))) rfl) rfl))) rfl rfl rfl ?_
  refine s_aldn (p' := 1) rfl rfl rfl ?_
  refine s_aldn (p' := 2) rfl rfl rfl ?_
  refine s_pfz (p' := 5) (fs' := [_, _, _, _]) rfl rfl (rd_nw rfl (len_a (len_a (len_s (len_s (len_s (len_s (len_s (len_s (len_s (len_s (len_s HL))))))))) rfl) rfl)) rfl rfl rfl rfl ?_
  refine s_aldn (p' := 6) rfl rfl rfl ?_
  refine s_primN (p' := 9) (q := 3) rfl rfl rfl rfl rfl rfl rfl rfl ?_
  refine s_aldn (p' := 10) rfl rfl rfl ?_
  refine s_con (p' := 11) rfl rfl ?_
  refine s_pfz (p' := 14) (fs' := [_, _, _, _]) rfl rfl (rd_ss rfl (rd_nw rfl (len_a (len_a (len_s (len_s (len_s (len_s (len_s (len_s (len_s (len_s (len_s HL))))))))) rfl) rfl))) rfl rfl rfl rfl ?_
  refine s_aldn (p' := 15) rfl rfl rfl ?_
  refine s_aldn (p' := 16) rfl rfl rfl ?_
  refine s_gf (p' := 19) rfl (rd_ss rfl (rd_ss rfl (rd_nw rfl (len_a (len_a (len_s (len_s (len_s (len_s (len_s (len_s (len_s (len_s (len_s HL))))))))) rfl) rfl)))) rfl rfl ?_
  refine s_gf (p' := 22) rfl (rd_sn rfl (rd_sn rfl (rd_app (rd_app (rd_app (rd_sn rfl (rd_sn rfl (rd_sn rfl (rd_sn rfl (rd_sn rfl (rd_sn rfl (rd_sn rfl (rd_sn rfl (rd_sn rfl H410)))))))))))))) rfl rfl ?_
  refine s_pfz (p' := 25) (fs' := [_, _, _, _]) rfl rfl (rd_ss rfl (rd_ss rfl (rd_nw rfl (len_a (len_a (len_s (len_s (len_s (len_s (len_s (len_s (len_s (len_s (len_s HL))))))))) rfl) rfl)))) rfl rfl rfl rfl ?_
  refine c_ret rfl ?_
  refine c_aret rfl ?_
  refine s_astn (p' := 12) (ls' := [_, _, _, _, _]) rfl rfl rfl rfl ?_
  refine s_aldn (p' := 13) rfl rfl rfl ?_
  refine c_call (p' := 18) (kc := 96) (ls0 := [_]) rfl rfl rfl rfl rfl (mj_rcv_is (rd_ss rfl (rd_ss rfl (rd_ss rfl (rd_nw rfl (len_a (len_a (len_s (len_s (len_s (len_s (len_s (len_s (len_s (len_s (len_s HL))))))))) rfl) rfl)))))) rfl rfl rfl ?_
  refine s_aldn (p' := 1) rfl rfl rfl ?_
  refine s_gf (p' := 4) rfl (rd_ss rfl (rd_ss rfl (rd_ss rfl (rd_nw rfl (len_a (len_a (len_s (len_s (len_s (len_s (len_s (len_s (len_s (len_s (len_s HL))))))))) rfl) rfl))))) rfl rfl ?_
  refine s_aldn (p' := 5) rfl rfl rfl ?_
  refine s_gf (p' := 8) rfl (rd_ss rfl (rd_ss rfl (rd_ss rfl (rd_nw rfl (len_a (len_a (len_s (len_s (len_s (len_s (len_s (len_s (len_s (len_s (len_s HL))))))))) rfl) rfl))))) rfl rfl ?_
  refine s_gf (p' := 11) rfl (rd_sn rfl (rd_sn rfl (rd_sn rfl (rd_app (rd_app (rd_app (rd_sn rfl (rd_sn rfl (rd_sn rfl (rd_sn rfl (rd_sn rfl (rd_sn rfl (rd_sn rfl (rd_sn rfl (rd_sn rfl H410))))))))))))))) rfl rfl ?_
  refine s_icmp (p' := 18) true rfl (by decide +kernel) rfl ?_
  refine s_con (p' := 19) rfl rfl ?_
  refine c_iret rfl (by decide +kernel) ?_
  refine s_if (p' := 45) true rfl (by decide +kernel) rfl ?_
  refine s_ildn (p' := 46) rfl rfl rfl ?_
  refine c_iret rfl rfl ?_
  refine s_iasz (p' := 21) (m := 0) rfl rfl (rd_sn rfl (rd_sn rfl (rd_sn rfl (rd_app (rd_nw rfl (len_a (len_s (len_s (len_s (len_s (len_s (len_s (len_s (len_s (len_s HL))))))))) rfl)))))) (by decide +kernel) rfl rfl rfl ?_
  refine s_incz (p' := 24) (w := (nI 1)) (ls' := [_, _, _, _, _, _, _, _]) rfl rfl rfl (by decide +kernel) rfl rfl ?_
  refine s_goto (p' := 7) rfl rfl ?_
  refine s_ildn (p' := 8) rfl rfl rfl ?_
  refine s_bip (p' := 10) rfl rfl ?_
  refine s_icmp (p' := 13) false rfl (by decide +kernel) rfl ?_
  refine s_aldn (p' := 14) rfl rfl rfl ?_
  refine s_ildn (p' := 15) rfl rfl rfl ?_
  refine s_aldn (p' := 16) rfl rfl rfl ?_
  refine s_ildn (p' := 17) rfl rfl rfl ?_
  refine c_call (p' := 20) (kc := 97) (ls0 := [_, _, _, _, _]) rfl rfl rfl rfl rfl (mj_rcv_is (rd_sn rfl (rd_sn rfl (rd_sn rfl (rd_sn rfl (rd_app (rd_app (rd_app (rd_sn rfl (rd_sn rfl (rd_sn rfl (rd_sn rfl (rd_sn rfl (rd_sn rfl (rd_sn rfl (rd_sn rfl (rd_sn rfl H400))))))))))))))))) rfl rfl rfl ?_
  refine s_ildn (p' := 1) rfl rfl rfl ?_
  refine s_istn (p' := 2) (ls' := [_, _, _, _, _]) rfl rfl rfl rfl ?_
  refine s_aldn (p' := 3) rfl rfl rfl ?_
  refine s_gf (p' := 6) rfl (rd_sn rfl (rd_sn rfl (rd_sn rfl (rd_sn rfl (rd_app (rd_app (rd_app (rd_sn rfl (rd_sn rfl (rd_sn rfl (rd_sn rfl (rd_sn rfl (rd_sn rfl (rd_sn rfl (rd_sn rfl (rd_sn rfl H400)))))))))))))))) rfl rfl ?_
  refine c_call (p' := 11) (kc := 96) (ls0 := [_]) rfl rfl rfl rfl rfl (mj_rcv_is (rd_sn rfl (rd_sn rfl (rd_sn rfl (rd_sn rfl (rd_app (rd_app (rd_app (rd_sn rfl (rd_sn rfl (rd_sn rfl (rd_sn rfl (rd_sn rfl (rd_sn rfl (rd_sn rfl (rd_sn rfl (rd_sn rfl H410))))))))))))))))) rfl rfl rfl ?_
  refine s_newz (p' := 3) (a := 417) rfl (len_s (len_s (len_s (len_s (len_a (len_a (len_a (len_s (len_s (len_s (len_s (len_s (len_s (len_s (len_s (len_s HL))))))))) rfl) rfl) rfl))))) rfl rfl ?_
  refine s_dupr (p' := 4) rfl rfl ?_
  refine s_aldn (p' := 5) rfl rfl rfl ?_
  refine c_call (p' := 8) (kc := 95) (ls0 := [_, _]) rfl rfl rfl rfl rfl (mj_rcv_is (rd_nw rfl (len_s (len_s (len_s (len_s (len_a (len_a (len_a (len_s (len_s (len_s (len_s (len_s (len_s (len_s (len_s (len_s HL))))))))) rfl) rfl) rfl))))))) rfl rfl rfl ?_
  refine s_aldn (p' := 1) rfl rfl rfl ?_
  refine s_aldn (p' := 2) rfl rfl rfl ?_
  refine s_pfz (p' := 5) (fs' := [_, _, _, _]) rfl rfl (rd_nw rfl (len_s (len_s (len_s (len_s (len_a (len_a (len_a (len_s (len_s (len_s (len_s (len_s (len_s (len_s (len_s (len_s HL))))))))) rfl) rfl) rfl)))))) rfl rfl rfl rfl ?_
  refine s_aldn (p' := 6) rfl rfl rfl ?_
  refine s_primN (p' := 9) (q := 3) rfl rfl rfl rfl rfl rfl rfl rfl ?_
  refine s_aldn (p' := 10) rfl rfl rfl ?_
  refine s_con (p' := 11) rfl rfl ?_
  refine s_pfz (p' := 14) (fs' := [_, _, _, _]) rfl rfl (rd_ss rfl (rd_nw rfl (len_s (len_s (len_s (len_s (len_a (len_a (len_a (len_s (len_s (len_s (len_s (len_s (len_s (len_s (len_s (len_s HL))))))))) rfl) rfl) rfl))))))) rfl rfl rfl rfl ?_
  refine s_aldn (p' := 15) rfl rfl rfl ?_
  refine s_aldn (p' := 16) rfl rfl rfl ?_
  refine s_gf (p' := 19) rfl (rd_ss rfl (rd_ss rfl (rd_nw rfl (len_s (len_s (len_s (len_s (len_a (len_a (len_a (len_s (len_s (len_s (len_s (len_s (len_s (len_s (len_s (len_s HL))))))))) rfl) rfl) rfl)))))))) rfl rfl ?_
  refine s_gf (p' := 22) rfl (rd_sn rfl (rd_sn rfl (rd_app (rd_sn rfl (rd_sn rfl (rd_sn rfl (rd_sn rfl (rd_app (rd_app (rd_app (rd_sn rfl (rd_sn rfl (rd_sn rfl (rd_sn rfl (rd_sn rfl (rd_sn rfl (rd_sn rfl (rd_sn rfl (rd_sn rfl H410))))))))))))))))))) rfl rfl ?_
  refine s_pfz (p' := 25) (fs' := [_, _, _, _]) rfl rfl (rd_ss rfl (rd_ss rfl (rd_nw rfl (len_s (len_s (len_s (len_s (len_a (len_a (len_a (len_s (len_s (len_s (len_s (len_s (len_s (len_s (len_s (len_s HL))))))))) rfl) rfl) rfl)))))))) rfl rfl rfl rfl ?_
  refine c_ret rfl ?_
  refine c_aret rfl ?_
  refine s_astn (p' := 12) (ls' := [_, _, _, _, _]) rfl rfl rfl rfl ?_
  refine s_aldn (p' := 13) rfl rfl rfl ?_
  refine c_call (p' := 18) (kc := 96) (ls0 := [_]) rfl rfl rfl rfl rfl (mj_rcv_is (rd_ss rfl (rd_ss rfl (rd_ss rfl (rd_nw rfl (len_s (len_s (len_s (len_s (len_a (len_a (len_a (len_s (len_s (len_s (len_s (len_s (len_s (len_s (len_s (len_s HL))))))))) rfl) rfl) rfl)))))))))) rfl rfl rfl ?_
  refine s_aldn (p' := 1) rfl rfl rfl ?_
  refine s_gf (p' := 4) rfl (rd_ss rfl (rd_ss rfl (rd_ss rfl (rd_nw rfl (len_s (len_s (len_s (len_s (len_a (len_a (len_a (len_s (len_s (len_s (len_s (len_s (len_s (len_s (len_s (len_s HL))))))))) rfl) rfl) rfl))))))))) rfl rfl ?_
  refine s_aldn (p' := 5) rfl rfl rfl ?_
  refine s_gf (p' := 8) rfl (rd_ss rfl (rd_ss rfl (rd_ss rfl (rd_nw rfl (len_s (len_s (len_s (len_s (len_a (len_a (len_a (len_s (len_s (len_s (len_s (len_s (len_s (len_s (len_s (len_s HL))))))))) rfl) rfl) rfl))))))))) rfl rfl ?_
  refine s_gf (p' := 11) rfl (rd_sn rfl (rd_sn rfl (rd_sn rfl (rd_app (rd_sn rfl (rd_sn rfl (rd_sn rfl (rd_sn rfl (rd_app (rd_app (rd_app (rd_sn rfl (rd_sn rfl (rd_sn rfl (rd_sn rfl (rd_sn rfl (rd_sn rfl (rd_sn rfl (rd_sn rfl (rd_sn rfl H410)))))))))))))))))))) rfl rfl ?_
  refine s_icmp (p' := 18) true rfl (by decide +kernel) rfl ?_
  refine s_con (p' := 19) rfl rfl ?_
  refine c_iret rfl (by decide +kernel) ?_
  refine s_if (p' := 45) true rfl (by decide +kernel) rfl ?_
  refine s_ildn (p' := 46) rfl rfl rfl ?_
  refine c_iret rfl rfl ?_
  refine s_iasz (p' := 21) (m := 1) rfl rfl (rd_sn rfl (rd_sn rfl (rd_sn rfl (rd_app (rd_ss rfl (rd_sn rfl (rd_sn rfl (rd_sn rfl (rd_app (rd_nw rfl (len_a (len_s (len_s (len_s (len_s (len_s (len_s (len_s (len_s (len_s HL))))))))) rfl))))))))))) (by decide +kernel) rfl rfl rfl ?_
  refine s_incz (p' := 24) (w := (nI 2)) (ls' := [_, _, _, _, _, _, _, _]) rfl rfl rfl (by decide +kernel) rfl rfl ?_
  refine s_goto (p' := 7) rfl rfl ?_
  refine s_ildn (p' := 8) rfl rfl rfl ?_
  refine s_bip (p' := 10) rfl rfl ?_
  refine s_icmp (p' := 13) false rfl (by decide +kernel) rfl ?_
  refine s_aldn (p' := 14) rfl rfl rfl ?_
  refine s_ildn (p' := 15) rfl rfl rfl ?_
  refine s_aldn (p' := 16) rfl rfl rfl ?_
  refine s_ildn (p' := 17) rfl rfl rfl ?_
  refine c_call (p' := 20) (kc := 97) (ls0 := [_, _, _, _, _]) rfl rfl rfl rfl rfl (mj_rcv_is (rd_sn rfl (rd_sn rfl (rd_sn rfl (rd_sn rfl (rd_app (rd_sn rfl (rd_sn rfl (rd_sn rfl (rd_sn rfl (rd_app (rd_app (rd_app (rd_sn rfl (rd_sn rfl (rd_sn rfl (rd_sn rfl (rd_sn rfl (rd_sn rfl (rd_sn rfl (rd_sn rfl (rd_sn rfl H400)))))))))))))))))))))) rfl rfl rfl ?_
  refine s_ildn (p' := 1) rfl rfl rfl ?_
  refine s_istn (p' := 2) (ls' := [_, _, _, _, _]) rfl rfl rfl rfl ?_
  refine s_aldn (p' := 3) rfl rfl rfl ?_
  refine s_gf (p' := 6) rfl (rd_sn rfl (rd_sn rfl (rd_sn rfl (rd_sn rfl (rd_app (rd_sn rfl (rd_sn rfl (rd_sn rfl (rd_sn rfl (rd_app (rd_app (rd_app (rd_sn rfl (rd_sn rfl (rd_sn rfl (rd_sn rfl (rd_sn rfl (rd_sn rfl (rd_sn rfl (rd_sn rfl (rd_sn rfl H400))))))))))))))))))))) rfl rfl ?_
  refine c_call (p' := 11) (kc := 96) (ls0 := [_]) rfl rfl rfl rfl rfl (mj_rcv_is (rd_sn rfl (rd_sn rfl (rd_sn rfl (rd_sn rfl (rd_app (rd_sn rfl (rd_sn rfl (rd_sn rfl (rd_sn rfl (rd_app (rd_app (rd_app (rd_sn rfl (rd_sn rfl (rd_sn rfl (rd_sn rfl (rd_sn rfl (rd_sn rfl (rd_sn rfl (rd_sn rfl (rd_sn rfl H410)))))))))))))))))))))) rfl rfl rfl ?_
  refine s_newz (p' := 3) (a := 418) rfl (len_s (len_s (len_s (len_s (len_a (len_s (len_s (len_s (len_s (len_a (len_a (len_a (len_s (len_s (len_s (len_s (len_s (len_s (len_s (len_s (len_s HL))))))))) rfl) rfl) rfl))))) rfl))))) rfl rfl ?_
  refine s_dupr (p' := 4) rfl rfl ?_
  refine s_aldn (p' := 5) rfl rfl rfl ?_
  refine c_call (p' := 8) (kc := 95) (ls0 := [_, _]) rfl rfl rfl rfl rfl (mj_rcv_is (rd_nw rfl (len_s (len_s (len_s (len_s (len_a (len_s (len_s (len_s (len_s (len_a (len_a (len_a (len_s (len_s (len_s (len_s (len_s (len_s (len_s (len_s (len_s HL))))))))) rfl) rfl) rfl))))) rfl))))))) rfl rfl rfl ?_
  refine s_aldn (p' := 1) rfl rfl rfl ?_
  refine s_aldn (p' := 2) rfl rfl rfl ?_
  refine s_pfz (p' := 5) (fs' := [_, _, _, _]) rfl rfl (rd_nw rfl (len_s (len_s (len_s (len_s (len_a (len_s (len_s (len_s (len_s (len_a (len_a (len_a (len_s (len_s (len_s (len_s (len_s (len_s (len_s (len_s (len_s HL))))))))) rfl) rfl) rfl))))) rfl)))))) rfl rfl rfl rfl ?_
  refine s_aldn (p' := 6) rfl rfl rfl ?_
  refine s_primN (p' := 9) (q := 3) rfl rfl rfl rfl rfl rfl rfl rfl ?_
  refine s_aldn (p' := 10) rfl rfl rfl ?_
  refine s_con (p' := 11) rfl rfl ?_
  refine s_pfz (p' := 14) (fs' := [_, _, _, _]) rfl rfl (rd_ss rfl (rd_nw rfl (len_s (len_s (len_s (len_s (len_a (len_s (len_s (len_s (len_s (len_a (len_a (len_a (len_s (len_s (len_s (len_s (len_s (len_s (len_s (len_s (len_s HL))))))))) rfl) rfl) rfl))))) rfl))))))) rfl rfl rfl rfl ?_
  refine s_aldn (p' := 15) rfl rfl rfl ?_
  refine s_aldn (p' := 16) rfl rfl rfl ?_
  refine s_gf (p' := 19) rfl (rd_ss rfl (rd_ss rfl (rd_nw rfl (len_s (len_s (len_s (len_s (len_a (len_s (len_s (len_s (len_s (len_a (len_a (len_a (len_s (len_s (len_s (len_s (len_s (len_s (len_s (len_s (len_s HL))))))))) rfl) rfl) rfl))))) rfl)))))))) rfl rfl ?_
  refine s_gf (p' := 22) rfl (rd_sn rfl (rd_sn rfl (rd_app (rd_sn rfl (rd_sn rfl (rd_sn rfl (rd_sn rfl (rd_app (rd_sn rfl (rd_sn rfl (rd_sn rfl (rd_sn rfl (rd_app (rd_app (rd_app (rd_sn rfl (rd_sn rfl (rd_sn rfl (rd_sn rfl (rd_sn rfl (rd_sn rfl (rd_sn rfl (rd_sn rfl (rd_sn rfl H410)))))))))))))))))))))))) rfl rfl ?_
  refine s_pfz (p' := 25) (fs' := [_, _, _, _]) rfl rfl (rd_ss rfl (rd_ss rfl (rd_nw rfl (len_s (len_s (len_s (len_s (len_a (len_s (len_s (len_s (len_s (len_a (len_a (len_a (len_s (len_s (len_s (len_s (len_s (len_s (len_s (len_s (len_s HL))))))))) rfl) rfl) rfl))))) rfl)))))))) rfl rfl rfl rfl ?_
  refine c_ret rfl ?_
  refine c_aret rfl ?_
  refine s_astn (p' := 12) (ls' := [_, _, _, _, _]) rfl rfl rfl rfl ?_
  refine s_aldn (p' := 13) rfl rfl rfl ?_
  refine c_call (p' := 18) (kc := 96) (ls0 := [_]) rfl rfl rfl rfl rfl (mj_rcv_is (rd_ss rfl (rd_ss rfl (rd_ss rfl (rd_nw rfl (len_s (len_s (len_s (len_s (len_a (len_s (len_s (len_s (len_s (len_a (len_a (len_a (len_s (len_s (len_s (len_s (len_s (len_s (len_s (len_s (len_s HL))))))))) rfl) rfl) rfl))))) rfl)))))))))) rfl rfl rfl ?_
  refine s_aldn (p' := 1) rfl rfl rfl ?_
  refine s_gf (p' := 4) rfl (rd_ss rfl (rd_ss rfl (rd_ss rfl (rd_nw rfl (len_s (len_s (len_s (len_s (len_a (len_s (len_s (len_s (len_s (len_a (len_a (len_a (len_s (len_s (len_s (len_s (len_s (len_s (len_s (len_s (len_s HL))))))))) rfl) rfl) rfl))))) rfl))))))))) rfl rfl ?_
  refine s_aldn (p' := 5) rfl rfl rfl ?_
  refine s_gf (p' := 8) rfl (rd_ss rfl (rd_ss rfl (rd_ss rfl (rd_nw rfl (len_s (len_s (len_s (len_s (len_a (len_s (len_s (len_s (len_s (len_a (len_a (len_a (len_s (len_s (len_s (len_s (len_s (len_s (len_s (len_s (len_s HL))))))))) rfl) rfl) rfl))))) rfl))))))))) rfl rfl ?_
  refine s_gf (p' := 11) rfl (rd_sn rfl (rd_sn rfl (rd_sn rfl (rd_app (rd_sn rfl (rd_sn rfl (rd_sn rfl (rd_sn rfl (rd_app (rd_sn rfl (rd_sn rfl (rd_sn rfl (rd_sn rfl (rd_app (rd_app (rd_app (rd_sn rfl (rd_sn rfl (rd_sn rfl (rd_sn rfl (rd_sn rfl (rd_sn rfl (rd_sn rfl (rd_sn rfl (rd_sn rfl H410))))))))))))))))))))))))) rfl rfl ?_
  refine s_icmp (p' := 18) true rfl (by decide +kernel) rfl ?_
  refine s_con (p' := 19) rfl rfl ?_
  refine c_iret rfl (by decide +kernel) ?_
  refine s_if (p' := 45) true rfl (by decide +kernel) rfl ?_
  refine s_ildn (p' := 46) rfl rfl rfl ?_
  refine c_iret rfl rfl ?_
  refine s_iasz (p' := 21) (m := 2) rfl rfl (rd_sn rfl (rd_sn rfl (rd_sn rfl (rd_app (rd_ss rfl (rd_sn rfl (rd_sn rfl (rd_sn rfl (rd_app (rd_ss rfl (rd_sn rfl (rd_sn rfl (rd_sn rfl (rd_app (rd_nw rfl (len_a (len_s (len_s (len_s (len_s (len_s (len_s (len_s (len_s (len_s HL))))))))) rfl)))))))))))))))) (by decide +kernel) rfl rfl rfl ?_
  refine s_incz (p' := 24) (w := (nI 3)) (ls' := [_, _, _, _, _, _, _, _]) rfl rfl rfl (by decide +kernel) rfl rfl ?_
  refine s_goto (p' := 7) rfl rfl ?_
  refine s_ildn (p' := 8) rfl rfl rfl ?_
  refine s_bip (p' := 10) rfl rfl ?_
  refine s_icmp (p' := 13) false rfl (by decide +kernel) rfl ?_
  refine s_aldn (p' := 14) rfl rfl rfl ?_
  refine s_ildn (p' := 15) rfl rfl rfl ?_
  refine s_aldn (p' := 16) rfl rfl rfl ?_
  refine s_ildn (p' := 17) rfl rfl rfl ?_
  refine c_call (p' := 20) (kc := 97) (ls0 := [_, _, _, _, _]) rfl rfl rfl rfl rfl (mj_rcv_is (rd_sn rfl (rd_sn rfl (rd_sn rfl (rd_sn rfl (rd_app (rd_sn rfl (rd_sn rfl (rd_sn rfl (rd_sn rfl (rd_app (rd_sn rfl (rd_sn rfl (rd_sn rfl (rd_sn rfl (rd_app (rd_app (rd_app (rd_sn rfl (rd_sn rfl (rd_sn rfl (rd_sn rfl (rd_sn rfl (rd_sn rfl (rd_sn rfl (rd_sn rfl (rd_sn rfl H400))))))))))))))))))))))))))) rfl rfl rfl ?_
  refine s_ildn (p' := 1) rfl rfl rfl ?_
  refine s_istn (p' := 2) (ls' := [_, _, _, _, _]) rfl rfl rfl rfl ?_
  refine s_aldn (p' := 3) rfl rfl rfl ?_
  refine s_gf (p' := 6) rfl (rd_sn rfl (rd_sn rfl (rd_sn rfl (rd_sn rfl (rd_app (rd_sn rfl (rd_sn rfl (rd_sn rfl (rd_sn rfl (rd_app (rd_sn rfl (rd_sn rfl (rd_sn rfl (rd_sn rfl (rd_app (rd_app (rd_app (rd_sn rfl (rd_sn rfl (rd_sn rfl (rd_sn rfl (rd_sn rfl (rd_sn rfl (rd_sn rfl (rd_sn rfl (rd_sn rfl H400)))))))))))))))))))))))))) rfl rfl ?_
  refine c_call (p' := 11) (kc := 96) (ls0 := [_]) rfl rfl rfl rfl rfl (mj_rcv_is (rd_sn rfl (rd_sn rfl (rd_sn rfl (rd_sn rfl (rd_app (rd_sn rfl (rd_sn rfl (rd_sn rfl (rd_sn rfl (rd_app (rd_sn rfl (rd_sn rfl (rd_sn rfl (rd_sn rfl (rd_app (rd_app (rd_app (rd_sn rfl (rd_sn rfl (rd_sn rfl (rd_sn rfl (rd_sn rfl (rd_sn rfl (rd_sn rfl (rd_sn rfl (rd_sn rfl H410))))))))))))))))))))))))))) rfl rfl rfl ?_
  refine s_newz (p' := 3) (a := 419) rfl (len_s (len_s (len_s (len_s (len_a (len_s (len_s (len_s (len_s (len_a (len_s (len_s (len_s (len_s (len_a (len_a (len_a (len_s (len_s (len_s (len_s (len_s (len_s (len_s (len_s (len_s HL))))))))) rfl) rfl) rfl))))) rfl))))) rfl))))) rfl rfl ?_
  refine s_dupr (p' := 4) rfl rfl ?_
  refine s_aldn (p' := 5) rfl rfl rfl ?_
  refine c_call (p' := 8) (kc := 95) (ls0 := [_, _]) rfl rfl rfl rfl rfl (mj_rcv_is (rd_nw rfl (len_s (len_s (len_s (len_s (len_a (len_s (len_s (len_s (len_s (len_a (len_s (len_s (len_s (len_s (len_a (len_a (len_a (len_s (len_s (len_s (len_s (len_s (len_s (len_s (len_s (len_s HL))))))))) rfl) rfl) rfl))))) rfl))))) rfl))))))) rfl rfl rfl ?_
  refine s_aldn (p' := 1) rfl rfl rfl ?_
  refine s_aldn (p' := 2) rfl rfl rfl ?_
  refine s_pfz (p' := 5) (fs' := [_, _, _, _]) rfl rfl (rd_nw rfl (len_s (len_s (len_s (len_s (len_a (len_s (len_s (len_s (len_s (len_a (len_s (len_s (len_s (len_s (len_a (len_a (len_a (len_s (len_s (len_s (len_s (len_s (len_s (len_s (len_s (len_s HL))))))))) rfl) rfl) rfl))))) rfl))))) rfl)))))) rfl rfl rfl rfl ?_
  refine s_aldn (p' := 6) rfl rfl rfl ?_
  refine s_primN (p' := 9) (q := 3) rfl rfl rfl rfl rfl rfl rfl rfl ?_
  refine s_aldn (p' := 10) rfl rfl rfl ?_
  refine s_con (p' := 11) rfl rfl ?_
  refine s_pfz (p' := 14) (fs' := [_, _, _, _]) rfl rfl (rd_ss rfl (rd_nw rfl (len_s (len_s (len_s (len_s (len_a (len_s (len_s (len_s (len_s (len_a (len_s (len_s (len_s (len_s (len_a (len_a (len_a (len_s (len_s (len_s (len_s (len_s (len_s (len_s (len_s (len_s HL))))))))) rfl) rfl) rfl))))) rfl))))) rfl))))))) rfl rfl rfl rfl ?_
  refine s_aldn (p' := 15) rfl rfl rfl ?_
  refine s_aldn (p' := 16) rfl rfl rfl ?_
  refine s_gf (p' := 19) rfl (rd_ss rfl (rd_ss rfl (rd_nw rfl (len_s (len_s (len_s (len_s (len_a (len_s (len_s (len_s (len_s (len_a (len_s (len_s (len_s (len_s (len_a (len_a (len_a (len_s (len_s (len_s (len_s (len_s (len_s (len_s (len_s (len_s HL))))))))) rfl) rfl) rfl))))) rfl))))) rfl)))))))) rfl rfl ?_
  refine s_gf (p' := 22) rfl (rd_sn rfl (rd_sn rfl (rd_app (rd_sn rfl (rd_sn rfl (rd_sn rfl (rd_sn rfl (rd_app (rd_sn rfl (rd_sn rfl (rd_sn rfl (rd_sn rfl (rd_app (rd_sn rfl (rd_sn rfl (rd_sn rfl (rd_sn rfl (rd_app (rd_app (rd_app (rd_sn rfl (rd_sn rfl (rd_sn rfl (rd_sn rfl (rd_sn rfl (rd_sn rfl (rd_sn rfl (rd_sn rfl (rd_sn rfl H410))))))))))))))))))))))))))))) rfl rfl ?_
  refine s_pfz (p' := 25) (fs' := [_, _, _, _]) rfl rfl (rd_ss rfl (rd_ss rfl (rd_nw rfl (len_s (len_s (len_s (len_s (len_a (len_s (len_s (len_s (len_s (len_a (len_s (len_s (len_s (len_s (len_a (len_a (len_a (len_s (len_s (len_s (len_s (len_s (len_s (len_s (len_s (len_s HL))))))))) rfl) rfl) rfl))))) rfl))))) rfl)))))))) rfl rfl rfl rfl ?_
  refine c_ret rfl ?_
  refine c_aret rfl ?_
  refine s_astn (p' := 12) (ls' := [_, _, _, _, _]) rfl rfl rfl rfl ?_
  refine s_aldn (p' := 13) rfl rfl rfl ?_
  refine c_call (p' := 18) (kc := 96) (ls0 := [_]) rfl rfl rfl rfl rfl (mj_rcv_is (rd_ss rfl (rd_ss rfl (rd_ss rfl (rd_nw rfl (len_s (len_s (len_s (len_s (len_a (len_s (len_s (len_s (len_s (len_a (len_s (len_s (len_s (len_s (len_a (len_a (len_a (len_s (len_s (len_s (len_s (len_s (len_s (len_s (len_s (len_s HL))))))))) rfl) rfl) rfl))))) rfl))))) rfl)))))))))) rfl rfl rfl ?_
  refine s_aldn (p' := 1) rfl rfl rfl ?_
  refine s_gf (p' := 4) rfl (rd_ss rfl (rd_ss rfl (rd_ss rfl (rd_nw rfl (len_s (len_s (len_s (len_s (len_a (len_s (len_s (len_s (len_s (len_a (len_s (len_s (len_s (len_s (len_a (len_a (len_a (len_s (len_s (len_s (len_s (len_s (len_s (len_s (len_s (len_s HL))))))))) rfl) rfl) rfl))))) rfl))))) rfl))))))))) rfl rfl ?_
  refine s_aldn (p' := 5) rfl rfl rfl ?_
  refine s_gf (p' := 8) rfl (rd_ss rfl (rd_ss rfl (rd_ss rfl (rd_nw rfl (len_s (len_s (len_s (len_s (len_a (len_s (len_s (len_s (len_s (len_a (len_s (len_s (len_s (len_s (len_a (len_a (len_a (len_s (len_s (len_s (len_s (len_s (len_s (len_s (len_s (len_s HL))))))))) rfl) rfl) rfl))))) rfl))))) rfl))))))))) rfl rfl ?_
  refine s_gf (p' := 11) rfl (rd_sn rfl (rd_sn rfl (rd_sn rfl (rd_app (rd_sn rfl (rd_sn rfl (rd_sn rfl (rd_sn rfl (rd_app (rd_sn rfl (rd_sn rfl (rd_sn rfl (rd_sn rfl (rd_app (rd_sn rfl (rd_sn rfl (rd_sn rfl (rd_sn rfl (rd_app (rd_app (rd_app (rd_sn rfl (rd_sn rfl (rd_sn rfl (rd_sn rfl (rd_sn rfl (rd_sn rfl (rd_sn rfl (rd_sn rfl (rd_sn rfl H410)))))))))))))))))))))))))))))) rfl rfl ?_
  refine s_icmp (p' := 18) true rfl (by decide +kernel) rfl ?_
  refine s_con (p' := 19) rfl rfl ?_
  refine c_iret rfl (by decide +kernel) ?_
  refine s_if (p' := 45) true rfl (by decide +kernel) rfl ?_
  refine s_ildn (p' := 46) rfl rfl rfl ?_
  refine c_iret rfl rfl ?_
  refine s_iasz (p' := 21) (m := 3) rfl rfl (rd_sn rfl (rd_sn rfl (rd_sn rfl (rd_app (rd_ss rfl (rd_sn rfl (rd_sn rfl (rd_sn rfl (rd_app (rd_ss rfl (rd_sn rfl (rd_sn rfl (rd_sn rfl (rd_app (rd_ss rfl (rd_sn rfl (rd_sn rfl (rd_sn rfl (rd_app (rd_nw rfl (len_a (len_s (len_s (len_s (len_s (len_s (len_s (len_s (len_s (len_s HL))))))))) rfl))))))))))))))))))))) (by decide +kernel) rfl rfl rfl ?_
  refine s_incz (p' := 24) (w := (nI 4)) (ls' := [_, _, _, _, _, _, _, _]) rfl rfl rfl (by decide +kernel) rfl rfl ?_
  refine s_goto (p' := 7) rfl rfl ?_
  refine s_ildn (p' := 8) rfl rfl rfl ?_
  refine s_bip (p' := 10) rfl rfl ?_
  refine s_icmp (p' := 13) false rfl (by decide +kernel) rfl ?_
  refine s_aldn (p' := 14) rfl rfl rfl ?_
  refine s_ildn (p' := 15) rfl rfl rfl ?_
  refine s_aldn (p' := 16) rfl rfl rfl ?_
  refine s_ildn (p' := 17) rfl rfl rfl ?_
  refine c_call (p' := 20) (kc := 97) (ls0 := [_, _, _, _, _]) rfl rfl rfl rfl rfl (mj_rcv_is (rd_sn rfl (rd_sn rfl (rd_sn rfl (rd_sn rfl (rd_app (rd_sn rfl (rd_sn rfl (rd_sn rfl (rd_sn rfl (rd_app (rd_sn rfl (rd_sn rfl (rd_sn rfl (rd_sn rfl (rd_app (rd_sn rfl (rd_sn rfl (rd_sn rfl (rd_sn rfl (rd_app (rd_app (rd_app (rd_sn rfl (rd_sn rfl (rd_sn rfl (rd_sn rfl (rd_sn rfl (rd_sn rfl (rd_sn rfl (rd_sn rfl (rd_sn rfl H400)))))))))))))))))))))))))))))))) rfl rfl rfl ?_
  refine s_ildn (p' := 1) rfl rfl rfl ?_
  refine s_istn (p' := 2) (ls' := [_, _, _, _, _]) rfl rfl rfl rfl ?_
  refine s_aldn (p' := 3) rfl rfl rfl ?_
  refine s_gf (p' := 6) rfl (rd_sn rfl (rd_sn rfl (rd_sn rfl (rd_sn rfl (rd_app (rd_sn rfl (rd_sn rfl (rd_sn rfl (rd_sn rfl (rd_app (rd_sn rfl (rd_sn rfl (rd_sn rfl (rd_sn rfl (rd_app (rd_sn rfl (rd_sn rfl (rd_sn rfl (rd_sn rfl (rd_app (rd_app (rd_app (rd_sn rfl (rd_sn rfl (rd_sn rfl (rd_sn rfl (rd_sn rfl (rd_sn rfl (rd_sn rfl (rd_sn rfl (rd_sn rfl H400))))))))))))))))))))))))))))))) rfl rfl ?_
  refine c_call (p' := 11) (kc := 96) (ls0 := [_]) rfl rfl rfl rfl rfl (mj_rcv_is (rd_sn rfl (rd_sn rfl (rd_sn rfl (rd_sn rfl (rd_app (rd_sn rfl (rd_sn rfl (rd_sn rfl (rd_sn rfl (rd_app (rd_sn rfl (rd_sn rfl (rd_sn rfl (rd_sn rfl (rd_app (rd_sn rfl (rd_sn rfl (rd_sn rfl (rd_sn rfl (rd_app (rd_app (rd_app (rd_sn rfl (rd_sn rfl (rd_sn rfl (rd_sn rfl (rd_sn rfl (rd_sn rfl (rd_sn rfl (rd_sn rfl (rd_sn rfl H410)))))))))))))))))))))))))))))))) rfl rfl rfl ?_
  refine s_newz (p' := 3) (a := 420) rfl (len_s (len_s (len_s (len_s (len_a (len_s (len_s (len_s (len_s (len_a (len_s (len_s (len_s (len_s (len_a (len_s (len_s (len_s (len_s (len_a (len_a (len_a (len_s (len_s (len_s (len_s (len_s (len_s (len_s (len_s (len_s HL))))))))) rfl) rfl) rfl))))) rfl))))) rfl))))) rfl))))) rfl rfl ?_
  refine s_dupr (p' := 4) rfl rfl ?_
  refine s_aldn (p' := 5) rfl rfl rfl ?_
  refine c_call (p' := 8) (kc := 95) (ls0 := [_, _]) rfl rfl rfl rfl rfl (mj_rcv_is (rd_nw rfl (len_s (len_s (len_s (len_s (len_a (len_s (len_s (len_s (len_s (len_a (len_s (len_s (len_s (len_s (len_a (len_s (len_s (len_s (len_s (len_a (len_a (len_a (len_s (len_s (len_s (len_s (len_s (len_s (len_s (len_s (len_s HL))))))))) rfl) rfl) rfl))))) rfl))))) rfl))))) rfl))))))) rfl rfl rfl ?_
  refine s_aldn (p' := 1) rfl rfl rfl ?_
  refine s_aldn (p' := 2) rfl rfl rfl ?_
  refine s_pfz (p' := 5) (fs' := [_, _, _, _]) rfl rfl (rd_nw rfl (len_s (len_s (len_s (len_s (len_a (len_s (len_s (len_s (len_s (len_a (len_s (len_s (len_s (len_s (len_a (len_s (len_s (len_s (len_s (len_a (len_a (len_a (len_s (len_s (len_s (len_s (len_s (len_s (len_s (len_s (len_s HL))))))))) rfl) rfl) rfl))))) rfl))))) rfl))))) rfl)))))) rfl rfl rfl rfl ?_
  refine s_aldn (p' := 6) rfl rfl rfl ?_
  refine s_primN (p' := 9) (q := 3) rfl rfl rfl rfl rfl rfl rfl rfl ?_
  refine s_aldn (p' := 10) rfl rfl rfl ?_
  refine s_con (p' := 11) rfl rfl ?_
  refine s_pfz (p' := 14) (fs' := [_, _, _, _]) rfl rfl (rd_ss rfl (rd_nw rfl (len_s (len_s (len_s (len_s (len_a (len_s (len_s (len_s (len_s (len_a (len_s (len_s (len_s (len_s (len_a (len_s (len_s (len_s (len_s (len_a (len_a (len_a (len_s (len_s (len_s (len_s (len_s (len_s (len_s (len_s (len_s HL))))))))) rfl) rfl) rfl))))) rfl))))) rfl))))) rfl))))))) rfl rfl rfl rfl ?_
  refine s_aldn (p' := 15) rfl rfl rfl ?_
  refine s_aldn (p' := 16) rfl rfl rfl ?_
  refine s_gf (p' := 19) rfl (rd_ss rfl (rd_ss rfl (rd_nw rfl (len_s (len_s (len_s (len_s (len_a (len_s (len_s (len_s (len_s (len_a (len_s (len_s (len_s (len_s (len_a (len_s (len_s (len_s (len_s (len_a (len_a (len_a (len_s (len_s (len_s (len_s (len_s (len_s (len_s (len_s (len_s HL))))))))) rfl) rfl) rfl))))) rfl))))) rfl))))) rfl)))))))) rfl rfl ?_
  refine s_gf (p' := 22) rfl (rd_sn rfl (rd_sn rfl (rd_app (rd_sn rfl (rd_sn rfl (rd_sn rfl (rd_sn rfl (rd_app (rd_sn rfl (rd_sn rfl (rd_sn rfl (rd_sn rfl (rd_app (rd_sn rfl (rd_sn rfl (rd_sn rfl (rd_sn rfl (rd_app (rd_sn rfl (rd_sn rfl (rd_sn rfl (rd_sn rfl (rd_app (rd_app (rd_app (rd_sn rfl (rd_sn rfl (rd_sn rfl (rd_sn rfl (rd_sn rfl (rd_sn rfl (rd_sn rfl (rd_sn rfl (rd_sn rfl H410)))))))))))))))))))))))))))))))))) rfl rfl ?_
  refine s_pfz (p' := 25) (fs' := [_, _, _, _]) rfl rfl (rd_ss rfl (rd_ss rfl (rd_nw rfl (len_s (len_s (len_s (len_s (len_a (len_s (len_s (len_s (len_s (len_a (len_s (len_s (len_s (len_s (len_a (len_s (len_s (len_s (len_s (len_a (len_a (len_a (len_s (len_s (len_s (len_s (len_s (len_s (len_s (len_s (len_s HL))))))))) rfl) rfl) rfl))))) rfl))))) rfl))))) rfl)))))))) rfl rfl rfl rfl ?_
  refine c_ret rfl ?_
  refine c_aret rfl ?_
  refine s_astn (p' := 12) (ls' := [_, _, _, _, _]) rfl rfl rfl rfl ?_
  refine s_aldn (p' := 13) rfl rfl rfl ?_
  refine c_call (p' := 18) (kc := 96) (ls0 := [_]) rfl rfl rfl rfl rfl (mj_rcv_is (rd_ss rfl (rd_ss rfl (rd_ss rfl (rd_nw rfl (len_s (len_s (len_s (len_s (len_a (len_s (len_s (len_s (len_s (len_a (len_s (len_s (len_s (len_s (len_a (len_s (len_s (len_s (len_s (len_a (len_a (len_a (len_s (len_s (len_s (len_s (len_s (len_s (len_s (len_s (len_s HL))))))))) rfl) rfl) rfl))))) rfl))))) rfl))))) rfl)))))))))) rfl rfl rfl ?_
  refine s_aldn (p' := 1) rfl rfl rfl ?_
  refine s_gf (p' := 4) rfl (rd_ss rfl (rd_ss rfl (rd_ss rfl (rd_nw rfl (len_s (len_s (len_s (len_s (len_a (len_s (len_s (len_s (len_s (len_a (len_s (len_s (len_s (len_s (len_a (len_s (len_s (len_s (len_s (len_a (len_a (len_a (len_s (len_s (len_s (len_s (len_s (len_s (len_s (len_s (len_s HL))))))))) rfl) rfl) rfl))))) rfl))))) rfl))))) rfl))))))))) rfl rfl ?_
  refine s_aldn (p' := 5) rfl rfl rfl ?_
  refine s_gf (p' := 8) rfl (rd_ss rfl (rd_ss rfl (rd_ss rfl (rd_nw rfl (len_s (len_s (len_s (len_s (len_a (len_s (len_s (len_s (len_s (len_a (len_s (len_s (len_s (len_s (len_a (len_s (len_s (len_s (len_s (len_a (len_a (len_a (len_s (len_s (len_s (len_s (len_s (len_s (len_s (len_s (len_s HL))))))))) rfl) rfl) rfl))))) rfl))))) rfl))))) rfl))))))))) rfl rfl ?_
  refine s_gf (p' := 11) rfl (rd_sn rfl (rd_sn rfl (rd_sn rfl (rd_app (rd_sn rfl (rd_sn rfl (rd_sn rfl (rd_sn rfl (rd_app (rd_sn rfl (rd_sn rfl (rd_sn rfl (rd_sn rfl (rd_app (rd_sn rfl (rd_sn rfl (rd_sn rfl (rd_sn rfl (rd_app (rd_sn rfl (rd_sn rfl (rd_sn rfl (rd_sn rfl (rd_app (rd_app (rd_app (rd_sn rfl (rd_sn rfl (rd_sn rfl (rd_sn rfl (rd_sn rfl (rd_sn rfl (rd_sn rfl (rd_sn rfl (rd_sn rfl H410))))))))))))))))))))))))))))))))))) rfl rfl ?_
  refine s_icmp (p' := 18) true rfl (by decide +kernel) rfl ?_
  refine s_con (p' := 19) rfl rfl ?_
  refine c_iret rfl (by decide +kernel) ?_
  refine s_if (p' := 45) true rfl (by decide +kernel) rfl ?_
  refine s_ildn (p' := 46) rfl rfl rfl ?_
  refine c_iret rfl rfl ?_
  refine s_iasz (p' := 21) (m := 4) rfl rfl (rd_sn rfl (rd_sn rfl (rd_sn rfl (rd_app (rd_ss rfl (rd_sn rfl (rd_sn rfl (rd_sn rfl (rd_app (rd_ss rfl (rd_sn rfl (rd_sn rfl (rd_sn rfl (rd_app (rd_ss rfl (rd_sn rfl (rd_sn rfl (rd_sn rfl (rd_app (rd_ss rfl (rd_sn rfl (rd_sn rfl (rd_sn rfl (rd_app (rd_nw rfl (len_a (len_s (len_s (len_s (len_s (len_s (len_s (len_s (len_s (len_s HL))))))))) rfl)))))))))))))))))))))))))) (by decide +kernel) rfl rfl rfl ?_
  refine s_incz (p' := 24) (w := (nI 5)) (ls' := [_, _, _, _, _, _, _, _]) rfl rfl rfl (by decide +kernel) rfl rfl ?_
  refine s_goto (p' := 7) rfl rfl ?_
  refine s_ildn (p' := 8) rfl rfl rfl ?_
  refine s_bip (p' := 10) rfl rfl ?_
  refine s_icmp (p' := 13) false rfl (by decide +kernel) rfl ?_
  refine s_aldn (p' := 14) rfl rfl rfl ?_
  refine s_ildn (p' := 15) rfl rfl rfl ?_
  refine s_aldn (p' := 16) rfl rfl rfl ?_
  refine s_ildn (p' := 17) rfl rfl rfl ?_
  refine c_call (p' := 20) (kc := 97) (ls0 := [_, _, _, _, _]) rfl rfl rfl rfl rfl (mj_rcv_is (rd_sn rfl (rd_sn rfl (rd_sn rfl (rd_sn rfl (rd_app (rd_sn rfl (rd_sn rfl (rd_sn rfl (rd_sn rfl (rd_app (rd_sn rfl (rd_sn rfl (rd_sn rfl (rd_sn rfl (rd_app (rd_sn rfl (rd_sn rfl (rd_sn rfl (rd_sn rfl (rd_app (rd_sn rfl (rd_sn rfl (rd_sn rfl (rd_sn rfl (rd_app (rd_app (rd_app (rd_sn rfl (rd_sn rfl (rd_sn rfl (rd_sn rfl (rd_sn rfl (rd_sn rfl (rd_sn rfl (rd_sn rfl (rd_sn rfl H400))))))))))))))))))))))))))))))))))))) rfl rfl rfl ?_
  refine s_ildn (p' := 1) rfl rfl rfl ?_
  refine s_istn (p' := 2) (ls' := [_, _, _, _, _]) rfl rfl rfl rfl ?_
  refine s_aldn (p' := 3) rfl rfl rfl ?_
  refine s_gf (p' := 6) rfl (rd_sn rfl (rd_sn rfl (rd_sn rfl (rd_sn rfl (rd_app (rd_sn rfl (rd_sn rfl (rd_sn rfl (rd_sn rfl (rd_app (rd_sn rfl (rd_sn rfl (rd_sn rfl (rd_sn rfl (rd_app (rd_sn rfl (rd_sn rfl (rd_sn rfl (rd_sn rfl (rd_app (rd_sn rfl (rd_sn rfl (rd_sn rfl (rd_sn rfl (rd_app (rd_app (rd_app (rd_sn rfl (rd_sn rfl (rd_sn rfl (rd_sn rfl (rd_sn rfl (rd_sn rfl (rd_sn rfl (rd_sn rfl (rd_sn rfl H400)))))))))))))))))))))))))))))))))))) rfl rfl ?_
  refine c_call (p' := 11) (kc := 96) (ls0 := [_]) rfl rfl rfl rfl rfl (mj_rcv_is (rd_sn rfl (rd_sn rfl (rd_sn rfl (rd_sn rfl (rd_app (rd_sn rfl (rd_sn rfl (rd_sn rfl (rd_sn rfl (rd_app (rd_sn rfl (rd_sn rfl (rd_sn rfl (rd_sn rfl (rd_app (rd_sn rfl (rd_sn rfl (rd_sn rfl (rd_sn rfl (rd_app (rd_sn rfl (rd_sn rfl (rd_sn rfl (rd_sn rfl (rd_app (rd_app (rd_app (rd_sn rfl (rd_sn rfl (rd_sn rfl (rd_sn rfl (rd_sn rfl (rd_sn rfl (rd_sn rfl (rd_sn rfl (rd_sn rfl H410))))))))))))))))))))))))))))))))))))) rfl rfl rfl ?_
  refine s_newz (p' := 3) (a := 421) rfl (len_s (len_s (len_s (len_s (len_a (len_s (len_s (len_s (len_s (len_a (len_s (len_s (len_s (len_s (len_a (len_s (len_s (len_s (len_s (len_a (len_s (len_s (len_s (len_s (len_a (len_a (len_a (len_s (len_s (len_s (len_s (len_s (len_s (len_s (len_s (len_s HL))))))))) rfl) rfl) rfl))))) rfl))))) rfl))))) rfl))))) rfl))))) rfl rfl ?_
  refine s_dupr (p' := 4) rfl rfl ?_
  refine s_aldn (p' := 5) rfl rfl rfl ?_
  refine c_call (p' := 8) (kc := 95) (ls0 := [_, _]) rfl rfl rfl rfl rfl (mj_rcv_is (rd_nw rfl (len_s (len_s (len_s (len_s (len_a (len_s (len_s (len_s (len_s (len_a (len_s (len_s (len_s (len_s (len_a (len_s (len_s (len_s (len_s (len_a (len_s (len_s (len_s (len_s (len_a (len_a (len_a (len_s (len_s (len_s (len_s (len_s (len_s (len_s (len_s (len_s HL))))))))) rfl) rfl) rfl))))) rfl))))) rfl))))) rfl))))) rfl))))))) rfl rfl rfl ?_
  refine s_aldn (p' := 1) rfl rfl rfl ?_
  refine s_aldn (p' := 2) rfl rfl rfl ?_
  refine s_pfz (p' := 5) (fs' := [_, _, _, _]) rfl rfl (rd_nw rfl (len_s (len_s (len_s (len_s (len_a (len_s (len_s (len_s (len_s (len_a (len_s (len_s (len_s (len_s (len_a (len_s (len_s (len_s (len_s (len_a (len_s (len_s (len_s (len_s (len_a (len_a (len_a (len_s (len_s (len_s (len_s (len_s (len_s (len_s (len_s (len_s HL))))))))) rfl) rfl) rfl))))) rfl))))) rfl))))) rfl))))) rfl)))))) rfl rfl rfl rfl ?_
  refine s_aldn (p' := 6) rfl rfl rfl ?_
  refine s_primN (p' := 9) (q := 3) rfl rfl rfl rfl rfl rfl rfl rfl ?_
  refine s_aldn (p' := 10) rfl rfl rfl ?_
  refine s_con (p' := 11) rfl rfl ?_
  refine s_pfz (p' := 14) (fs' := [_, _, _, _]) rfl rfl (rd_ss rfl (rd_nw rfl (len_s (len_s (len_s (len_s (len_a (len_s (len_s (len_s (len_s (len_a (len_s (len_s (len_s (len_s (len_a (len_s (len_s (len_s (len_s (len_a (len_s (len_s (len_s (len_s (len_a (len_a (len_a (len_s (len_s (len_s (len_s (len_s (len_s (len_s (len_s (len_s HL))))))))) rfl) rfl) rfl))))) rfl))))) rfl))))) rfl))))) rfl))))))) rfl rfl rfl rfl ?_
  refine s_aldn (p' := 15) rfl rfl rfl ?_
  refine s_aldn (p' := 16) rfl rfl rfl ?_
  refine s_gf (p' := 19) rfl (rd_ss rfl (rd_ss rfl (rd_nw rfl (len_s (len_s (len_s (len_s (len_a (len_s (len_s (len_s (len_s (len_a (len_s (len_s (len_s (len_s (len_a (len_s (len_s (len_s (len_s (len_a (len_s (len_s (len_s (len_s (len_a (len_a (len_a (len_s (len_s (len_s (len_s (len_s (len_s (len_s (len_s (len_s HL))))))))) rfl) rfl) rfl))))) rfl))))) rfl))))) rfl))))) rfl)))))))) rfl rfl ?_
  refine s_gf (p' := 22) rfl (rd_sn rfl (rd_sn rfl (rd_app (rd_sn rfl (rd_sn rfl (rd_sn rfl (rd_sn rfl (rd_app (rd_sn rfl (rd_sn rfl (rd_sn rfl (rd_sn rfl (rd_app (rd_sn rfl (rd_sn rfl (rd_sn rfl (rd_sn rfl (rd_app (rd_sn rfl (rd_sn rfl (rd_sn rfl (rd_sn rfl (rd_app (rd_sn rfl (rd_sn rfl (rd_sn rfl (rd_sn rfl (rd_app (rd_app (rd_app (rd_sn rfl (rd_sn rfl (rd_sn rfl (rd_sn rfl (rd_sn rfl (rd_sn rfl (rd_sn rfl (rd_sn rfl (rd_sn rfl H410))))))))))))))))))))))))))))))))))))))) rfl rfl ?_
  refine s_pfz (p' := 25) (fs' := [_, _, _, _]) rfl rfl (rd_ss rfl (rd_ss rfl (rd_nw rfl (len_s (len_s (len_s (len_s (len_a (len_s (len_s (len_s (len_s (len_a (len_s (len_s (len_s (len_s (len_a (len_s (len_s (len_s (len_s (len_a (len_s (len_s (len_s (len_s (len_a (len_a (len_a (len_s (len_s (len_s (len_s (len_s (len_s (len_s (len_s (len_s HL))))))))) rfl) rfl) rfl))))) rfl))))) rfl))))) rfl))))) rfl)))))))) rfl rfl rfl rfl ?_
  refine c_ret rfl ?_
  refine c_aret rfl ?_
  refine s_astn (p' := 12) (ls' := [_, _, _, _, _]) rfl rfl rfl rfl ?_
  refine s_aldn (p' := 13) rfl rfl rfl ?_
  refine c_call (p' := 18) (kc := 96) (ls0 := [_]) rfl rfl rfl rfl rfl (mj_rcv_is (rd_ss rfl (rd_ss rfl (rd_ss rfl (rd_nw rfl (len_s (len_s (len_s (len_s (len_a (len_s (len_s (len_s (len_s (len_a (len_s (len_s (len_s (len_s (len_a (len_s (len_s (len_s (len_s (len_a (len_s (len_s (len_s (len_s (len_a (len_a (len_a (len_s (len_s (len_s (len_s (len_s (len_s (len_s (len_s (len_s HL))))))))) rfl) rfl) rfl))))) rfl))))) rfl))))) rfl))))) rfl)))))))))) rfl rfl rfl ?_
  refine s_aldn (p' := 1) rfl rfl rfl ?_
  refine s_gf (p' := 4) rfl (rd_ss rfl (rd_ss rfl (rd_ss rfl (rd_nw rfl (len_s (len_s (len_s (len_s (len_a (len_s (len_s (len_s (len_s (len_a (len_s (len_s (len_s (len_s (len_a (len_s (len_s (len_s (len_s (len_a (len_s (len_s (len_s (len_s (len_a (len_a (len_a (len_s (len_s (len_s (len_s (len_s (len_s (len_s (len_s (len_s HL))))))))) rfl) rfl) rfl))))) rfl))))) rfl))))) rfl))))) rfl))))))))) rfl rfl ?_
  refine s_aldn (p' := 5) rfl rfl rfl ?_
  refine s_gf (p' := 8) rfl (rd_ss rfl (rd_ss rfl (rd_ss rfl (rd_nw rfl (len_s (len_s (len_s (len_s (len_a (len_s (len_s (len_s (len_s (len_a (len_s (len_s (len_s (len_s (len_a (len_s (len_s (len_s (len_s (len_a (len_s (len_s (len_s (len_s (len_a (len_a (len_a (len_s (len_s (len_s (len_s (len_s (len_s (len_s (len_s (len_s HL))))))))) rfl) rfl) rfl))))) rfl))))) rfl))))) rfl))))) rfl))))))))) rfl rfl ?_
  refine s_gf (p' := 11) rfl (rd_sn rfl (rd_sn rfl (rd_sn rfl (rd_app (rd_sn rfl (rd_sn rfl (rd_sn rfl (rd_sn rfl (rd_app (rd_sn rfl (rd_sn rfl (rd_sn rfl (rd_sn rfl (rd_app (rd_sn rfl (rd_sn rfl (rd_sn rfl (rd_sn rfl (rd_app (rd_sn rfl (rd_sn rfl (rd_sn rfl (rd_sn rfl (rd_app (rd_sn rfl (rd_sn rfl (rd_sn rfl (rd_sn rfl (rd_app (rd_app (rd_app (rd_sn rfl (rd_sn rfl (rd_sn rfl (rd_sn rfl (rd_sn rfl (rd_sn rfl (rd_sn rfl (rd_sn rfl (rd_sn rfl H410)))))))))))))))))))))))))))))))))))))))) rfl rfl ?_
  refine s_icmp (p' := 18) true rfl (by decide +kernel) rfl ?_
  refine s_con (p' := 19) rfl rfl ?_
  refine c_iret rfl (by decide +kernel) ?_
  refine s_if (p' := 45) true rfl (by decide +kernel) rfl ?_
  refine s_ildn (p' := 46) rfl rfl rfl ?_
  refine c_iret rfl rfl ?_
  refine s_iasz (p' := 21) (m := 5) rfl rfl (rd_sn rfl (rd_sn rfl (rd_sn rfl (rd_app (rd_ss rfl (rd_sn rfl (rd_sn rfl (rd_sn rfl (rd_app (rd_ss rfl (rd_sn rfl (rd_sn rfl (rd_sn rfl (rd_app (rd_ss rfl (rd_sn rfl (rd_sn rfl (rd_sn rfl (rd_app (rd_ss rfl (rd_sn rfl (rd_sn rfl (rd_sn rfl (rd_app (rd_ss rfl (rd_sn rfl (rd_sn rfl (rd_sn rfl (rd_app (rd_nw rfl (len_a (len_s (len_s (len_s (len_s (len_s (len_s (len_s (len_s (len_s HL))))))))) rfl))))))))))))))))))))))))))))))) (by decide +kernel) rfl rfl rfl ?_
  refine s_incz (p' := 24) (w := (nI 6)) (ls' := [_, _, _, _, _, _, _, _]) rfl rfl rfl (by decide +kernel) rfl rfl ?_
  refine s_goto (p' := 7) rfl rfl ?_
  refine s_ildn (p' := 8) rfl rfl rfl ?_
  refine s_bip (p' := 10) rfl rfl ?_
  refine s_icmp (p' := 13) false rfl (by decide +kernel) rfl ?_
  refine s_aldn (p' := 14) rfl rfl rfl ?_
  refine s_ildn (p' := 15) rfl rfl rfl ?_
  refine s_aldn (p' := 16) rfl rfl rfl ?_
  refine s_ildn (p' := 17) rfl rfl rfl ?_
  refine c_call (p' := 20) (kc := 97) (ls0 := [_, _, _, _, _]) rfl rfl rfl rfl rfl (mj_rcv_is (rd_sn rfl (rd_sn rfl (rd_sn rfl (rd_sn rfl (rd_app (rd_sn rfl (rd_sn rfl (rd_sn rfl (rd_sn rfl (rd_app (rd_sn rfl (rd_sn rfl (rd_sn rfl (rd_sn rfl (rd_app (rd_sn rfl (rd_sn rfl (rd_sn rfl (rd_sn rfl (rd_app (rd_sn rfl (rd_sn rfl (rd_sn rfl (rd_sn rfl (rd_app (rd_sn rfl (rd_sn rfl (rd_sn rfl (rd_sn rfl (rd_app (rd_app (rd_app (rd_sn rfl (rd_sn rfl (rd_sn rfl (rd_sn rfl (rd_sn rfl (rd_sn rfl (rd_sn rfl (rd_sn rfl (rd_sn rfl H400)))))))))))))))))))))))))))))))))))))))))) rfl rfl rfl ?_
  refine s_ildn (p' := 1) rfl rfl rfl ?_
  refine s_istn (p' := 2) (ls' := [_, _, _, _, _]) rfl rfl rfl rfl ?_
  refine s_aldn (p' := 3) rfl rfl rfl ?_
  refine s_gf (p' := 6) rfl (rd_sn rfl (rd_sn rfl (rd_sn rfl (rd_sn rfl (rd_app (rd_sn rfl (rd_sn rfl (rd_sn rfl (rd_sn rfl (rd_app (rd_sn rfl (rd_sn rfl (rd_sn rfl (rd_sn rfl (rd_app (rd_sn rfl (rd_sn rfl (rd_sn rfl (rd_sn rfl (rd_app (rd_sn rfl (rd_sn rfl (rd_sn rfl (rd_sn rfl (rd_app (rd_sn rfl (rd_sn rfl (rd_sn rfl (rd_sn rfl (rd_app (rd_app (rd_app (rd_sn rfl (rd_sn rfl (rd_sn rfl (rd_sn rfl (rd_sn rfl (rd_sn rfl (rd_sn rfl (rd_sn rfl (rd_sn rfl H400))))))))))))))))))))))))))))))))))))))))) rfl rfl ?_
  refine c_call (p' := 11) (kc := 96) (ls0 := [_]) rfl rfl rfl rfl rfl (mj_rcv_is (rd_sn rfl (rd_sn rfl (rd_sn rfl (rd_sn rfl (rd_app (rd_sn rfl (rd_sn rfl (rd_sn rfl (rd_sn rfl (rd_app (rd_sn rfl (rd_sn rfl (rd_sn rfl (rd_sn rfl (rd_app (rd_sn rfl (rd_sn rfl (rd_sn rfl (rd_sn rfl (rd_app (rd_sn rfl (rd_sn rfl (rd_sn rfl (rd_sn rfl (rd_app (rd_sn rfl (rd_sn rfl (rd_sn rfl (rd_sn rfl (rd_app (rd_app (rd_app (rd_sn rfl (rd_sn rfl (rd_sn rfl (rd_sn rfl (rd_sn rfl (rd_sn rfl (rd_sn rfl (rd_sn rfl (rd_sn rfl H410)))))))))))))))))))))))))))))))))))))))))) rfl rfl rfl ?_
  refine s_newz (p' := 3) (a := 422) rfl (len_s (len_s (len_s (len_s (len_a (len_s (len_s (len_s (len_s (len_a (len_s (len_s (len_s (len_s (len_a (len_s (len_s (len_s (len_s (len_a (len_s (len_s (len_s (len_s (len_a (len_s (len_s (len_s (len_s (len_a (len_a (len_a (len_s (len_s (len_s (len_s (len_s (len_s (len_s (len_s (len_s HL))))))))) rfl) rfl) rfl))))) rfl))))) rfl))))) rfl))))) rfl))))) rfl))))) rfl rfl ?_
  refine s_dupr (p' := 4) rfl rfl ?_
  refine s_aldn (p' := 5) rfl rfl rfl ?_
  refine c_call (p' := 8) (kc := 95) (ls0 := [_, _]) rfl rfl rfl rfl rfl (mj_rcv_is (rd_nw rfl (len_s (len_s (len_s (len_s (len_a (len_s (len_s (len_s (len_s (len_a (len_s (len_s (len_s (len_s (len_a (len_s (len_s (len_s (len_s (len_a (len_s (len_s (len_s (len_s (len_a (len_s (len_s (len_s (len_s (len_a (len_a (len_a (len_s (len_s (len_s (len_s (len_s (len_s (len_s (len_s (len_s HL))))))))) rfl) rfl) rfl))))) rfl))))) rfl))))) rfl))))) rfl))))) rfl))))))) rfl rfl rfl ?_
  refine s_aldn (p' := 1) rfl rfl rfl ?_
  refine s_aldn (p' := 2) rfl rfl rfl ?_
  refine s_pfz (p' := 5) (fs' := [_, _, _, _]) rfl rfl (rd_nw rfl (len_s (len_s (len_s (len_s (len_a (len_s (len_s (len_s (len_s (len_a (len_s (len_s (len_s (len_s (len_a (len_s (len_s (len_s (len_s (len_a (len_s (len_s (len_s (len_s (len_a (len_s (len_s (len_s (len_s (len_a (len_a (len_a (len_s (len_s (len_s (len_s (len_s (len_s (len_s (len_s (len_s HL))))))))) rfl) rfl) rfl))))) rfl))))) rfl))))) rfl))))) rfl))))) rfl)))))) rfl rfl rfl rfl ?_
  refine s_aldn (p' := 6) rfl rfl rfl ?_
  refine s_primN (p' := 9) (q := 3) rfl rfl rfl rfl rfl rfl rfl rfl ?_
  refine s_aldn (p' := 10) rfl rfl rfl ?_
  refine s_con (p' := 11) rfl rfl ?_
  refine s_pfz (p' := 14) (fs' := [_, _, _, _]) rfl rfl (rd_ss rfl (rd_nw rfl (len_s (len_s (len_s (len_s (len_a (len_s (len_s (len_s (len_s (len_a (len_s (len_s (len_s (len_s (len_a (len_s (len_s (len_s (len_s (len_a (len_s (len_s (len_s (len_s (len_a (len_s (len_s (len_s (len_s (len_a (len_a (len_a (len_s (len_s (len_s (len_s (len_s (len_s (len_s (len_s (len_s HL))))))))) rfl) rfl) rfl))))) rfl))))) rfl))))) rfl))))) rfl))))) rfl))))))) rfl rfl rfl rfl ?_
  refine s_aldn (p' := 15) rfl rfl rfl ?_
  refine s_aldn (p' := 16) rfl rfl rfl ?_
  refine s_gf (p' := 19) rfl (rd_ss rfl (rd_ss rfl (rd_nw rfl (len_s (len_s (len_s (len_s (len_a (len_s (len_s (len_s (len_s (len_a (len_s (len_s (len_s (len_s (len_a (len_s (len_s (len_s (len_s (len_a (len_s (len_s (len_s (len_s (len_a (len_s (len_s (len_s (len_s (len_a (len_a (len_a (len_s (len_s (len_s (len_s (len_s (len_s (len_s (len_s (len_s HL))))))))) rfl) rfl) rfl))))) rfl))))) rfl))))) rfl))))) rfl))))) rfl)))))))) rfl rfl ?_
  refine s_gf (p' := 22) rfl (rd_sn rfl (rd_sn rfl (rd_app (rd_sn rfl (rd_sn rfl (rd_sn rfl (rd_sn rfl (rd_app (rd_sn rfl (rd_sn rfl (rd_sn rfl (rd_sn rfl (rd_app (rd_sn rfl (rd_sn rfl (rd_sn rfl (rd_sn rfl (rd_app (rd_sn rfl (rd_sn rfl (rd_sn rfl (rd_sn rfl (rd_app (rd_sn rfl (rd_sn rfl (rd_sn rfl (rd_sn rfl (rd_app (rd_sn rfl (rd_sn rfl (rd_sn rfl (rd_sn rfl (rd_app (rd_app (rd_app (rd_sn rfl (rd_sn rfl (rd_sn rfl (rd_sn rfl (rd_sn rfl (rd_sn rfl (rd_sn rfl (rd_sn rfl (rd_sn rfl H410)))))))))))))))))))))))))))))))))))))))))))) rfl rfl ?_
  refine s_pfz (p' := 25) (fs' := [_, _, _, _]) rfl rfl (rd_ss rfl (rd_ss rfl (rd_nw rfl (len_s (len_s (len_s (len_s (len_a (len_s (len_s (len_s (len_s (len_a (len_s (len_s (len_s (len_s (len_a (len_s (len_s (len_s (len_s (len_a (len_s (len_s (len_s (len_s (len_a (len_s (len_s (len_s (len_s (len_a (len_a (len_a (len_s (len_s (len_s (len_s (len_s (len_s (len_s (len_s (len_s HL))))))))) rfl) rfl) rfl))))) rfl))))) rfl))))) rfl))))) rfl))))) rfl)))))))) rfl rfl rfl rfl ?_
  refine c_ret rfl ?_
  refine c_aret rfl ?_
  refine s_astn (p' := 12) (ls' := [_, _, _, _, _]) rfl rfl rfl rfl ?_
  refine s_aldn (p' := 13) rfl rfl rfl ?_
  refine c_call (p' := 18) (kc := 96) (ls0 := [_]) rfl rfl rfl rfl rfl (mj_rcv_is (rd_ss rfl (rd_ss rfl (rd_ss rfl (rd_nw rfl (len_s (len_s (len_s (len_s (len_a (len_s (len_s (len_s (len_s (len_a (len_s (len_s (len_s (len_s (len_a (len_s (len_s (len_s (len_s (len_a (len_s (len_s (len_s (len_s (len_a (len_s (len_s (len_s (len_s (len_a (len_a (len_a (len_s (len_s (len_s (len_s (len_s (len_s (len_s (len_s (len_s HL))))))))) rfl) rfl) rfl))))) rfl))))) rfl))))) rfl))))) rfl))))) rfl)))))))))) rfl rfl rfl ?_
  refine s_aldn (p' := 1) rfl rfl rfl ?_
  refine s_gf (p' := 4) rfl (rd_ss rfl (rd_ss rfl (rd_ss rfl (rd_nw rfl (len_s (len_s (len_s (len_s (len_a (len_s (len_s (len_s (len_s (len_a (len_s (len_s (len_s (len_s (len_a (len_s (len_s (len_s (len_s (len_a (len_s (len_s (len_s (len_s (len_a (len_s (len_s (len_s (len_s (len_a (len_a (len_a (len_s (len_s (len_s (len_s (len_s (len_s (len_s (len_s (len_s HL))))))))) rfl) rfl) rfl))))) rfl))))) rfl))))) rfl))))) rfl))))) rfl))))))))) rfl rfl ?_
  refine s_aldn (p' := 5) rfl rfl rfl ?_
  refine s_gf (p' := 8) rfl (rd_ss rfl (rd_ss rfl (rd_ss rfl (rd_nw rfl (len_s (len_s (len_s (len_s (len_a (len_s (len_s (len_s (len_s (len_a (len_s (len_s (len_s (len_s (len_a (len_s (len_s (len_s (len_s (len_a (len_s (len_s (len_s (len_s (len_a (len_s (len_s (len_s (len_s (len_a (len_a (len_a (len_s (len_s (len_s (len_s (len_s (len_s (len_s (len_s (len_s HL))))))))) rfl) rfl) rfl))))) rfl))))) rfl))))) rfl))))) rfl))))) rfl))))))))) rfl rfl ?_
  refine s_gf (p' := 11) rfl (rd_sn rfl (rd_sn rfl (rd_sn rfl (rd_app (rd_sn rfl (rd_sn rfl (rd_sn rfl (rd_sn rfl (rd_app (rd_sn rfl (rd_sn rfl (rd_sn rfl (rd_sn rfl (rd_app (rd_sn rfl (rd_sn rfl (rd_sn rfl (rd_sn rfl (rd_app (rd_sn rfl (rd_sn rfl (rd_sn rfl (rd_sn rfl (rd_app (rd_sn rfl (rd_sn rfl (rd_sn rfl (rd_sn rfl (rd_app (rd_sn rfl (rd_sn rfl (rd_sn rfl (rd_sn rfl (rd_app (rd_app (rd_app (rd_sn rfl (rd_sn rfl (rd_sn rfl (rd_sn rfl (rd_sn rfl (rd_sn rfl (rd_sn rfl (rd_sn rfl (rd_sn rfl H410))))))))))))))))))))))))))))))))))))))))))))) rfl rfl ?_
  refine s_icmp (p' := 18) true rfl (by decide +kernel) rfl ?_
  refine s_con (p' := 19) rfl rfl ?_
  refine c_iret rfl (by decide +kernel) ?_
  refine s_if (p' := 45) true rfl (by decide +kernel) rfl ?_
  refine s_ildn (p' := 46) rfl rfl rfl ?_
  refine c_iret rfl rfl ?_
  refine s_iasz (p' := 21) (m := 6) rfl rfl (rd_sn rfl (rd_sn rfl (rd_sn rfl (rd_app (rd_ss rfl (rd_sn rfl (rd_sn rfl (rd_sn rfl (rd_app (rd_ss rfl (rd_sn rfl (rd_sn rfl (rd_sn rfl (rd_app (rd_ss rfl (rd_sn rfl (rd_sn rfl (rd_sn rfl (rd_app (rd_ss rfl (rd_sn rfl (rd_sn rfl (rd_sn rfl (rd_app (rd_ss rfl (rd_sn rfl (rd_sn rfl (rd_sn rfl (rd_app (rd_ss rfl (rd_sn rfl (rd_sn rfl (rd_sn rfl (rd_app (rd_nw rfl (len_a (len_s (len_s (len_s (len_s (len_s (len_s (len_s (len_s (len_s HL))))))))) rfl)))))))))))))))))))))))))))))))))))) (by decide +kernel) rfl rfl rfl ?_
  refine s_incz (p' := 24) (w := (nI 7)) (ls' := [_, _, _, _, _, _, _, _]) rfl rfl rfl (by decide +kernel) rfl rfl ?_
  refine s_goto (p' := 7) rfl rfl ?_
  refine s_ildn (p' := 8) rfl rfl rfl ?_
  refine s_bip (p' := 10) rfl rfl ?_
  refine s_icmp (p' := 13) false rfl (by decide +kernel) rfl ?_
  refine s_aldn (p' := 14) rfl rfl rfl ?_
  refine s_ildn (p' := 15) rfl rfl rfl ?_
  refine s_aldn (p' := 16) rfl rfl rfl ?_
  refine s_ildn (p' := 17) rfl rfl rfl ?_
  refine c_call (p' := 20) (kc := 97) (ls0 := [_, _, _, _, _]) rfl rfl rfl rfl rfl (mj_rcv_is (rd_sn rfl (rd_sn rfl (rd_sn rfl (rd_sn rfl (rd_app (rd_sn rfl (rd_sn rfl (rd_sn rfl (rd_sn rfl (rd_app (rd_sn rfl (rd_sn rfl (rd_sn rfl (rd_sn rfl (rd_app (rd_sn rfl (rd_sn rfl (rd_sn rfl (rd_sn rfl (rd_app (rd_sn rfl (rd_sn rfl (rd_sn rfl (rd_sn rfl (rd_app (rd_sn rfl (rd_sn rfl (rd_sn rfl (rd_sn rfl (rd_app (rd_sn rfl (rd_sn rfl (rd_sn rfl (rd_sn rfl (rd_app (rd_app (rd_app (rd_sn rfl (rd_sn rfl (rd_sn rfl (rd_sn rfl (rd_sn rfl (rd_sn rfl (rd_sn rfl (rd_sn rfl (rd_sn rfl H400))))))))))))))))))))))))))))))))))))))))))))))) rfl rfl rfl ?_
  refine s_ildn (p' := 1) rfl rfl rfl ?_
  refine s_istn (p' := 2) (ls' := [_, _, _, _, _]) rfl rfl rfl rfl ?_
  refine s_aldn (p' := 3) rfl rfl rfl ?_
  refine s_gf (p' := 6) rfl (rd_sn rfl (rd_sn rfl (rd_sn rfl (rd_sn rfl (rd_app (rd_sn rfl (rd_sn rfl (rd_sn rfl (rd_sn rfl (rd_app (rd_sn rfl (rd_sn rfl (rd_sn rfl (rd_sn rfl (rd_app (rd_sn rfl (rd_sn rfl (rd_sn rfl (rd_sn rfl (rd_app (rd_sn rfl (rd_sn rfl (rd_sn rfl (rd_sn rfl (rd_app (rd_sn rfl (rd_sn rfl (rd_sn rfl (rd_sn rfl (rd_app (rd_sn rfl (rd_sn rfl (rd_sn rfl (rd_sn rfl (rd_app (rd_app (rd_app (rd_sn rfl (rd_sn rfl (rd_sn rfl (rd_sn rfl (rd_sn rfl (rd_sn rfl (rd_sn rfl (rd_sn rfl (rd_sn rfl H400)))))))))))))))))))))))))))))))))))))))))))))) rfl rfl ?_
  refine c_call (p' := 11) (kc := 96) (ls0 := [_]) rfl rfl rfl rfl rfl (mj_rcv_is (rd_sn rfl (rd_sn rfl (rd_sn rfl (rd_sn rfl (rd_app (rd_sn rfl (rd_sn rfl (rd_sn rfl (rd_sn rfl (rd_app (rd_sn rfl (rd_sn rfl (rd_sn rfl (rd_sn rfl (rd_app (rd_sn rfl (rd_sn rfl (rd_sn rfl (rd_sn rfl (rd_app (rd_sn rfl (rd_sn rfl (rd_sn rfl (rd_sn rfl (rd_app (rd_sn rfl (rd_sn rfl (rd_sn rfl (rd_sn rfl (rd_app (rd_sn rfl (rd_sn rfl (rd_sn rfl (rd_sn rfl (rd_app (rd_app (rd_app (rd_sn rfl (rd_sn rfl (rd_sn rfl (rd_sn rfl (rd_sn rfl (rd_sn rfl (rd_sn rfl (rd_sn rfl (rd_sn rfl H410))))))))))))))))))))))))))))))))))))))))))))))) rfl rfl rfl ?_
  refine s_newz (p' := 3) (a := 423) rfl (len_s (len_s (len_s (len_s (len_a (len_s (len_s (len_s (len_s (len_a (len_s (len_s (len_s (len_s (len_a (len_s (len_s (len_s (len_s (len_a (len_s (len_s (len_s (len_s (len_a (len_s (len_s (len_s (len_s (len_a (len_s (len_s (len_s (len_s (len_a (len_a (len_a (len_s (len_s (len_s (len_s (len_s (len_s (len_s (len_s (len_s HL))))))))) rfl) rfl) rfl))))) rfl))))) rfl))))) rfl))))) rfl))))) rfl))))) rfl))))) rfl rfl ?_
  refine s_dupr (p' := 4) rfl rfl ?_
  refine s_aldn (p' := 5) rfl rfl rfl ?_
  refine c_call (p' := 8) (kc := 95) (ls0 := [_, _]) rfl rfl rfl rfl rfl (mj_rcv_is (rd_nw rfl (len_s (len_s (len_s (len_s (len_a (len_s (len_s (len_s (len_s (len_a (len_s (len_s (len_s (len_s (len_a (len_s (len_s (len_s (len_s (len_a (len_s (len_s (len_s (len_s (len_a (len_s (len_s (len_s (len_s (len_a (len_s (len_s (len_s (len_s (len_a (len_a (len_a (len_s (len_s (len_s (len_s (len_s (len_s (len_s (len_s (len_s HL))))))))) rfl) rfl) rfl))))) rfl))))) rfl))))) rfl))))) rfl))))) rfl))))) rfl))))))) rfl rfl rfl ?_
  refine s_aldn (p' := 1) rfl rfl rfl ?_
  refine s_aldn (p' := 2) rfl rfl rfl ?_
  refine s_pfz (p' := 5) (fs' := [_, _, _, _]) rfl rfl (rd_nw rfl (len_s (len_s (len_s (len_s (len_a (len_s (len_s (len_s (len_s (len_a (len_s (len_s (len_s (len_s (len_a (len_s (len_s (len_s (len_s (len_a (len_s (len_s (len_s (len_s (len_a (len_s (len_s (len_s (len_s (len_a (len_s (len_s (len_s (len_s (len_a (len_a (len_a (len_s (len_s (len_s (len_s (len_s (len_s (len_s (len_s (len_s HL))))))))) rfl) rfl) rfl))))) rfl))))) rfl))))) rfl))))) rfl))))) rfl))))) rfl)))))) rfl rfl rfl rfl ?_
  refine s_aldn (p' := 6) rfl rfl rfl ?_
  refine s_primN (p' := 9) (q := 3) rfl rfl rfl rfl rfl rfl rfl rfl ?_
  refine s_aldn (p' := 10) rfl rfl rfl ?_
  refine s_con (p' := 11) rfl rfl ?_
  refine s_pfz (p' := 14) (fs' := [_, _, _, _]) rfl rfl (rd_ss rfl (rd_nw rfl (len_s (len_s (len_s (len_s (len_a (len_s (len_s (len_s (len_s (len_a (len_s (len_s (len_s (len_s (len_a (len_s (len_s (len_s (len_s (len_a (len_s (len_s (len_s (len_s (len_a (len_s (len_s (len_s (len_s (len_a (len_s (len_s (len_s (len_s (len_a (len_a (len_a (len_s (len_s (len_s (len_s (len_s (len_s (len_s (len_s (len_s HL))))))))) rfl) rfl) rfl))))) rfl))))) rfl))))) rfl))))) rfl))))) rfl))))) rfl))))))) rfl rfl rfl rfl ?_
  refine s_aldn (p' := 15) rfl rfl rfl ?_
  refine s_aldn (p' := 16) rfl rfl rfl ?_
  refine s_gf (p' := 19) rfl (rd_ss rfl (rd_ss rfl (rd_nw rfl (len_s (len_s (len_s (len_s (len_a (len_s (len_s (len_s (len_s (len_a (len_s (len_s (len_s (len_s (len_a (len_s (len_s (len_s (len_s (len_a (len_s (len_s (len_s (len_s (len_a (len_s (len_s (len_s (len_s (len_a (len_s (len_s (len_s (len_s (len_a (len_a (len_a (len_s (len_s (len_s (len_s (len_s (len_s (len_s (len_s (len_s HL))))))))) rfl) rfl) rfl))))) rfl))))) rfl))))) rfl))))) rfl))))) rfl))))) rfl)))))))) rfl rfl ?_
  refine s_gf (p' := 22) rfl (rd_sn rfl (rd_sn rfl (rd_app (rd_sn rfl (rd_sn rfl (rd_sn rfl (rd_sn rfl (rd_app (rd_sn rfl (rd_sn rfl (rd_sn rfl (rd_sn rfl (rd_app (rd_sn rfl (rd_sn rfl (rd_sn rfl (rd_sn rfl (rd_app (rd_sn rfl (rd_sn rfl (rd_sn rfl (rd_sn rfl (rd_app (rd_sn rfl (rd_sn rfl (rd_sn rfl (rd_sn rfl (rd_app (rd_sn rfl (rd_sn rfl (rd_sn rfl (rd_sn rfl (rd_app (rd_sn rfl (rd_sn rfl (rd_sn rfl (rd_sn rfl (rd_app (rd_app (rd_app (rd_sn rfl (rd_sn rfl (rd_sn rfl (rd_sn rfl (rd_sn rfl (rd_sn rfl (rd_sn rfl (rd_sn rfl (rd_sn rfl H410))))))))))))))))))))))))))))))))))))))))))))))))) rfl rfl ?_
  refine s_pfz (p' := 25) (fs' := [_, _, _, _]) rfl rfl (rd_ss rfl (rd_ss rfl (rd_nw rfl (len_s (len_s (len_s (len_s (len_a (len_s (len_s (len_s (len_s (len_a (len_s (len_s (len_s (len_s (len_a (len_s (len_s (len_s (len_s (len_a (len_s (len_s (len_s (len_s (len_a (len_s (len_s (len_s (len_s (len_a (len_s (len_s (len_s (len_s (len_a (len_a (len_a (len_s (len_s (len_s (len_s (len_s (len_s (len_s (len_s (len_s HL))))))))) rfl) rfl) rfl))))) rfl))))) rfl))))) rfl))))) rfl))))) rfl))))) rfl)))))))) rfl rfl rfl rfl ?_
  refine c_ret rfl ?_
  refine c_aret rfl ?_
  refine s_astn (p' := 12) (ls' := [_, _, _, _, _]) rfl rfl rfl rfl ?_
  refine s_aldn (p' := 13) rfl rfl rfl ?_
  refine c_call (p' := 18) (kc := 96) (ls0 := [_]) rfl rfl rfl rfl rfl (mj_rcv_is (rd_ss rfl (rd_ss rfl (rd_ss rfl (rd_nw rfl (len_s (len_s (len_s (len_s (len_a (len_s (len_s (len_s (len_s (len_a (len_s (len_s (len_s (len_s (len_a (len_s (len_s (len_s (len_s (len_a (len_s (len_s (len_s (len_s (len_a (len_s (len_s (len_s (len_s (len_a (len_s (len_s (len_s (len_s (len_a (len_a (len_a (len_s (len_s (len_s (len_s (len_s (len_s (len_s (len_s (len_s HL))))))))) rfl) rfl) rfl))))) rfl))))) rfl))))) rfl))))) rfl))))) rfl))))) rfl)))))))))) rfl rfl rfl ?_
  refine s_aldn (p' := 1) rfl rfl rfl ?_
  refine s_gf (p' := 4) rfl (rd_ss rfl (rd_ss rfl (rd_ss rfl (rd_nw rfl (len_s (len_s (len_s (len_s (len_a (len_s (len_s (len_s (len_s (len_a (len_s (len_s (len_s (len_s (len_a (len_s (len_s (len_s (len_s (len_a (len_s (len_s (len_s (len_s (len_a (len_s (len_s (len_s (len_s (len_a (len_s (len_s (len_s (len_s (len_a (len_a (len_a (len_s (len_s (len_s (len_s (len_s (len_s (len_s (len_s (len_s HL))))))))) rfl) rfl) rfl))))) rfl))))) rfl))))) rfl))))) rfl))))) rfl))))) rfl))))))))) rfl rfl ?_
  refine s_aldn (p' := 5) rfl rfl rfl ?_
  refine s_gf (p' := 8) rfl (rd_ss rfl (rd_ss rfl (rd_ss rfl (rd_nw rfl (len_s (len_s (len_s (len_s (len_a (len_s (len_s (len_s (len_s (len_a (len_s (len_s (len_s (len_s (len_a (len_s (len_s (len_s (len_s (len_a (len_s (len_s (len_s (len_s (len_a (len_s (len_s (len_s (len_s (len_a (len_s (len_s (len_s (len_s (len_a (len_a (len_a (len_s (len_s (len_s (len_s (len_s (len_s (len_s (len_s (len_s HL))))))))) rfl) rfl) rfl))))) rfl))))) rfl))))) rfl))))) rfl))))) rfl))))) rfl))))))))) rfl rfl ?_
  refine s_gf (p' := 11) rfl (rd_sn rfl (rd_sn rfl (rd_sn rfl (rd_app (rd_sn rfl (rd_sn rfl (rd_sn rfl (rd_sn rfl (rd_app (rd_sn rfl (rd_sn rfl (rd_sn rfl (rd_sn rfl (rd_app (rd_sn rfl (rd_sn rfl (rd_sn rfl (rd_sn rfl (rd_app (rd_sn rfl (rd_sn rfl (rd_sn rfl (rd_sn rfl (rd_app (rd_sn rfl (rd_sn rfl (rd_sn rfl (rd_sn rfl (rd_app (rd_sn rfl (rd_sn rfl (rd_sn rfl (rd_sn rfl (rd_app (rd_sn rfl (rd_sn rfl (rd_sn rfl (rd_sn rfl (rd_app (rd_app (rd_app (rd_sn rfl (rd_sn rfl (rd_sn rfl (rd_sn rfl (rd_sn rfl (rd_sn rfl (rd_sn rfl (rd_sn rfl (rd_sn rfl H410)))))))))))))))))))))))))))))))))))))))))))))))))) rfl rfl ?_
  refine s_icmp (p' := 18) true rfl (by decide +kernel) rfl ?_
  refine s_con (p' := 19) rfl rfl ?_
  refine c_iret rfl (by decide +kernel) ?_
  refine s_if (p' := 45) true rfl (by decide +kernel) rfl ?_
  refine s_ildn (p' := 46) rfl rfl rfl ?_
  refine c_iret rfl rfl ?_
  refine s_iasz (p' := 21) (m := 7) rfl rfl (rd_sn rfl (rd_sn rfl (rd_sn rfl (rd_app (rd_ss rfl (rd_sn rfl (rd_sn rfl (rd_sn rfl (rd_app (rd_ss rfl (rd_sn rfl (rd_sn rfl (rd_sn rfl (rd_app (rd_ss rfl (rd_sn rfl (rd_sn rfl (rd_sn rfl (rd_app (rd_ss rfl (rd_sn rfl (rd_sn rfl (rd_sn rfl (rd_app (rd_ss rfl (rd_sn rfl (rd_sn rfl (rd_sn rfl (rd_app (rd_ss rfl (rd_sn rfl (rd_sn rfl (rd_sn rfl (rd_app (rd_ss rfl (rd_sn rfl (rd_sn rfl (rd_sn rfl (rd_app (rd_nw rfl (len_a (len_s (len_s (len_s (len_s (len_s (len_s (len_s (len_s (len_s HL))))))))) rfl))))))))))))))))))))))))))))))))))))))))) (by decide +kernel) rfl rfl rfl ?_
  refine s_incz (p' := 24) (w := (nI 8)) (ls' := [_, _, _, _, _, _, _, _]) rfl rfl rfl (by decide +kernel) rfl rfl ?_
  refine s_goto (p' := 7) rfl rfl ?_
  refine s_ildn (p' := 8) rfl rfl rfl ?_
  refine s_bip (p' := 10) rfl rfl ?_
  refine s_icmp (p' := 27) true rfl (by decide +kernel) rfl ?_
  refine s_newz (p' := 30) (a := 424) rfl (len_s (len_s (len_s (len_s (len_a (len_s (len_s (len_s (len_s (len_a (len_s (len_s (len_s (len_s (len_a (len_s (len_s (len_s (len_s (len_a (len_s (len_s (len_s (len_s (len_a (len_s (len_s (len_s (len_s (len_a (len_s (len_s (len_s (len_s (len_a (len_s (len_s (len_s (len_s (len_a (len_a (len_a (len_s (len_s (len_s (len_s (len_s (len_s (len_s (len_s (len_s HL))))))))) rfl) rfl) rfl))))) rfl))))) rfl))))) rfl))))) rfl))))) rfl))))) rfl))))) rfl))))) rfl rfl ?_
  refine s_dupr (p' := 31) rfl rfl ?_
  refine c_call (p' := 34) (kc := 97) (ls0 := [_]) rfl rfl rfl rfl rfl (mj_rcv_is (rd_nw rfl (len_s (len_s (len_s (len_s (len_a (len_s (len_s (len_s (len_s (len_a (len_s (len_s (len_s (len_s (len_a (len_s (len_s (len_s (len_s (len_a (len_s (len_s (len_s (len_s (len_a (len_s (len_s (len_s (len_s (len_a (len_s (len_s (len_s (len_s (len_a (len_s (len_s (len_s (len_s (len_a (len_a (len_a (len_s (len_s (len_s (len_s (len_s (len_s (len_s (len_s (len_s HL))))))))) rfl) rfl) rfl))))) rfl))))) rfl))))) rfl))))) rfl))))) rfl))))) rfl))))) rfl))))))) rfl rfl rfl ?_
  refine s_aldn (p' := 1) rfl rfl rfl ?_
  refine c_call (p' := 4) (kc := 96) (ls0 := [_]) rfl rfl rfl rfl rfl (mj_rcv_is (rd_nw rfl (len_s (len_s (len_s (len_s (len_a (len_s (len_s (len_s (len_s (len_a (len_s (len_s (len_s (len_s (len_a (len_s (len_s (len_s (len_s (len_a (len_s (len_s (len_s (len_s (len_a (len_s (len_s (len_s (len_s (len_a (len_s (len_s (len_s (len_s (len_a (len_s (len_s (len_s (len_s (len_a (len_a (len_a (len_s (len_s (len_s (len_s (len_s (len_s (len_s (len_s (len_s HL))))))))) rfl) rfl) rfl))))) rfl))))) rfl))))) rfl))))) rfl))))) rfl))))) rfl))))) rfl))))))) rfl rfl rfl ?_
  refine s_aldn (p' := 1) rfl rfl rfl ?_
  refine c_call (p' := 4) (kc := 95) (ls0 := [_]) rfl rfl rfl rfl rfl (mj_rcv_is (rd_nw rfl (len_s (len_s (len_s (len_s (len_a (len_s (len_s (len_s (len_s (len_a (len_s (len_s (len_s (len_s (len_a (len_s (len_s (len_s (len_s (len_a (len_s (len_s (len_s (len_s (len_a (len_s (len_s (len_s (len_s (len_a (len_s (len_s (len_s (len_s (len_a (len_s (len_s (len_s (len_s (len_a (len_a (len_a (len_s (len_s (len_s (len_s (len_s (len_s (len_s (len_s (len_s HL))))))))) rfl) rfl) rfl))))) rfl))))) rfl))))) rfl))))) rfl))))) rfl))))) rfl))))) rfl))))))) rfl rfl rfl ?_
  refine s_aldn (p' := 1) rfl rfl rfl ?_
  refine s_primN (p' := 4) (q := 3) rfl rfl rfl rfl rfl rfl rfl rfl ?_
  refine c_ret rfl ?_
  refine s_aldn (p' := 5) rfl rfl rfl ?_
  refine s_con (p' := 6) rfl rfl ?_
  refine s_pfz (p' := 9) (fs' := [_, _, _]) rfl rfl (rd_nw rfl (len_s (len_s (len_s (len_s (len_a (len_s (len_s (len_s (len_s (len_a (len_s (len_s (len_s (len_s (len_a (len_s (len_s (len_s (len_s (len_a (len_s (len_s (len_s (len_s (len_a (len_s (len_s (len_s (len_s (len_a (len_s (len_s (len_s (len_s (len_a (len_s (len_s (len_s (len_s (len_a (len_a (len_a (len_s (len_s (len_s (len_s (len_s (len_s (len_s (len_s (len_s HL))))))))) rfl) rfl) rfl))))) rfl))))) rfl))))) rfl))))) rfl))))) rfl))))) rfl))))) rfl)))))) rfl rfl rfl rfl ?_
  refine c_ret rfl ?_
  refine s_aldn (p' := 5) rfl rfl rfl ?_
  refine s_sh (p' := 8) (ls' := _) (st' := .ref 1000000 :: _) (h' := _) rfl rfl rfl rfl ?_
  refine s_pfz (p' := 11) (fs' := [_, _, _]) rfl rfl (rd_ss rfl (rd_nw rfl (len_s (len_s (len_s (len_s (len_a (len_s (len_s (len_s (len_s (len_a (len_s (len_s (len_s (len_s (len_a (len_s (len_s (len_s (len_s (len_a (len_s (len_s (len_s (len_s (len_a (len_s (len_s (len_s (len_s (len_a (len_s (len_s (len_s (len_s (len_a (len_s (len_s (len_s (len_s (len_a (len_a (len_a (len_s (len_s (len_s (len_s (len_s (len_s (len_s (len_s (len_s HL))))))))) rfl) rfl) rfl))))) rfl))))) rfl))))) rfl))))) rfl))))) rfl))))) rfl))))) rfl))))))) rfl rfl rfl rfl ?_
  refine c_ret rfl ?_
  refine s_astn (p' := 35) (ls' := [_, _, _, _, _, _, _, _]) rfl rfl rfl rfl ?_
  refine s_con (p' := 36) rfl rfl ?_
  refine s_istn (p' := 37) (ls' := [_, _, _, _, _, _, _, _]) rfl rfl rfl rfl ?_
  refine s_ildn (p' := 38) rfl rfl rfl ?_
  refine s_bip (p' := 40) rfl rfl ?_
  refine s_icmp (p' := 43) false rfl (by decide +kernel) rfl ?_
  refine s_aldn (p' := 44) rfl rfl rfl ?_
  refine s_ildn (p' := 45) rfl rfl rfl ?_
  refine s_ialz (p' := 46) (m := 0) (v := (nI 0)) rfl (rd_sn rfl (rd_sn rfl (rd_app (rd_ss rfl (rd_sn rfl (rd_sn rfl (rd_sn rfl (rd_app (rd_ss rfl (rd_sn rfl (rd_sn rfl (rd_sn rfl (rd_app (rd_ss rfl (rd_sn rfl (rd_sn rfl (rd_sn rfl (rd_app (rd_ss rfl (rd_sn rfl (rd_sn rfl (rd_sn rfl (rd_app (rd_ss rfl (rd_sn rfl (rd_sn rfl (rd_sn rfl (rd_app (rd_ss rfl (rd_sn rfl (rd_sn rfl (rd_sn rfl (rd_app (rd_ss rfl (rd_sn rfl (rd_sn rfl (rd_sn rfl (rd_app (rd_ss rfl (rd_sn rfl (rd_sn rfl (rd_sn rfl (rd_app (rd_nw rfl (len_a (len_s (len_s (len_s (len_s (len_s (len_s (len_s (len_s (len_s HL))))))))) rfl))))))))))))))))))))))))))))))))))))))))))))) (by decide +kernel) rfl (by decide +kernel) rfl ?_
  refine s_ildn (p' := 47) rfl rfl rfl ?_
  refine s_icmp (p' := 145) true rfl (by decide +kernel) rfl ?_
  refine s_incz (p' := 148) (w := (nI 1)) (ls' := [_, _, _, _, _, _, _, _]) rfl rfl rfl (by decide +kernel) rfl rfl ?_
  refine s_goto (p' := 37) rfl rfl ?_
  refine s_ildn (p' := 38) rfl rfl rfl ?_
  refine s_bip (p' := 40) rfl rfl ?_
  refine s_icmp (p' := 43) false rfl (by decide +kernel) rfl ?_
  refine s_aldn (p' := 44) rfl rfl rfl ?_
  refine s_ildn (p' := 45) rfl rfl rfl ?_
  refine s_ialz (p' := 46) (m := 1) (v := (nI 1)) rfl (rd_sn rfl (rd_sn rfl (rd_app (rd_ss rfl (rd_sn rfl (rd_sn rfl (rd_sn rfl (rd_app (rd_ss rfl (rd_sn rfl (rd_sn rfl (rd_sn rfl (rd_app (rd_ss rfl (rd_sn rfl (rd_sn rfl (rd_sn rfl (rd_app (rd_ss rfl (rd_sn rfl (rd_sn rfl (rd_sn rfl (rd_app (rd_ss rfl (rd_sn rfl (rd_sn rfl (rd_sn rfl (rd_app (rd_ss rfl (rd_sn rfl (rd_sn rfl (rd_sn rfl (rd_app (rd_ss rfl (rd_sn rfl (rd_sn rfl (rd_sn rfl (rd_app (rd_ss rfl (rd_sn rfl (rd_sn rfl (rd_sn rfl (rd_app (rd_nw rfl (len_a (len_s (len_s (len_s (len_s (len_s (len_s (len_s (len_s (len_s HL))))))))) rfl))))))))))))))))))))))))))))))))))))))))))))) (by decide +kernel) rfl (by decide +kernel) rfl ?_
  refine s_ildn (p' := 47) rfl rfl rfl ?_
  refine s_icmp (p' := 145) true rfl (by decide +kernel) rfl ?_
  refine s_incz (p' := 148) (w := (nI 2)) (ls' := [_, _, _, _, _, _, _, _]) rfl rfl rfl (by decide +kernel) rfl rfl ?_
  refine s_goto (p' := 37) rfl rfl ?_
  refine s_ildn (p' := 38) rfl rfl rfl ?_
  refine s_bip (p' := 40) rfl rfl ?_
  refine s_icmp (p' := 43) false rfl (by decide +kernel) rfl ?_
  refine s_aldn (p' := 44) rfl rfl rfl ?_
  refine s_ildn (p' := 45) rfl rfl rfl ?_
  refine s_ialz (p' := 46) (m := 2) (v := (nI 2)) rfl (rd_sn rfl (rd_sn rfl (rd_app (rd_ss rfl (rd_sn rfl (rd_sn rfl (rd_sn rfl (rd_app (rd_ss rfl (rd_sn rfl (rd_sn rfl (rd_sn rfl (rd_app (rd_ss rfl (rd_sn rfl (rd_sn rfl (rd_sn rfl (rd_app (rd_ss rfl (rd_sn rfl (rd_sn rfl (rd_sn rfl (rd_app (rd_ss rfl (rd_sn rfl (rd_sn rfl (rd_sn rfl (rd_app (rd_ss rfl (rd_sn rfl (rd_sn rfl (rd_sn rfl (rd_app (rd_ss rfl (rd_sn rfl (rd_sn rfl (rd_sn rfl (rd_app (rd_ss rfl (rd_sn rfl (rd_sn rfl (rd_sn rfl (rd_app (rd_nw rfl (len_a (len_s (len_s (len_s (len_s (len_s (len_s (len_s (len_s (len_s HL))))))))) rfl))))))))))))))))))))))))))))))))))))))))))))) (by decide +kernel) rfl (by decide +kernel) rfl ?_
  refine s_ildn (p' := 47) rfl rfl rfl ?_
  refine s_icmp (p' := 145) true rfl (by decide +kernel) rfl ?_
  refine s_incz (p' := 148) (w := (nI 3)) (ls' := [_, _, _, _, _, _, _, _]) rfl rfl rfl (by decide +kernel) rfl rfl ?_
  refine s_goto (p' := 37) rfl rfl ?_
  refine s_ildn (p' := 38) rfl rfl rfl ?_
  refine s_bip (p' := 40) rfl rfl ?_
  refine s_icmp (p' := 43) false rfl (by decide +kernel) rfl ?_
  refine s_aldn (p' := 44) rfl rfl rfl ?_
  refine s_ildn (p' := 45) rfl rfl rfl ?_
  refine s_ialz (p' := 46) (m := 3) (v := (nI 3)) rfl (rd_sn rfl (rd_sn rfl (rd_app (rd_ss rfl (rd_sn rfl (rd_sn rfl (rd_sn rfl (rd_app (rd_ss rfl (rd_sn rfl (rd_sn rfl (rd_sn rfl (rd_app (rd_ss rfl (rd_sn rfl (rd_sn rfl (rd_sn rfl (rd_app (rd_ss rfl (rd_sn rfl (rd_sn rfl (rd_sn rfl (rd_app (rd_ss rfl (rd_sn rfl (rd_sn rfl (rd_sn rfl (rd_app (rd_ss rfl (rd_sn rfl (rd_sn rfl (rd_sn rfl (rd_app (rd_ss rfl (rd_sn rfl (rd_sn rfl (rd_sn rfl (rd_app (rd_ss rfl (rd_sn rfl (rd_sn rfl (rd_sn rfl (rd_app (rd_nw rfl (len_a (len_s (len_s (len_s (len_s (len_s (len_s (len_s (len_s (len_s HL))))))))) rfl))))))))))))))))))))))))))))))))))))))))))))) (by decide +kernel) rfl (by decide +kernel) rfl ?_
  refine s_ildn (p' := 47) rfl rfl rfl ?_
  refine s_icmp (p' := 145) true rfl (by decide +kernel) rfl ?_
  refine s_incz (p' := 148) (w := (nI 4)) (ls' := [_, _, _, _, _, _, _, _]) rfl rfl rfl (by decide +kernel) rfl rfl ?_
  refine s_goto (p' := 37) rfl rfl ?_
  refine s_ildn (p' := 38) rfl rfl rfl ?_
  refine s_bip (p' := 40) rfl rfl ?_
  refine s_icmp (p' := 43) false rfl (by decide +kernel) rfl ?_
  refine s_aldn (p' := 44) rfl rfl rfl ?_
  refine s_ildn (p' := 45) rfl rfl rfl ?_
  refine s_ialz (p' := 46) (m := 4) (v := (nI 4)) rfl (rd_sn rfl (rd_sn rfl (rd_app (rd_ss rfl (rd_sn rfl (rd_sn rfl (rd_sn rfl (rd_app (rd_ss rfl (rd_sn rfl (rd_sn rfl (rd_sn rfl (rd_app (rd_ss rfl (rd_sn rfl (rd_sn rfl (rd_sn rfl (rd_app (rd_ss rfl (rd_sn rfl (rd_sn rfl (rd_sn rfl (rd_app (rd_ss rfl (rd_sn rfl (rd_sn rfl (rd_sn rfl (rd_app (rd_ss rfl (rd_sn rfl (rd_sn rfl (rd_sn rfl (rd_app (rd_ss rfl (rd_sn rfl (rd_sn rfl (rd_sn rfl (rd_app (rd_ss rfl (rd_sn rfl (rd_sn rfl (rd_sn rfl (rd_app (rd_nw rfl (len_a (len_s (len_s (len_s (len_s (len_s (len_s (len_s (len_s (len_s HL))))))))) rfl))))))))))))))))))))))))))))))))))))))))))))) (by decide +kernel) rfl (by decide +kernel) rfl ?_
  refine s_ildn (p' := 47) rfl rfl rfl ?_
  refine s_icmp (p' := 145) true rfl (by decide +kernel) rfl ?_
  refine s_incz (p' := 148) (w := (nI 5)) (ls' := [_, _, _, _, _, _, _, _]) rfl rfl rfl (by decide +kernel) rfl rfl ?_
  refine s_goto (p' := 37) rfl rfl ?_
  refine s_ildn (p' := 38) rfl rfl rfl ?_
  refine s_bip (p' := 40) rfl rfl ?_
  refine s_icmp (p' := 43) false rfl (by decide +kernel) rfl ?_
  refine s_aldn (p' := 44) rfl rfl rfl ?_
  refine s_ildn (p' := 45) rfl rfl rfl ?_
  refine s_ialz (p' := 46) (m := 5) (v := (nI 5)) rfl (rd_sn rfl (rd_sn rfl (rd_app (rd_ss rfl (rd_sn rfl (rd_sn rfl (rd_sn rfl (rd_app (rd_ss rfl (rd_sn rfl (rd_sn rfl (rd_sn rfl (rd_app (rd_ss rfl (rd_sn rfl (rd_sn rfl (rd_sn rfl (rd_app (rd_ss rfl (rd_sn rfl (rd_sn rfl (rd_sn rfl (rd_app (rd_ss rfl (rd_sn rfl (rd_sn rfl (rd_sn rfl (rd_app (rd_ss rfl (rd_sn rfl (rd_sn rfl (rd_sn rfl (rd_app (rd_ss rfl (rd_sn rfl (rd_sn rfl (rd_sn rfl (rd_app (rd_ss rfl (rd_sn rfl (rd_sn rfl (rd_sn rfl (rd_app (rd_nw rfl (len_a (len_s (len_s (len_s (len_s (len_s (len_s (len_s (len_s (len_s HL))))))))) rfl))))))))))))))))))))))))))))))))))))))))))))) (by decide +kernel) rfl (by decide +kernel) rfl ?_
  refine s_ildn (p' := 47) rfl rfl rfl ?_
  refine s_icmp (p' := 145) true rfl (by decide +kernel) rfl ?_
  refine s_incz (p' := 148) (w := (nI 6)) (ls' := [_, _, _, _, _, _, _, _]) rfl rfl rfl (by decide +kernel) rfl rfl ?_
  refine s_goto (p' := 37) rfl rfl ?_
  refine s_ildn (p' := 38) rfl rfl rfl ?_
  refine s_bip (p' := 40) rfl rfl ?_
  refine s_icmp (p' := 43) false rfl (by decide +kernel) rfl ?_
  refine s_aldn (p' := 44) rfl rfl rfl ?_
  refine s_ildn (p' := 45) rfl rfl rfl ?_
  refine s_ialz (p' := 46) (m := 6) (v := (nI 6)) rfl (rd_sn rfl (rd_sn rfl (rd_app (rd_ss rfl (rd_sn rfl (rd_sn rfl (rd_sn rfl (rd_app (rd_ss rfl (rd_sn rfl (rd_sn rfl (rd_sn rfl (rd_app (rd_ss rfl (rd_sn rfl (rd_sn rfl (rd_sn rfl (rd_app (rd_ss rfl (rd_sn rfl (rd_sn rfl (rd_sn rfl (rd_app (rd_ss rfl (rd_sn rfl (rd_sn rfl (rd_sn rfl (rd_app (rd_ss rfl (rd_sn rfl (rd_sn rfl (rd_sn rfl (rd_app (rd_ss rfl (rd_sn rfl (rd_sn rfl (rd_sn rfl (rd_app (rd_ss rfl (rd_sn rfl (rd_sn rfl (rd_sn rfl (rd_app (rd_nw rfl (len_a (len_s (len_s (len_s (len_s (len_s (len_s (len_s (len_s (len_s HL))))))))) rfl))))))))))))))))))))))))))))))))))))))))))))) (by decide +kernel) rfl (by decide +kernel) rfl ?_
  refine s_ildn (p' := 47) rfl rfl rfl ?_
  refine s_icmp (p' := 145) true rfl (by decide +kernel) rfl ?_
  refine s_incz (p' := 148) (w := (nI 7)) (ls' := [_, _, _, _, _, _, _, _]) rfl rfl rfl (by decide +kernel) rfl rfl ?_
  refine s_goto (p' := 37) rfl rfl ?_
  refine s_ildn (p' := 38) rfl rfl rfl ?_
  refine s_bip (p' := 40) rfl rfl ?_
  refine s_icmp (p' := 43) false rfl (by decide +kernel) rfl ?_
  refine s_aldn (p' := 44) rfl rfl rfl ?_
  refine s_ildn (p' := 45) rfl rfl rfl ?_
  refine s_ialz (p' := 46) (m := 7) (v := (nI 7)) rfl (rd_sn rfl (rd_sn rfl (rd_app (rd_ss rfl (rd_sn rfl (rd_sn rfl (rd_sn rfl (rd_app (rd_ss rfl (rd_sn rfl (rd_sn rfl (rd_sn rfl (rd_app (rd_ss rfl (rd_sn rfl (rd_sn rfl (rd_sn rfl (rd_app (rd_ss rfl (rd_sn rfl (rd_sn rfl (rd_sn rfl (rd_app (rd_ss rfl (rd_sn rfl (rd_sn rfl (rd_sn rfl (rd_app (rd_ss rfl (rd_sn rfl (rd_sn rfl (rd_sn rfl (rd_app (rd_ss rfl (rd_sn rfl (rd_sn rfl (rd_sn rfl (rd_app (rd_ss rfl (rd_sn rfl (rd_sn rfl (rd_sn rfl (rd_app (rd_nw rfl (len_a (len_s (len_s (len_s (len_s (len_s (len_s (len_s (len_s (len_s HL))))))))) rfl))))))))))))))))))))))))))))))))))))))))))))) (by decide +kernel) rfl (by decide +kernel) rfl ?_
  refine s_ildn (p' := 47) rfl rfl rfl ?_
  refine s_icmp (p' := 145) true rfl (by decide +kernel) rfl ?_
  refine s_incz (p' := 148) (w := (nI 8)) (ls' := [_, _, _, _, _, _, _, _]) rfl rfl rfl (by decide +kernel) rfl rfl ?_
  refine s_goto (p' := 37) rfl rfl ?_
  refine s_ildn (p' := 38) rfl rfl rfl ?_
  refine s_bip (p' := 40) rfl rfl ?_
  refine s_icmp (p' := 151) true rfl (by decide +kernel) rfl ?_
  refine s_aldn (p' := 152) rfl rfl rfl ?_
  refine c_aret rfl ?_
  refine s_astn (p' := 5) (ls' := [_, _, _]) rfl rfl rfl rfl ?_
  refine s_aldn (p' := 6) rfl rfl rfl ?_
  refine s_ildn (p' := 7) rfl rfl rfl ?_
  refine s_con (p' := 8) rfl rfl ?_
  refine s_aldn (p' := 9) rfl rfl rfl ?_
  refine c_call (p' := 14) (kc := 98) (ls0 := [_]) rfl rfl rfl rfl rfl (mj_rcv_is (rd_ss rfl (rd_ss rfl (rd_nw rfl (len_s (len_s (len_s (len_s (len_a (len_s (len_s (len_s (len_s (len_a (len_s (len_s (len_s (len_s (len_a (len_s (len_s (len_s (len_s (len_a (len_s (len_s (len_s (len_s (len_a (len_s (len_s (len_s (len_s (len_a (len_s (len_s (len_s (len_s (len_a (len_s (len_s (len_s (len_s (len_a (len_a (len_a (len_s (len_s (len_s (len_s (len_s (len_s (len_s (len_s (len_s HL))))))))) rfl) rfl) rfl))))) rfl))))) rfl))))) rfl))))) rfl))))) rfl))))) rfl))))) rfl))))))))) rfl rfl rfl ?_
  refine s_aldn (p' := 1) rfl rfl rfl ?_
  refine s_gf (p' := 4) rfl (rd_ss rfl (rd_ss rfl (rd_nw rfl (len_s (len_s (len_s (len_s (len_a (len_s (len_s (len_s (len_s (len_a (len_s (len_s (len_s (len_s (len_a (len_s (len_s (len_s (len_s (len_a (len_s (len_s (len_s (len_s (len_a (len_s (len_s (len_s (len_s (len_a (len_s (len_s (len_s (len_s (len_a (len_s (len_s (len_s (len_s (len_a (len_a (len_a (len_s (len_s (len_s (len_s (len_s (len_s (len_s (len_s (len_s HL))))))))) rfl) rfl) rfl))))) rfl))))) rfl))))) rfl))))) rfl))))) rfl))))) rfl))))) rfl)))))))) rfl rfl ?_
  refine c_iret rfl rfl ?_
  refine s_con (p' := 15) rfl rfl ?_
  refine s_bz (p' := 16) (z := (nI 4294967295)) rfl rfl rfl (by decide +kernel) ?_
  refine c_call (p' := 19) (kc := 98) (ls0 := [_, _, _]) rfl rfl rfl rfl rfl rfl rfl rfl rfl ?_
  refine s_ildn (p' := 1) rfl rfl rfl ?_
  refine s_ildn (p' := 2) rfl rfl rfl ?_
  refine s_icmp (p' := 14) true rfl ((ch_gt (w := 0) (by decide +kernel)).trans (decide_eq_true (by omega))) rfl ?_
  refine s_con (p' := 15) rfl rfl ?_
  refine c_iret rfl (by decide +kernel) ?_
  refine s_if (p' := 26) true rfl (by decide +kernel) rfl ?_
  refine s_con (p' := 27) rfl rfl ?_
  refine c_call (p' := 30) (kc := 98) (ls0 := [_, _]) rfl rfl rfl rfl rfl (mj_rcv_is (rd_sn rfl (rd_sn rfl (rd_app (rd_sn rfl (rd_sn rfl (rd_sn rfl (rd_sn rfl (rd_app (rd_sn rfl (rd_sn rfl (rd_sn rfl (rd_sn rfl (rd_app (rd_sn rfl (rd_sn rfl (rd_sn rfl (rd_sn rfl (rd_app (rd_sn rfl (rd_sn rfl (rd_sn rfl (rd_sn rfl (rd_app (rd_sn rfl (rd_sn rfl (rd_sn rfl (rd_sn rfl (rd_app (rd_sn rfl (rd_sn rfl (rd_sn rfl (rd_sn rfl (rd_app (rd_sn rfl (rd_sn rfl (rd_sn rfl (rd_sn rfl (rd_app (rd_sn rfl (rd_sn rfl (rd_sn rfl (rd_sn rfl (rd_app (rd_app (rd_app (rd_sn rfl (rd_sn rfl (rd_sn rfl (rd_sn rfl (rd_sn rfl (rd_sn rfl (rd_sn rfl (rd_sn rfl (rd_sn rfl H400))))))))))))))))))))))))))))))))))))))))))))))))))))))) rfl rfl rfl ?_
  refine s_aldn (p' := 1) rfl rfl rfl ?_
  refine s_ildn (p' := 2) rfl rfl rfl ?_
  refine s_pfz (p' := 5) (fs' := [_, _, _, _, _, _, _, _, _, _, _]) rfl rfl (rd_sn rfl (rd_sn rfl (rd_app (rd_sn rfl (rd_sn rfl (rd_sn rfl (rd_sn rfl (rd_app (rd_sn rfl (rd_sn rfl (rd_sn rfl (rd_sn rfl (rd_app (rd_sn rfl (rd_sn rfl (rd_sn rfl (rd_sn rfl (rd_app (rd_sn rfl (rd_sn rfl (rd_sn rfl (rd_sn rfl (rd_app (rd_sn rfl (rd_sn rfl (rd_sn rfl (rd_sn rfl (rd_app (rd_sn rfl (rd_sn rfl (rd_sn rfl (rd_sn rfl (rd_app (rd_sn rfl (rd_sn rfl (rd_sn rfl (rd_sn rfl (rd_app (rd_sn rfl (rd_sn rfl (rd_sn rfl (rd_sn rfl (rd_app (rd_app (rd_app (rd_sn rfl (rd_sn rfl (rd_sn rfl (rd_sn rfl (rd_sn rfl (rd_sn rfl (rd_sn rfl (rd_sn rfl (rd_sn rfl H400)))))))))))))))))))))))))))))))))))))))))))))))))))))) rfl rfl rfl rfl ?_
  refine s_ildn (p' := 6) rfl rfl rfl ?_
  refine s_if (p' := 9) false rfl (by decide +kernel) rfl ?_
  refine s_con (p' := 10) rfl rfl ?_
  refine s_goto (p' := 14) rfl rfl ?_
  refine c_iret rfl (by decide +kernel) ?_
  refine s_if (p' := 33) false rfl (by decide +kernel) rfl ?_
  refine s_con (p' := 34) rfl rfl ?_
  refine s_goto (p' := 50) rfl rfl ?_
  refine k_iret rfl rfl ?_
  refine l_ist (p' := 2118) (ls' := [_, _, _, _, _, _, _, _, _, _]) rfl rfl rfl rfl rfl ?_
  refine l_aldn (p' := 2119) rfl rfl rfl rfl ?_
  refine l_call (p' := 2122) (kc := 99) (ls0 := [_]) rfl rfl rfl rfl rfl rfl (mj_rcv_is (rd_ss rfl (rd_sn rfl (rd_sn rfl (rd_app (rd_sn rfl (rd_sn rfl (rd_sn rfl (rd_sn rfl (rd_app (rd_sn rfl (rd_sn rfl (rd_sn rfl (rd_sn rfl (rd_app (rd_sn rfl (rd_sn rfl (rd_sn rfl (rd_sn rfl (rd_app (rd_sn rfl (rd_sn rfl (rd_sn rfl (rd_sn rfl (rd_app (rd_sn rfl (rd_sn rfl (rd_sn rfl (rd_sn rfl (rd_app (rd_sn rfl (rd_sn rfl (rd_sn rfl (rd_sn rfl (rd_app (rd_sn rfl (rd_sn rfl (rd_sn rfl (rd_sn rfl (rd_app (rd_sn rfl (rd_sn rfl (rd_sn rfl (rd_sn rfl (rd_app (rd_app (rd_app (rd_sn rfl (rd_sn rfl (rd_sn rfl (rd_sn rfl (rd_sn rfl (rd_sn rfl (rd_sn rfl (rd_sn rfl (rd_sn rfl H400)))))))))))))))))))))))))))))))))))))))))))))))))))))))) rfl rfl rfl ?_
  refine s_aldn (p' := 1) rfl rfl rfl ?_
  refine s_gf (p' := 4) rfl (rd_ss rfl (rd_sn rfl (rd_sn rfl (rd_app (rd_sn rfl (rd_sn rfl (rd_sn rfl (rd_sn rfl (rd_app (rd_sn rfl (rd_sn rfl (rd_sn rfl (rd_sn rfl (rd_app (rd_sn rfl (rd_sn rfl (rd_sn rfl (rd_sn rfl (rd_app (rd_sn rfl (rd_sn rfl (rd_sn rfl (rd_sn rfl (rd_app (rd_sn rfl (rd_sn rfl (rd_sn rfl (rd_sn rfl (rd_app (rd_sn rfl (rd_sn rfl (rd_sn rfl (rd_sn rfl (rd_app (rd_sn rfl (rd_sn rfl (rd_sn rfl (rd_sn rfl (rd_app (rd_sn rfl (rd_sn rfl (rd_sn rfl (rd_sn rfl (rd_app (rd_app (rd_app (rd_sn rfl (rd_sn rfl (rd_sn rfl (rd_sn rfl (rd_sn rfl (rd_sn rfl (rd_sn rfl (rd_sn rfl (rd_sn rfl H400))))))))))))))))))))))))))))))))))))))))))))))))))))))) rfl rfl ?_
  refine k_iret rfl rfl ?_
  refine l_ild (p' := 2124) rfl rfl rfl rfl ?_
  refine l_icmp (p' := 2129) true rfl rfl (by decide +kernel) rfl ?_
  refine l_ild (p' := 2131) rfl rfl rfl rfl ?_
  refine l_if (p' := 2146) true rfl rfl (by decide +kernel) rfl ?_
  refine l_goto (p' := 2541) rfl rfl rfl ?_
  refine l_incz (p' := 2544) (w := (nI 4)) (ls' := [_, _, _, _, _, _, _, _, _, _]) rfl rfl rfl rfl (by decide +kernel) rfl rfl ?_
  refine l_goto (p' := 28) rfl rfl rfl ?_
  refine l_ild (p' := 30) rfl rfl rfl rfl ?_
  refine l_alds (p' := 31) rfl rfl rfl rfl ?_
  refine l_lens (p' := 32) rfl rfl rfl ?_
  refine l_con (p' := 33) rfl rfl rfl ?_
  refine l_bz (p' := 34) (z := (nI 0)) rfl rfl rfl rfl rfl (by decide +kernel) ?_
  refine l_icmp (p' := 2547) true rfl rfl (by decide +kernel) rfl ?_
  refine l_con (p' := 2548) rfl rfl rfl ?_
  refine l_end rfl rfl ?_
  exact ⟨Nat.le_trans (Nat.le_of_eq (len_s (len_s (len_s (len_a (len_s (len_s (len_s (len_s (len_a (len_s (len_s (len_s (len_s (len_a (len_s (len_s (len_s (len_s (len_a (len_s (len_s (len_s (len_s (len_a (len_s (len_s (len_s (len_s (len_a (len_s (len_s (len_s (len_s (len_a (len_s (len_s (len_s (len_s (len_a (len_s (len_s (len_s (len_s (len_a (len_a (len_a (len_s (len_s (len_s (len_s (len_s (len_s (len_s (len_s (len_s HL))))))))) rfl) rfl) rfl))))) rfl))))) rfl))))) rfl))))) rfl))))) rfl))))) rfl))))) rfl))))) rfl))))) (Nat.le_of_ble_eq_true rfl), Nat.le_trans (sz_s rfl (rd_sn rfl (rd_sn rfl (rd_app (rd_sn rfl (rd_sn rfl (rd_sn rfl (rd_sn rfl (rd_app (rd_sn rfl (rd_sn rfl (rd_sn rfl (rd_sn rfl (rd_app (rd_sn rfl (rd_sn rfl (rd_sn rfl (rd_sn rfl (rd_app (rd_sn rfl (rd_sn rfl (rd_sn rfl (rd_sn rfl (rd_app (rd_sn rfl (rd_sn rfl (rd_sn rfl (rd_sn rfl (rd_app (rd_sn rfl (rd_sn rfl (rd_sn rfl (rd_sn rfl (rd_app (rd_sn rfl (rd_sn rfl (rd_sn rfl (rd_sn rfl (rd_app (rd_sn rfl (rd_sn rfl (rd_sn rfl (rd_sn rfl (rd_app (rd_app (rd_app (rd_sn rfl (rd_sn rfl (rd_sn rfl (rd_sn rfl (rd_sn rfl (rd_sn rfl (rd_sn rfl (rd_sn rfl (rd_sn rfl H400)))))))))))))))))))))))))))))))))))))))))))))))))))))) rfl (sz_s rfl (rd_ss rfl (rd_nw rfl (len_s (len_s (len_s (len_s (len_a (len_s (len_s (len_s (len_s (len_a (len_s (len_s (len_s (len_s (len_a (len_s (len_s (len_s (len_s (len_a (len_s (len_s (len_s (len_s (len_a (len_s (len_s (len_s (len_s (len_a (len_s (len_s (len_s (len_s (len_a (len_s (len_s (len_s (len_s (len_a (len_a (len_a (len_s (len_s (len_s (len_s (len_s (len_s (len_s (len_s (len_s HL))))))))) rfl) rfl) rfl))))) rfl))))) rfl))))) rfl))))) rfl))))) rfl))))) rfl))))) rfl))))))) rfl (sz_s rfl (rd_nw rfl (len_s (len_s (len_s (len_s (len_a (len_s (len_s (len_s (len_s (len_a (len_s (len_s (len_s (len_s (len_a (len_s (len_s (len_s (len_s (len_a (len_s (len_s (len_s (len_s (len_a (len_s (len_s (len_s (len_s (len_a (len_s (len_s (len_s (len_s (len_a (len_s (len_s (len_s (len_s (len_a (len_a (len_a (len_s (len_s (len_s (len_s (len_s (len_s (len_s (len_s (len_s HL))))))))) rfl) rfl) rfl))))) rfl))))) rfl))))) rfl))))) rfl))))) rfl))))) rfl))))) rfl)))))) rfl (sz_aa (k := 3) (m := 20049) rfl rfl (sz_sA rfl (rd_sn rfl (rd_sn rfl (rd_sn rfl (rd_app (rd_ss rfl (rd_sn rfl (rd_sn rfl (rd_sn rfl (rd_app (rd_ss rfl (rd_sn rfl (rd_sn rfl (rd_sn rfl (rd_app (rd_ss rfl (rd_sn rfl (rd_sn rfl (rd_sn rfl (rd_app (rd_ss rfl (rd_sn rfl (rd_sn rfl (rd_sn rfl (rd_app (rd_ss rfl (rd_sn rfl (rd_sn rfl (rd_sn rfl (rd_app (rd_ss rfl (rd_sn rfl (rd_sn rfl (rd_sn rfl (rd_app (rd_ss rfl (rd_sn rfl (rd_sn rfl (rd_sn rfl (rd_app (rd_nw rfl (len_a (len_s (len_s (len_s (len_s (len_s (len_s (len_s (len_s (len_s HL))))))))) rfl))))))))))))))))))))))))))))))))))))))))) (sz_s rfl (rd_ss rfl (rd_ss rfl (rd_nw rfl (len_s (len_s (len_s (len_s (len_a (len_s (len_s (len_s (len_s (len_a (len_s (len_s (len_s (len_s (len_a (len_s (len_s (len_s (len_s (len_a (len_s (len_s (len_s (len_s (len_a (len_s (len_s (len_s (len_s (len_a (len_s (len_s (len_s (len_s (len_a (len_a (len_a (len_s (len_s (len_s (len_s (len_s (len_s (len_s (len_s (len_s HL))))))))) rfl) rfl) rfl))))) rfl))))) rfl))))) rfl))))) rfl))))) rfl))))) rfl)))))))) rfl (sz_s rfl (rd_ss rfl (rd_nw rfl (len_s (len_s (len_s (len_s (len_a (len_s (len_s (len_s (len_s (len_a (len_s (len_s (len_s (len_s (len_a (len_s (len_s (len_s (len_s (len_a (len_s (len_s (len_s (len_s (len_a (len_s (len_s (len_s (len_s (len_a (len_s (len_s (len_s (len_s (len_a (len_a (len_a (len_s (len_s (len_s (len_s (len_s (len_s (len_s (len_s (len_s HL))))))))) rfl) rfl) rfl))))) rfl))))) rfl))))) rfl))))) rfl))))) rfl))))) rfl))))))) rfl (sz_s rfl (rd_nw rfl (len_s (len_s (len_s (len_s (len_a (len_s (len_s (len_s (len_s (len_a (len_s (len_s (len_s (len_s (len_a (len_s (len_s (len_s (len_s (len_a (len_s (len_s (len_s (len_s (len_a (len_s (len_s (len_s (len_s (len_a (len_s (len_s (len_s (len_s (len_a (len_a (len_a (len_s (len_s (len_s (len_s (len_s (len_s (len_s (len_s (len_s HL))))))))) rfl) rfl) rfl))))) rfl))))) rfl))))) rfl))))) rfl))))) rfl))))) rfl)))))) rfl (sz_aa (k := 4) (m := 20046) rfl rfl (sz_sA rfl (rd_sn rfl (rd_sn rfl (rd_sn rfl (rd_app (rd_ss rfl (rd_sn rfl (rd_sn rfl (rd_sn rfl (rd_app (rd_ss rfl (rd_sn rfl (rd_sn rfl (rd_sn rfl (rd_app (rd_ss rfl (rd_sn rfl (rd_sn rfl (rd_sn rfl (rd_app (rd_ss rfl (rd_sn rfl (rd_sn rfl (rd_sn rfl (rd_app (rd_ss rfl (rd_sn rfl (rd_sn rfl (rd_sn rfl (rd_app (rd_ss rfl (rd_sn rfl (rd_sn rfl (rd_sn rfl (rd_app (rd_nw rfl (len_a (len_s (len_s (len_s (len_s (len_s (len_s (len_s (len_s (len_s HL))))))))) rfl)))))))))))))))))))))))))))))))))))) (sz_s rfl (rd_ss rfl (rd_ss rfl (rd_nw rfl (len_s (len_s (len_s (len_s (len_a (len_s (len_s (len_s (len_s (len_a (len_s (len_s (len_s (len_s (len_a (len_s (len_s (len_s (len_s (len_a (len_s (len_s (len_s (len_s (len_a (len_s (len_s (len_s (len_s (len_a (len_a (len_a (len_s (len_s (len_s (len_s (len_s (len_s (len_s (len_s (len_s HL))))))))) rfl) rfl) rfl))))) rfl))))) rfl))))) rfl))))) rfl))))) rfl)))))))) rfl (sz_s rfl (rd_ss rfl (rd_nw rfl (len_s (len_s (len_s (len_s (len_a (len_s (len_s (len_s (len_s (len_a (len_s (len_s (len_s (len_s (len_a (len_s (len_s (len_s (len_s (len_a (len_s (len_s (len_s (len_s (len_a (len_s (len_s (len_s (len_s (len_a (len_a (len_a (len_s (len_s (len_s (len_s (len_s (len_s (len_s (len_s (len_s HL))))))))) rfl) rfl) rfl))))) rfl))))) rfl))))) rfl))))) rfl))))) rfl))))))) rfl (sz_s rfl (rd_nw rfl (len_s (len_s (len_s (len_s (len_a (len_s (len_s (len_s (len_s (len_a (len_s (len_s (len_s (len_s (len_a (len_s (len_s (len_s (len_s (len_a (len_s (len_s (len_s (len_s (len_a (len_s (len_s (len_s (len_s (len_a (len_a (len_a (len_s (len_s (len_s (len_s (len_s (len_s (len_s (len_s (len_s HL))))))))) rfl) rfl) rfl))))) rfl))))) rfl))))) rfl))))) rfl))))) rfl)))))) rfl (sz_aa (k := 4) (m := 20042) rfl rfl (sz_sA rfl (rd_sn rfl (rd_sn rfl (rd_sn rfl (rd_app (rd_ss rfl (rd_sn rfl (rd_sn rfl (rd_sn rfl (rd_app (rd_ss rfl (rd_sn rfl (rd_sn rfl (rd_sn rfl (rd_app (rd_ss rfl (rd_sn rfl (rd_sn rfl (rd_sn rfl (rd_app (rd_ss rfl (rd_sn rfl (rd_sn rfl (rd_sn rfl (rd_app (rd_ss rfl (rd_sn rfl (rd_sn rfl (rd_sn rfl (rd_app (rd_nw rfl (len_a (len_s (len_s (len_s (len_s (len_s (len_s (len_s (len_s (len_s HL))))))))) rfl))))))))))))))))))))))))))))))) (sz_s rfl (rd_ss rfl (rd_ss rfl (rd_nw rfl (len_s (len_s (len_s (len_s (len_a (len_s (len_s (len_s (len_s (len_a (len_s (len_s (len_s (len_s (len_a (len_s (len_s (len_s (len_s (len_a (len_s (len_s (len_s (len_s (len_a (len_a (len_a (len_s (len_s (len_s (len_s (len_s (len_s (len_s (len_s (len_s HL))))))))) rfl) rfl) rfl))))) rfl))))) rfl))))) rfl))))) rfl)))))))) rfl (sz_s rfl (rd_ss rfl (rd_nw rfl (len_s (len_s (len_s (len_s (len_a (len_s (len_s (len_s (len_s (len_a (len_s (len_s (len_s (len_s (len_a (len_s (len_s (len_s (len_s (len_a (len_s (len_s (len_s (len_s (len_a (len_a (len_a (len_s (len_s (len_s (len_s (len_s (len_s (len_s (len_s (len_s HL))))))))) rfl) rfl) rfl))))) rfl))))) rfl))))) rfl))))) rfl))))))) rfl (sz_s rfl (rd_nw rfl (len_s (len_s (len_s (len_s (len_a (len_s (len_s (len_s (len_s (len_a (len_s (len_s (len_s (len_s (len_a (len_s (len_s (len_s (len_s (len_a (len_s (len_s (len_s (len_s (len_a (len_a (len_a (len_s (len_s (len_s (len_s (len_s (len_s (len_s (len_s (len_s HL))))))))) rfl) rfl) rfl))))) rfl))))) rfl))))) rfl))))) rfl)))))) rfl (sz_aa (k := 4) (m := 20038) rfl rfl (sz_sA rfl (rd_sn rfl (rd_sn rfl (rd_sn rfl (rd_app (rd_ss rfl (rd_sn rfl (rd_sn rfl (rd_sn rfl (rd_app (rd_ss rfl (rd_sn rfl (rd_sn rfl (rd_sn rfl (rd_app (rd_ss rfl (rd_sn rfl (rd_sn rfl (rd_sn rfl (rd_app (rd_ss rfl (rd_sn rfl (rd_sn rfl (rd_sn rfl (rd_app (rd_nw rfl (len_a (len_s (len_s (len_s (len_s (len_s (len_s (len_s (len_s (len_s HL))))))))) rfl)))))))))))))))))))))))))) (sz_s rfl (rd_ss rfl (rd_ss rfl (rd_nw rfl (len_s (len_s (len_s (len_s (len_a (len_s (len_s (len_s (len_s (len_a (len_s (len_s (len_s (len_s (len_a (len_s (len_s (len_s (len_s (len_a (len_a (len_a (len_s (len_s (len_s (len_s (len_s (len_s (len_s (len_s (len_s HL))))))))) rfl) rfl) rfl))))) rfl))))) rfl))))) rfl)))))))) rfl (sz_s rfl (rd_ss rfl (rd_nw rfl (len_s (len_s (len_s (len_s (len_a (len_s (len_s (len_s (len_s (len_a (len_s (len_s (len_s (len_s (len_a (len_s (len_s (len_s (len_s (len_a (len_a (len_a (len_s (len_s (len_s (len_s (len_s (len_s (len_s (len_s (len_s HL))))))))) rfl) rfl) rfl))))) rfl))))) rfl))))) rfl))))))) rfl (sz_s rfl (rd_nw rfl (len_s (len_s (len_s (len_s (len_a (len_s (len_s (len_s (len_s (len_a (len_s (len_s (len_s (len_s (len_a (len_s (len_s (len_s (len_s (len_a (len_a (len_a (len_s (len_s (len_s (len_s (len_s (len_s (len_s (len_s (len_s HL))))))))) rfl) rfl) rfl))))) rfl))))) rfl))))) rfl)))))) rfl (sz_aa (k := 4) (m := 20034) rfl rfl (sz_sA rfl (rd_sn rfl (rd_sn rfl (rd_sn rfl (rd_app (rd_ss rfl (rd_sn rfl (rd_sn rfl (rd_sn rfl (rd_app (rd_ss rfl (rd_sn rfl (rd_sn rfl (rd_sn rfl (rd_app (rd_ss rfl (rd_sn rfl (rd_sn rfl (rd_sn rfl (rd_app (rd_nw rfl (len_a (len_s (len_s (len_s (len_s (len_s (len_s (len_s (len_s (len_s HL))))))))) rfl))))))))))))))))))))) (sz_s rfl (rd_ss rfl (rd_ss rfl (rd_nw rfl (len_s (len_s (len_s (len_s (len_a (len_s (len_s (len_s (len_s (len_a (len_s (len_s (len_s (len_s (len_a (len_a (len_a (len_s (len_s (len_s (len_s (len_s (len_s (len_s (len_s (len_s HL))))))))) rfl) rfl) rfl))))) rfl))))) rfl)))))))) rfl (sz_s rfl (rd_ss rfl (rd_nw rfl (len_s (len_s (len_s (len_s (len_a (len_s (len_s (len_s (len_s (len_a (len_s (len_s (len_s (len_s (len_a (len_a (len_a (len_s (len_s (len_s (len_s (len_s (len_s (len_s (len_s (len_s HL))))))))) rfl) rfl) rfl))))) rfl))))) rfl))))))) rfl (sz_s rfl (rd_nw rfl (len_s (len_s (len_s (len_s (len_a (len_s (len_s (len_s (len_s (len_a (len_s (len_s (len_s (len_s (len_a (len_a (len_a (len_s (len_s (len_s (len_s (len_s (len_s (len_s (len_s (len_s HL))))))))) rfl) rfl) rfl))))) rfl))))) rfl)))))) rfl (sz_aa (k := 4) (m := 20030) rfl rfl (sz_sA rfl (rd_sn rfl (rd_sn rfl (rd_sn rfl (rd_app (rd_ss rfl (rd_sn rfl (rd_sn rfl (rd_sn rfl (rd_app (rd_ss rfl (rd_sn rfl (rd_sn rfl (rd_sn rfl (rd_app (rd_nw rfl (len_a (len_s (len_s (len_s (len_s (len_s (len_s (len_s (len_s (len_s HL))))))))) rfl)))))))))))))))) (sz_s rfl (rd_ss rfl (rd_ss rfl (rd_nw rfl (len_s (len_s (len_s (len_s (len_a (len_s (len_s (len_s (len_s (len_a (len_a (len_a (len_s (len_s (len_s (len_s (len_s (len_s (len_s (len_s (len_s HL))))))))) rfl) rfl) rfl))))) rfl)))))))) rfl (sz_s rfl (rd_ss rfl (rd_nw rfl (len_s (len_s (len_s (len_s (len_a (len_s (len_s (len_s (len_s (len_a (len_a (len_a (len_s (len_s (len_s (len_s (len_s (len_s (len_s (len_s (len_s HL))))))))) rfl) rfl) rfl))))) rfl))))))) rfl (sz_s rfl (rd_nw rfl (len_s (len_s (len_s (len_s (len_a (len_s (len_s (len_s (len_s (len_a (len_a (len_a (len_s (len_s (len_s (len_s (len_s (len_s (len_s (len_s (len_s HL))))))))) rfl) rfl) rfl))))) rfl)))))) rfl (sz_aa (k := 4) (m := 20026) rfl rfl (sz_sA rfl (rd_sn rfl (rd_sn rfl (rd_sn rfl (rd_app (rd_ss rfl (rd_sn rfl (rd_sn rfl (rd_sn rfl (rd_app (rd_nw rfl (len_a (len_s (len_s (len_s (len_s (len_s (len_s (len_s (len_s (len_s HL))))))))) rfl))))))))))) (sz_s rfl (rd_ss rfl (rd_ss rfl (rd_nw rfl (len_s (len_s (len_s (len_s (len_a (len_a (len_a (len_s (len_s (len_s (len_s (len_s (len_s (len_s (len_s (len_s HL))))))))) rfl) rfl) rfl)))))))) rfl (sz_s rfl (rd_ss rfl (rd_nw rfl (len_s (len_s (len_s (len_s (len_a (len_a (len_a (len_s (len_s (len_s (len_s (len_s (len_s (len_s (len_s (len_s HL))))))))) rfl) rfl) rfl))))))) rfl (sz_s rfl (rd_nw rfl (len_s (len_s (len_s (len_s (len_a (len_a (len_a (len_s (len_s (len_s (len_s (len_s (len_s (len_s (len_s (len_s HL))))))))) rfl) rfl) rfl)))))) rfl (sz_aa (k := 4) (m := 20022) rfl rfl (sz_sA rfl (rd_sn rfl (rd_sn rfl (rd_sn rfl (rd_app (rd_nw rfl (len_a (len_s (len_s (len_s (len_s (len_s (len_s (len_s (len_s (len_s HL))))))))) rfl)))))) (sz_s rfl (rd_ss rfl (rd_ss rfl (rd_nw rfl (len_a (len_a (len_s (len_s (len_s (len_s (len_s (len_s (len_s (len_s (len_s HL))))))))) rfl) rfl)))) rfl (sz_s rfl (rd_ss rfl (rd_nw rfl (len_a (len_a (len_s (len_s (len_s (len_s (len_s (len_s (len_s (len_s (len_s HL))))))))) rfl) rfl))) rfl (sz_s rfl (rd_nw rfl (len_a (len_a (len_s (len_s (len_s (len_s (len_s (len_s (len_s (len_s (len_s HL))))))))) rfl) rfl)) rfl (sz_aa (k := 4) (m := 20018) rfl rfl (sz_aa (k := 8) (m := 20014) rfl rfl (sz_aa (k := 6) (m := 20006) rfl rfl (sz_s rfl (rd_sn rfl (rd_sn rfl (rd_sn rfl (rd_sn rfl (rd_sn rfl (rd_sn rfl (rd_sn rfl (rd_sn rfl H393)))))))) rfl (sz_sA rfl (rd_ss rfl (rd_ss rfl (rd_ss rfl (rd_ss rfl (rd_ss rfl (rd_ss rfl (rd_ss rfl H395))))))) (sz_sA rfl (rd_ss rfl (rd_ss rfl (rd_ss rfl (rd_ss rfl (rd_ss rfl (rd_ss rfl H395)))))) (sz_sA rfl (rd_ss rfl (rd_ss rfl (rd_ss rfl (rd_ss rfl (rd_ss rfl H395))))) (sz_sA rfl (rd_ss rfl (rd_ss rfl (rd_ss rfl (rd_ss rfl H395)))) (sz_sA rfl (rd_ss rfl (rd_ss rfl (rd_ss rfl H395))) (sz_sA rfl (rd_ss rfl (rd_ss rfl H395)) (sz_sA rfl (rd_ss rfl H395) (sz_sA rfl H395 HZ))))))))))))))))))))))))))))))))))))))))))))))))))))))) (Nat.le_of_ble_eq_true rfl)⟩
