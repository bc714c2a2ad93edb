/-! One call on fresh objects. -/
theorem p1_37_p {xs : Nat → Int32} {h : mj_H} (hk : xs 0 &&& nI 63 = nI 37) {p : Int32} (hx1 : xs 1 = p) (hp : 0 ≤ p.toInt) (HL : h.length = 414) (HZ : mj_sz h ≤ 20000) (H0 : mj_rd h 0 = some (.inr (0, [.ref 1, .ref 38, .ref 299, .ref 336, .ref 373, .ref 375, .ref 378, .ref 381, .ref 387, .ref 393, .null, .null, .ref 397, .ref 398, .ref 399, .long (lN 0), .long (lN 0)]))) (H393 : mj_rd h 393 = some (.inr (9, [.ref 394, .ref 395, .ref 396, .int (nI 0), .int (nI 0)]))) (H395 : mj_rd h 395 = some (.inl (0, (8, .inl (fun _ => 0))))) (H400 : mj_rd h 400 = some (.inr (17, [.int (nI 0), .ref 401, .ref 402, .ref 1000300, .long (lN 0), .long (lN 0), .ref 410, .null, .null, .null, .ref 411]))) (H410 : mj_rd h 410 = some (.inr (18, [.ref 1000000, .int (nI 0), .int (nI 0)]))) : mj_fin 4 xs h := by
  unfold mj_fin
  refine l_ild (p' := 30) rfl rfl rfl rfl ?_
  refine l_alds (p' := 31) rfl rfl rfl rfl ?_
  refine l_lens (p' := 32) rfl rfl rfl ?_
  refine l_con (p' := 33) rfl rfl rfl ?_
  refine l_bz (p' := 34) (z := (nI 0)) rfl rfl rfl rfl rfl (by decide +kernel) ?_
  refine l_icmp (p' := 37) false rfl rfl (by decide +kernel) rfl ?_
  refine l_alds (p' := 38) rfl rfl rfl rfl ?_
  refine l_ild (p' := 40) rfl rfl rfl rfl ?_
  refine l_ialz (p' := 41) (m := 0) (z := (xs 0)) rfl rfl (by decide +kernel) rfl rfl rfl ?_
  refine l_bip (p' := 43) rfl rfl rfl ?_
  refine l_bz (p' := 44) (z := (nI 37)) rfl rfl rfl rfl rfl hk ?_
  refine l_sp (p' := 2093) (ls' := _) rfl rfl rfl rfl rfl ?_
  refine l_aldn (p' := 2094) rfl rfl rfl rfl ?_
  refine l_alds (p' := 2095) rfl rfl rfl rfl ?_
  refine l_ild (p' := 2097) rfl rfl rfl rfl ?_
  refine l_con (p' := 2098) rfl rfl rfl ?_
  refine l_bz (p' := 2099) (z := (nI 1)) rfl rfl rfl rfl rfl (by decide +kernel) ?_
  refine l_ialz (p' := 2100) (m := 1) (z := p) rfl rfl (by decide +kernel) rfl hx1 rfl ?_
  refine l_aldn (p' := 2101) rfl rfl rfl rfl ?_
  refine l_call (p' := 2104) (kc := 99) (ls0 := [_, _, _, _]) rfl rfl rfl rfl rfl rfl rfl rfl rfl rfl ?_
  refine s_aldn (p' := 1) rfl rfl rfl ?_
  refine s_con (p' := 2) rfl rfl ?_
  refine s_aldn (p' := 3) rfl rfl rfl ?_
  refine s_ildn (p' := 4) rfl rfl rfl ?_
  refine c_call (p' := 7) (kc := 98) (ls0 := [_, _, _]) rfl rfl rfl rfl rfl (mj_rcv_is H0) rfl rfl rfl ?_
  refine s_aldn (p' := 1) rfl rfl rfl ?_
  refine s_gf (p' := 4) rfl H0 rfl rfl ?_
  refine c_call (p' := 7) (kc := 97) (ls0 := [_, _, _]) rfl rfl rfl rfl rfl (mj_rcv_is H393) rfl rfl rfl ?_
  refine s_aldn (p' := 1) rfl rfl rfl ?_
  refine c_call (p' := 4) (kc := 96) (ls0 := [_, _]) rfl rfl rfl rfl rfl (mj_rcv_is H393) rfl rfl rfl ?_
  refine s_con (p' := 1) rfl rfl ?_
  refine s_istn (p' := 2) (ls' := [_, _]) rfl rfl rfl rfl ?_
  refine s_ildn (p' := 3) rfl rfl rfl ?_
  refine s_aldn (p' := 4) rfl rfl rfl ?_
  refine s_gf (p' := 7) rfl H393 rfl rfl ?_
  refine s_lenz (p' := 8) rfl (mj_rdA_is H395 (by decide)) rfl rfl ?_
  refine s_icmp (p' := 11) false rfl (by decide +kernel) rfl ?_
  refine s_aldn (p' := 12) rfl rfl rfl ?_
  refine s_gf (p' := 15) rfl H393 rfl rfl ?_
  refine s_ildn (p' := 16) rfl rfl rfl ?_
  refine s_aldn (p' := 17) rfl rfl rfl ?_
  refine s_ildn (p' := 18) rfl rfl rfl ?_
  refine c_call (p' := 21) (kc := 95) (ls0 := [_, _, _, _]) rfl rfl rfl rfl rfl (mj_rcv_is H393) rfl rfl rfl ?_
  refine s_ildn (p' := 1) rfl rfl rfl ?_
  refine s_istn (p' := 2) (ls' := [_, _, _, _]) rfl rfl rfl rfl ?_
  refine s_con (p' := 3) rfl rfl ?_
  refine s_istn (p' := 4) (ls' := [_, _, _, _]) rfl rfl rfl rfl ?_
  refine s_ildn (p' := 5) rfl rfl rfl ?_
  refine s_aldn (p' := 6) rfl rfl rfl ?_
  refine s_gf (p' := 9) rfl H393 rfl rfl ?_
  refine s_icmp (p' := 38) true rfl (by decide +kernel) rfl ?_
  refine s_ildn (p' := 39) rfl rfl rfl ?_
  refine c_iret rfl rfl ?_
  refine s_iasz (p' := 22) (m := 0) rfl rfl H395 (by decide +kernel) rfl rfl rfl ?_
  refine s_incz (p' := 25) (w := (nI 1)) (ls' := [_, _]) rfl rfl rfl (by decide +kernel) rfl rfl ?_
  refine s_goto (p' := 2) rfl rfl ?_
  refine s_ildn (p' := 3) rfl rfl rfl ?_
  refine s_aldn (p' := 4) rfl rfl rfl ?_
  refine s_gf (p' := 7) rfl (rd_sn rfl H393) rfl rfl ?_
  refine s_lenz (p' := 8) rfl (mj_rdA_is (rd_ss rfl H395) (by decide)) rfl rfl ?_
  refine s_icmp (p' := 11) false rfl (by decide +kernel) rfl ?_
  refine s_aldn (p' := 12) rfl rfl rfl ?_
  refine s_gf (p' := 15) rfl (rd_sn rfl H393) rfl rfl ?_
  refine s_ildn (p' := 16) rfl rfl rfl ?_
  refine s_aldn (p' := 17) rfl rfl rfl ?_
  refine s_ildn (p' := 18) rfl rfl rfl ?_
  refine c_call (p' := 21) (kc := 95) (ls0 := [_, _, _, _]) rfl rfl rfl rfl rfl (mj_rcv_is (rd_sn rfl H393)) rfl rfl rfl ?_
  refine s_ildn (p' := 1) rfl rfl rfl ?_
  refine s_istn (p' := 2) (ls' := [_, _, _, _]) rfl rfl rfl rfl ?_
  refine s_con (p' := 3) rfl rfl ?_
  refine s_istn (p' := 4) (ls' := [_, _, _, _]) rfl rfl rfl rfl ?_
  refine s_ildn (p' := 5) rfl rfl rfl ?_
  refine s_aldn (p' := 6) rfl rfl rfl ?_
  refine s_gf (p' := 9) rfl (rd_sn rfl H393) rfl rfl ?_
  refine s_icmp (p' := 38) true rfl (by decide +kernel) rfl ?_
  refine s_ildn (p' := 39) rfl rfl rfl ?_
  refine c_iret rfl rfl ?_
  refine s_iasz (p' := 22) (m := 1) rfl rfl (rd_ss rfl H395) (by decide +kernel) rfl rfl rfl ?_
  refine s_incz (p' := 25) (w := (nI 2)) (ls' := [_, _]) rfl rfl rfl (by decide +kernel) rfl rfl ?_
  refine s_goto (p' := 2) rfl rfl ?_
  refine s_ildn (p' := 3) rfl rfl rfl ?_
  refine s_aldn (p' := 4) rfl rfl rfl ?_
  refine s_gf (p' := 7) rfl (rd_sn rfl (rd_sn rfl H393)) rfl rfl ?_
  refine s_lenz (p' := 8) rfl (mj_rdA_is (rd_ss rfl (rd_ss rfl H395)) (by decide)) rfl rfl ?_
  refine s_icmp (p' := 11) false rfl (by decide +kernel) rfl ?_
  refine s_aldn (p' := 12) rfl rfl rfl ?_
  refine s_gf (p' := 15) rfl (rd_sn rfl (rd_sn rfl H393)) rfl rfl ?_
  refine s_ildn (p' := 16) rfl rfl rfl ?_
  refine s_aldn (p' := 17) rfl rfl rfl ?_
  refine s_ildn (p' := 18) rfl rfl rfl ?_
  refine c_call (p' := 21) (kc := 95) (ls0 := [_, _, _, _]) rfl rfl rfl rfl rfl (mj_rcv_is (rd_sn rfl (rd_sn rfl H393))) rfl rfl rfl ?_
  refine s_ildn (p' := 1) rfl rfl rfl ?_
  refine s_istn (p' := 2) (ls' := [_, _, _, _]) rfl rfl rfl rfl ?_
  refine s_con (p' := 3) rfl rfl ?_
  refine s_istn (p' := 4) (ls' := [_, _, _, _]) rfl rfl rfl rfl ?_
  refine s_ildn (p' := 5) rfl rfl rfl ?_
  refine s_aldn (p' := 6) rfl rfl rfl ?_
  refine s_gf (p' := 9) rfl (rd_sn rfl (rd_sn rfl H393)) rfl rfl ?_
  refine s_icmp (p' := 38) true rfl (by decide +kernel) rfl ?_
  refine s_ildn (p' := 39) rfl rfl rfl ?_
  refine c_iret rfl rfl ?_
  refine s_iasz (p' := 22) (m := 2) rfl rfl (rd_ss rfl (rd_ss rfl H395)) (by decide +kernel) rfl rfl rfl ?_
  refine s_incz (p' := 25) (w := (nI 3)) (ls' := [_, _]) rfl rfl rfl (by decide +kernel) rfl rfl ?_
  refine s_goto (p' := 2) rfl rfl ?_
  refine s_ildn (p' := 3) rfl rfl rfl ?_
  refine s_aldn (p' := 4) rfl rfl rfl ?_
  refine s_gf (p' := 7) rfl (rd_sn rfl (rd_sn rfl (rd_sn rfl H393))) rfl rfl ?_
  refine s_lenz (p' := 8) rfl (mj_rdA_is (rd_ss rfl (rd_ss rfl (rd_ss rfl H395))) (by decide)) rfl rfl ?_
  refine s_icmp (p' := 11) false rfl (by decide +kernel) rfl ?_
  refine s_aldn (p' := 12) rfl rfl rfl ?_
  refine s_gf (p' := 15) rfl (rd_sn rfl (rd_sn rfl (rd_sn rfl H393))) rfl rfl ?_
  refine s_ildn (p' := 16) rfl rfl rfl ?_
  refine s_aldn (p' := 17) rfl rfl rfl ?_
  refine s_ildn (p' := 18) rfl rfl rfl ?_
  refine c_call (p' := 21) (kc := 95) (ls0 := [_, _, _, _]) rfl rfl rfl rfl rfl (mj_rcv_is (rd_sn rfl (rd_sn rfl (rd_sn rfl H393)))) rfl rfl rfl ?_
  refine s_ildn (p' := 1) rfl rfl rfl ?_
  refine s_istn (p' := 2) (ls' := [_, _, _, _]) rfl rfl rfl rfl ?_
  refine s_con (p' := 3) rfl rfl ?_
  refine s_istn (p' := 4) (ls' := [_, _, _, _]) rfl rfl rfl rfl ?_
  refine s_ildn (p' := 5) rfl rfl rfl ?_
  refine s_aldn (p' := 6) rfl rfl rfl ?_
  refine s_gf (p' := 9) rfl (rd_sn rfl (rd_sn rfl (rd_sn rfl H393))) rfl rfl ?_
  refine s_icmp (p' := 38) true rfl (by decide +kernel) rfl ?_
  refine s_ildn (p' := 39) rfl rfl rfl ?_
  refine c_iret rfl rfl ?_
  refine s_iasz (p' := 22) (m := 3) rfl rfl (rd_ss rfl (rd_ss rfl (rd_ss rfl H395))) (by decide +kernel) rfl rfl rfl ?_
  refine s_incz (p' := 25) (w := (nI 4)) (ls' := [_, _]) rfl rfl rfl (by decide +kernel) rfl rfl ?_
  refine s_goto (p' := 2) rfl rfl ?_
  refine s_ildn (p' := 3) rfl rfl rfl ?_
  refine s_aldn (p' := 4) rfl rfl rfl ?_
  refine s_gf (p' := 7) rfl (rd_sn rfl (rd_sn rfl (rd_sn rfl (rd_sn rfl H393)))) rfl rfl ?_
  refine s_lenz (p' := 8) rfl (mj_rdA_is (rd_ss rfl (rd_ss rfl (rd_ss rfl (rd_ss rfl H395)))) (by decide)) rfl rfl ?_
  refine s_icmp (p' := 11) false rfl (by decide +kernel) rfl ?_
  refine s_aldn (p' := 12) rfl rfl rfl ?_
  refine s_gf (p' := 15) rfl (rd_sn rfl (rd_sn rfl (rd_sn rfl (rd_sn rfl H393)))) rfl rfl ?_
  refine s_ildn (p' := 16) rfl rfl rfl ?_
  refine s_aldn (p' := 17) rfl rfl rfl ?_
  refine s_ildn (p' := 18) rfl rfl rfl ?_
  refine c_call (p' := 21) (kc := 95) (ls0 := [_, _, _, _]) rfl rfl rfl rfl rfl (mj_rcv_is (rd_sn rfl (rd_sn rfl (rd_sn rfl (rd_sn rfl H393))))) rfl rfl rfl ?_
  refine s_ildn (p' := 1) rfl rfl rfl ?_
  refine s_istn (p' := 2) (ls' := [_, _, _, _]) rfl rfl rfl rfl ?_
  refine s_con (p' := 3) rfl rfl ?_
  refine s_istn (p' := 4) (ls' := [_, _, _, _]) rfl rfl rfl rfl ?_
  refine s_ildn (p' := 5) rfl rfl rfl ?_
  refine s_aldn (p' := 6) rfl rfl rfl ?_
  refine s_gf (p' := 9) rfl (rd_sn rfl (rd_sn rfl (rd_sn rfl (rd_sn rfl H393)))) rfl rfl ?_
  refine s_icmp (p' := 38) true rfl (by decide +kernel) rfl ?_
  refine s_ildn (p' := 39) rfl rfl rfl ?_
  refine c_iret rfl rfl ?_
  refine s_iasz (p' := 22) (m := 4) rfl rfl (rd_ss rfl (rd_ss rfl (rd_ss rfl (rd_ss rfl H395)))) (by decide +kernel) rfl rfl rfl ?_
  refine s_incz (p' := 25) (w := (nI 5)) (ls' := [_, _]) rfl rfl rfl (by decide +kernel) rfl rfl ?_
  refine s_goto (p' := 2) rfl rfl ?_
  refine s_ildn (p' := 3) rfl rfl rfl ?_
  refine s_aldn (p' := 4) rfl rfl rfl ?_
  refine s_gf (p' := 7) rfl (rd_sn rfl (rd_sn rfl (rd_sn rfl (rd_sn rfl (rd_sn rfl H393))))) rfl rfl ?_
  refine s_lenz (p' := 8) rfl (mj_rdA_is (rd_ss rfl (rd_ss rfl (rd_ss rfl (rd_ss rfl (rd_ss rfl H395))))) (by decide)) rfl rfl ?_
  refine s_icmp (p' := 11) false rfl (by decide +kernel) rfl ?_
  refine s_aldn (p' := 12) rfl rfl rfl ?_
  refine s_gf (p' := 15) rfl (rd_sn rfl (rd_sn rfl (rd_sn rfl (rd_sn rfl (rd_sn rfl H393))))) rfl rfl ?_
  refine s_ildn (p' := 16) rfl rfl rfl ?_
  refine s_aldn (p' := 17) rfl rfl rfl ?_
  refine s_ildn (p' := 18) rfl rfl rfl ?_
  refine c_call (p' := 21) (kc := 95) (ls0 := [_, _, _, _]) rfl rfl rfl rfl rfl (mj_rcv_is (rd_sn rfl (rd_sn rfl (rd_sn rfl (rd_sn rfl (rd_sn rfl H393)))))) rfl rfl rfl ?_
  refine s_ildn (p' := 1) rfl rfl rfl ?_
  refine s_istn (p' := 2) (ls' := [_, _, _, _]) rfl rfl rfl rfl ?_
  refine s_con (p' := 3) rfl rfl ?_
  refine s_istn (p' := 4) (ls' := [_, _, _, _]) rfl rfl rfl rfl ?_
  refine s_ildn (p' := 5) rfl rfl rfl ?_
  refine s_aldn (p' := 6) rfl rfl rfl ?_
  refine s_gf (p' := 9) rfl (rd_sn rfl (rd_sn rfl (rd_sn rfl (rd_sn rfl (rd_sn rfl H393))))) rfl rfl ?_
  refine s_icmp (p' := 38) true rfl (by decide +kernel) rfl ?_
  refine s_ildn (p' := 39) rfl rfl rfl ?_
  refine c_iret rfl rfl ?_
  refine s_iasz (p' := 22) (m := 5) rfl rfl (rd_ss rfl (rd_ss rfl (rd_ss rfl (rd_ss rfl (rd_ss rfl H395))))) (by decide +kernel) rfl rfl rfl ?_
  refine s_incz (p' := 25) (w := (nI 6)) (ls' := [_, _]) rfl rfl rfl (by decide +kernel) rfl rfl ?_
  refine s_goto (p' := 2) rfl rfl ?_
  refine s_ildn (p' := 3) rfl rfl rfl ?_
  refine s_aldn (p' := 4) rfl rfl rfl ?_
  refine s_gf (p' := 7) rfl (rd_sn rfl (rd_sn rfl (rd_sn rfl (rd_sn rfl (rd_sn rfl (rd_sn rfl H393)))))) rfl rfl ?_
  refine s_lenz (p' := 8) rfl (mj_rdA_is (rd_ss rfl (rd_ss rfl (rd_ss rfl (rd_ss rfl (rd_ss rfl (rd_ss rfl H395)))))) (by decide)) rfl rfl ?_
  refine s_icmp (p' := 11) false rfl (by decide +kernel) rfl ?_
  refine s_aldn (p' := 12) rfl rfl rfl ?_
  refine s_gf (p' := 15) rfl (rd_sn rfl (rd_sn rfl (rd_sn rfl (rd_sn rfl (rd_sn rfl (rd_sn rfl H393)))))) rfl rfl ?_
  refine s_ildn (p' := 16) rfl rfl rfl ?_
  refine s_aldn (p' := 17) rfl rfl rfl ?_
  refine s_ildn (p' := 18) rfl rfl rfl ?_
  refine c_call (p' := 21) (kc := 95) (ls0 := [_, _, _, _]) rfl rfl rfl rfl rfl (mj_rcv_is (rd_sn rfl (rd_sn rfl (rd_sn rfl (rd_sn rfl (rd_sn rfl (rd_sn rfl H393))))))) rfl rfl rfl ?_
  refine s_ildn (p' := 1) rfl rfl rfl ?_
  refine s_istn (p' := 2) (ls' := [_, _, _, _]) rfl rfl rfl rfl ?_
  refine s_con (p' := 3) rfl rfl ?_
  refine s_istn (p' := 4) (ls' := [_, _, _, _]) rfl rfl rfl rfl ?_
  refine s_ildn (p' := 5) rfl rfl rfl ?_
  refine s_aldn (p' := 6) rfl rfl rfl ?_
  refine s_gf (p' := 9) rfl (rd_sn rfl (rd_sn rfl (rd_sn rfl (rd_sn rfl (rd_sn rfl (rd_sn rfl H393)))))) rfl rfl ?_
  refine s_icmp (p' := 38) true rfl (by decide +kernel) rfl ?_
  refine s_ildn (p' := 39) rfl rfl rfl ?_
  refine c_iret rfl rfl ?_
  refine s_iasz (p' := 22) (m := 6) rfl rfl (rd_ss rfl (rd_ss rfl (rd_ss rfl (rd_ss rfl (rd_ss rfl (rd_ss rfl H395)))))) (by decide +kernel) rfl rfl rfl ?_
  refine s_incz (p' := 25) (w := (nI 7)) (ls' := [_, _]) rfl rfl rfl (by decide +kernel) rfl rfl ?_
  refine s_goto (p' := 2) rfl rfl ?_
  refine s_ildn (p' := 3) rfl rfl rfl ?_
  refine s_aldn (p' := 4) rfl rfl rfl ?_
  refine s_gf (p' := 7) rfl (rd_sn rfl (rd_sn rfl (rd_sn rfl (rd_sn rfl (rd_sn rfl (rd_sn rfl (rd_sn rfl H393))))))) rfl rfl ?_
  refine s_lenz (p' := 8) rfl (mj_rdA_is (rd_ss rfl (rd_ss rfl (rd_ss rfl (rd_ss rfl (rd_ss rfl (rd_ss rfl (rd_ss rfl H395))))))) (by decide)) rfl rfl ?_
  refine s_icmp (p' := 11) false rfl (by decide +kernel) rfl ?_
  refine s_aldn (p' := 12) rfl rfl rfl ?_
  refine s_gf (p' := 15) rfl (rd_sn rfl (rd_sn rfl (rd_sn rfl (rd_sn rfl (rd_sn rfl (rd_sn rfl (rd_sn rfl H393))))))) rfl rfl ?_
  refine s_ildn (p' := 16) rfl rfl rfl ?_
  refine s_aldn (p' := 17) rfl rfl rfl ?_
  refine s_ildn (p' := 18) rfl rfl rfl ?_
  refine c_call (p' := 21) (kc := 95) (ls0 := [_, _, _, _]) rfl rfl rfl rfl rfl (mj_rcv_is (rd_sn rfl (rd_sn rfl (rd_sn rfl (rd_sn rfl (rd_sn rfl (rd_sn rfl (rd_sn rfl H393)))))))) rfl rfl rfl ?_
  refine s_ildn (p' := 1) rfl rfl rfl ?_
  refine s_istn (p' := 2) (ls' := [_, _, _, _]) rfl rfl rfl rfl ?_
  refine s_con (p' := 3) rfl rfl ?_
  refine s_istn (p' := 4) (ls' := [_, _, _, _]) rfl rfl rfl rfl ?_
  refine s_ildn (p' := 5) rfl rfl rfl ?_
  refine s_aldn (p' := 6) rfl rfl rfl ?_
  refine s_gf (p' := 9) rfl (rd_sn rfl (rd_sn rfl (rd_sn rfl (rd_sn rfl (rd_sn rfl (rd_sn rfl (rd_sn rfl H393))))))) rfl rfl ?_
  refine s_icmp (p' := 38) true rfl (by decide +kernel) rfl ?_
  refine s_ildn (p' := 39) rfl rfl rfl ?_
  refine c_iret rfl rfl ?_
  refine s_iasz (p' := 22) (m := 7) rfl rfl (rd_ss rfl (rd_ss rfl (rd_ss rfl (rd_ss rfl (rd_ss rfl (rd_ss rfl (rd_ss rfl H395))))))) (by decide +kernel) rfl rfl rfl ?_
  refine s_incz (p' := 25) (w := (nI 8)) (ls' := [_, _]) rfl rfl rfl (by decide +kernel) rfl rfl ?_
  refine s_goto (p' := 2) rfl rfl ?_
  refine s_ildn (p' := 3) rfl rfl rfl ?_
  refine s_aldn (p' := 4) rfl rfl rfl ?_
  refine s_gf (p' := 7) rfl (rd_sn rfl (rd_sn rfl (rd_sn rfl (rd_sn rfl (rd_sn rfl (rd_sn rfl (rd_sn rfl (rd_sn rfl H393)))))))) rfl rfl ?_
  refine s_lenz (p' := 8) rfl (mj_rdA_is (rd_ss rfl (rd_ss rfl (rd_ss rfl (rd_ss rfl (rd_ss rfl (rd_ss rfl (rd_ss rfl (rd_ss rfl H395)))))))) (by decide)) rfl rfl ?_
  refine s_icmp (p' := 28) true rfl (by decide +kernel) rfl ?_
  refine c_ret rfl ?_
  refine s_aldn (p' := 5) rfl rfl rfl ?_
  refine s_con (p' := 6) rfl rfl ?_
  refine s_pfz (p' := 9) (fs' := [_, _, _, _, _]) rfl rfl (rd_sn rfl (rd_sn rfl (rd_sn rfl (rd_sn rfl (rd_sn rfl (rd_sn rfl (rd_sn rfl (rd_sn rfl H393)))))))) rfl rfl rfl rfl ?_
  refine s_con (p' := 10) rfl rfl ?_
  refine s_istn (p' := 11) (ls' := [_, _, _]) rfl rfl rfl rfl ?_
  refine s_ildn (p' := 12) rfl rfl rfl ?_
  refine s_aldn (p' := 13) rfl rfl rfl ?_
  refine s_gf (p' := 16) rfl (rd_ss rfl (rd_sn rfl (rd_sn rfl (rd_sn rfl (rd_sn rfl (rd_sn rfl (rd_sn rfl (rd_sn rfl (rd_sn rfl H393))))))))) rfl rfl ?_
  refine s_lenz (p' := 17) rfl (mj_rdA_is (rd_sn rfl (rd_ss rfl (rd_ss rfl (rd_ss rfl (rd_ss rfl (rd_ss rfl (rd_ss rfl (rd_ss rfl (rd_ss rfl H395))))))))) (by decide)) rfl rfl ?_
  refine s_icmp (p' := 20) false rfl (by decide +kernel) rfl ?_
  refine s_con (p' := 21) rfl rfl ?_
  refine s_istn (p' := 22) (ls' := [_, _, _]) rfl rfl rfl rfl ?_
  refine s_ildn (p' := 23) rfl rfl rfl ?_
  refine s_con (p' := 24) rfl rfl ?_
  refine s_icmp (p' := 27) false rfl (by decide +kernel) rfl ?_
  refine s_ildn (p' := 28) rfl rfl rfl ?_
  refine s_aldn (p' := 29) rfl rfl rfl ?_
  refine s_gf (p' := 32) rfl (rd_ss rfl (rd_sn rfl (rd_sn rfl (rd_sn rfl (rd_sn rfl (rd_sn rfl (rd_sn rfl (rd_sn rfl (rd_sn rfl H393))))))))) rfl rfl ?_
  refine s_ildn (p' := 33) rfl rfl rfl ?_
  refine s_ialz (p' := 34) (m := 0) (v := (nI 0)) rfl (rd_sn rfl (rd_ss rfl (rd_ss rfl (rd_ss rfl (rd_ss rfl (rd_ss rfl (rd_ss rfl (rd_ss rfl (rd_ss rfl H395))))))))) (by decide +kernel) rfl (by decide +kernel) rfl ?_
  refine s_con (p' := 35) rfl rfl ?_
  refine s_bz (p' := 36) (z := (nI 4294967295)) rfl rfl rfl (by decide +kernel) ?_
  refine s_bz (p' := 37) (z := (nI 0)) rfl rfl rfl (by decide +kernel) ?_
  refine s_con (p' := 38) rfl rfl ?_
  refine s_ildn (p' := 39) rfl rfl rfl ?_
  refine s_bz (p' := 40) (z := (nI 1)) rfl rfl rfl (by decide +kernel) ?_
  refine s_bz (p' := 41) (z := (nI 0)) rfl rfl rfl (by decide +kernel) ?_
  refine s_if (p' := 55) true rfl (by decide +kernel) rfl ?_
  refine s_incz (p' := 58) (w := (nI 1)) (ls' := [_, _, _]) rfl rfl rfl (by decide +kernel) rfl rfl ?_
  refine s_goto (p' := 22) rfl rfl ?_
  refine s_ildn (p' := 23) rfl rfl rfl ?_
  refine s_con (p' := 24) rfl rfl ?_
  refine s_icmp (p' := 27) false rfl (by decide +kernel) rfl ?_
  refine s_ildn (p' := 28) rfl rfl rfl ?_
  refine s_aldn (p' := 29) rfl rfl rfl ?_
  refine s_gf (p' := 32) rfl (rd_ss rfl (rd_sn rfl (rd_sn rfl (rd_sn rfl (rd_sn rfl (rd_sn rfl (rd_sn rfl (rd_sn rfl (rd_sn rfl H393))))))))) rfl rfl ?_
  refine s_ildn (p' := 33) rfl rfl rfl ?_
  refine s_ialz (p' := 34) (m := 0) (v := (nI 0)) rfl (rd_sn rfl (rd_ss rfl (rd_ss rfl (rd_ss rfl (rd_ss rfl (rd_ss rfl (rd_ss rfl (rd_ss rfl (rd_ss rfl H395))))))))) (by decide +kernel) rfl (by decide +kernel) rfl ?_
  refine s_con (p' := 35) rfl rfl ?_
  refine s_bz (p' := 36) (z := (nI 4294967295)) rfl rfl rfl (by decide +kernel) ?_
  refine s_bz (p' := 37) (z := (nI 0)) rfl rfl rfl (by decide +kernel) ?_
  refine s_con (p' := 38) rfl rfl ?_
  refine s_ildn (p' := 39) rfl rfl rfl ?_
  refine s_bz (p' := 40) (z := (nI 2)) rfl rfl rfl (by decide +kernel) ?_
  refine s_bz (p' := 41) (z := (nI 0)) rfl rfl rfl (by decide +kernel) ?_
  refine s_if (p' := 55) true rfl (by decide +kernel) rfl ?_
  refine s_incz (p' := 58) (w := (nI 2)) (ls' := [_, _, _]) rfl rfl rfl (by decide +kernel) rfl rfl ?_
  refine s_goto (p' := 22) rfl rfl ?_
  refine s_ildn (p' := 23) rfl rfl rfl ?_
  refine s_con (p' := 24) rfl rfl ?_
  refine s_icmp (p' := 27) false rfl (by decide +kernel) rfl ?_
  refine s_ildn (p' := 28) rfl rfl rfl ?_
  refine s_aldn (p' := 29) rfl rfl rfl ?_
  refine s_gf (p' := 32) rfl (rd_ss rfl (rd_sn rfl (rd_sn rfl (rd_sn rfl (rd_sn rfl (rd_sn rfl (rd_sn rfl (rd_sn rfl (rd_sn rfl H393))))))))) rfl rfl ?_
  refine s_ildn (p' := 33) rfl rfl rfl ?_
  refine s_ialz (p' := 34) (m := 0) (v := (nI 0)) rfl (rd_sn rfl (rd_ss rfl (rd_ss rfl (rd_ss rfl (rd_ss rfl (rd_ss rfl (rd_ss rfl (rd_ss rfl (rd_ss rfl H395))))))))) (by decide +kernel) rfl (by decide +kernel) rfl ?_
  refine s_con (p' := 35) rfl rfl ?_
  refine s_bz (p' := 36) (z := (nI 4294967295)) rfl rfl rfl (by decide +kernel) ?_
  refine s_bz (p' := 37) (z := (nI 0)) rfl rfl rfl (by decide +kernel) ?_
  refine s_con (p' := 38) rfl rfl ?_
  refine s_ildn (p' := 39) rfl rfl rfl ?_
  refine s_bz (p' := 40) (z := (nI 4)) rfl rfl rfl (by decide +kernel) ?_
  refine s_bz (p' := 41) (z := (nI 0)) rfl rfl rfl (by decide +kernel) ?_
  refine s_if (p' := 55) true rfl (by decide +kernel) rfl ?_
  refine s_incz (p' := 58) (w := (nI 3)) (ls' := [_, _, _]) rfl rfl rfl (by decide +kernel) rfl rfl ?_
  refine s_goto (p' := 22) rfl rfl ?_
  refine s_ildn (p' := 23) rfl rfl rfl ?_
  refine s_con (p' := 24) rfl rfl ?_
  refine s_icmp (p' := 61) true rfl (by decide +kernel) rfl ?_
  refine s_con (p' := 62) rfl rfl ?_
  refine s_istn (p' := 63) (ls' := [_, _, _]) rfl rfl rfl rfl ?_
  refine s_ildn (p' := 64) rfl rfl rfl ?_
  refine s_con (p' := 65) rfl rfl ?_
  refine s_icmp (p' := 68) false rfl (by decide +kernel) rfl ?_
  refine s_aldn (p' := 69) rfl rfl rfl ?_
  refine s_gf (p' := 72) rfl (rd_ss rfl (rd_sn rfl (rd_sn rfl (rd_sn rfl (rd_sn rfl (rd_sn rfl (rd_sn rfl (rd_sn rfl (rd_sn rfl H393))))))))) rfl rfl ?_
  refine s_ildn (p' := 73) rfl rfl rfl ?_
  refine s_ialz (p' := 74) (m := 0) (v := (nI 0)) rfl (rd_sn rfl (rd_ss rfl (rd_ss rfl (rd_ss rfl (rd_ss rfl (rd_ss rfl (rd_ss rfl (rd_ss rfl (rd_ss rfl H395))))))))) (by decide +kernel) rfl (by decide +kernel) rfl ?_
  refine s_ildn (p' := 75) rfl rfl rfl ?_
  refine s_con (p' := 76) rfl rfl ?_
  refine s_bz (p' := 77) (z := (nI 4294967295)) rfl rfl rfl (by decide +kernel) ?_
  refine s_bz (p' := 78) (z := (nI 0)) rfl rfl rfl (by decide +kernel) ?_
  refine s_con (p' := 79) rfl rfl ?_
  refine s_ildn (p' := 80) rfl rfl rfl ?_
  refine s_bz (p' := 81) (z := (nI 1)) rfl rfl rfl (by decide +kernel) ?_
  refine s_bz (p' := 82) (z := (nI 0)) rfl rfl rfl (by decide +kernel) ?_
  refine s_if (p' := 91) true rfl (by decide +kernel) rfl ?_
  refine s_incz (p' := 94) (w := (nI 1)) (ls' := [_, _, _]) rfl rfl rfl (by decide +kernel) rfl rfl ?_
  refine s_goto (p' := 63) rfl rfl ?_
  refine s_ildn (p' := 64) rfl rfl rfl ?_
  refine s_con (p' := 65) rfl rfl ?_
  refine s_icmp (p' := 68) false rfl (by decide +kernel) rfl ?_
  refine s_aldn (p' := 69) rfl rfl rfl ?_
  refine s_gf (p' := 72) rfl (rd_ss rfl (rd_sn rfl (rd_sn rfl (rd_sn rfl (rd_sn rfl (rd_sn rfl (rd_sn rfl (rd_sn rfl (rd_sn rfl H393))))))))) rfl rfl ?_
  refine s_ildn (p' := 73) rfl rfl rfl ?_
  refine s_ialz (p' := 74) (m := 0) (v := (nI 0)) rfl (rd_sn rfl (rd_ss rfl (rd_ss rfl (rd_ss rfl (rd_ss rfl (rd_ss rfl (rd_ss rfl (rd_ss rfl (rd_ss rfl H395))))))))) (by decide +kernel) rfl (by decide +kernel) rfl ?_
  refine s_ildn (p' := 75) rfl rfl rfl ?_
  refine s_con (p' := 76) rfl rfl ?_
  refine s_bz (p' := 77) (z := (nI 4294967295)) rfl rfl rfl (by decide +kernel) ?_
  refine s_bz (p' := 78) (z := (nI 0)) rfl rfl rfl (by decide +kernel) ?_
  refine s_con (p' := 79) rfl rfl ?_
  refine s_ildn (p' := 80) rfl rfl rfl ?_
  refine s_bz (p' := 81) (z := (nI 2)) rfl rfl rfl (by decide +kernel) ?_
  refine s_bz (p' := 82) (z := (nI 0)) rfl rfl rfl (by decide +kernel) ?_
  refine s_if (p' := 91) true rfl (by decide +kernel) rfl ?_
  refine s_incz (p' := 94) (w := (nI 2)) (ls' := [_, _, _]) rfl rfl rfl (by decide +kernel) rfl rfl ?_
  refine s_goto (p' := 63) rfl rfl ?_
  refine s_ildn (p' := 64) rfl rfl rfl ?_
  refine s_con (p' := 65) rfl rfl ?_
  refine s_icmp (p' := 68) false rfl (by decide +kernel) rfl ?_
  refine s_aldn (p' := 69) rfl rfl rfl ?_
  refine s_gf (p' := 72) rfl (rd_ss rfl (rd_sn rfl (rd_sn rfl (rd_sn rfl (rd_sn rfl (rd_sn rfl (rd_sn rfl (rd_sn rfl (rd_sn rfl H393))))))))) rfl rfl ?_
  refine s_ildn (p' := 73) rfl rfl rfl ?_
  refine s_ialz (p' := 74) (m := 0) (v := (nI 0)) rfl (rd_sn rfl (rd_ss rfl (rd_ss rfl (rd_ss rfl (rd_ss rfl (rd_ss rfl (rd_ss rfl (rd_ss rfl (rd_ss rfl H395))))))))) (by decide +kernel) rfl (by decide +kernel) rfl ?_
  refine s_ildn (p' := 75) rfl rfl rfl ?_
  refine s_con (p' := 76) rfl rfl ?_
  refine s_bz (p' := 77) (z := (nI 4294967295)) rfl rfl rfl (by decide +kernel) ?_
  refine s_bz (p' := 78) (z := (nI 0)) rfl rfl rfl (by decide +kernel) ?_
  refine s_con (p' := 79) rfl rfl ?_
  refine s_ildn (p' := 80) rfl rfl rfl ?_
  refine s_bz (p' := 81) (z := (nI 4)) rfl rfl rfl (by decide +kernel) ?_
  refine s_bz (p' := 82) (z := (nI 0)) rfl rfl rfl (by decide +kernel) ?_
  refine s_if (p' := 91) true rfl (by decide +kernel) rfl ?_
  refine s_incz (p' := 94) (w := (nI 3)) (ls' := [_, _, _]) rfl rfl rfl (by decide +kernel) rfl rfl ?_
  refine s_goto (p' := 63) rfl rfl ?_
  refine s_ildn (p' := 64) rfl rfl rfl ?_
  refine s_con (p' := 65) rfl rfl ?_
  refine s_icmp (p' := 97) true rfl (by decide +kernel) rfl ?_
  refine s_incz (p' := 100) (w := (nI 1)) (ls' := [_, _, _]) rfl rfl rfl (by decide +kernel) rfl rfl ?_
  refine s_goto (p' := 11) rfl rfl ?_
  refine s_ildn (p' := 12) rfl rfl rfl ?_
  refine s_aldn (p' := 13) rfl rfl rfl ?_
  refine s_gf (p' := 16) rfl (rd_ss rfl (rd_sn rfl (rd_sn rfl (rd_sn rfl (rd_sn rfl (rd_sn rfl (rd_sn rfl (rd_sn rfl (rd_sn rfl H393))))))))) rfl rfl ?_
  refine s_lenz (p' := 17) rfl (mj_rdA_is (rd_sn rfl (rd_ss rfl (rd_ss rfl (rd_ss rfl (rd_ss rfl (rd_ss rfl (rd_ss rfl (rd_ss rfl (rd_ss rfl H395))))))))) (by decide)) rfl rfl ?_
  refine s_icmp (p' := 20) false rfl (by decide +kernel) rfl ?_
  refine s_con (p' := 21) rfl rfl ?_
  refine s_istn (p' := 22) (ls' := [_, _, _]) rfl rfl rfl rfl ?_
  refine s_ildn (p' := 23) rfl rfl rfl ?_
  refine s_con (p' := 24) rfl rfl ?_
  refine s_icmp (p' := 27) false rfl (by decide +kernel) rfl ?_
  refine s_ildn (p' := 28) rfl rfl rfl ?_
  refine s_aldn (p' := 29) rfl rfl rfl ?_
  refine s_gf (p' := 32) rfl (rd_ss rfl (rd_sn rfl (rd_sn rfl (rd_sn rfl (rd_sn rfl (rd_sn rfl (rd_sn rfl (rd_sn rfl (rd_sn rfl H393))))))))) rfl rfl ?_
  refine s_ildn (p' := 33) rfl rfl rfl ?_
  refine s_ialz (p' := 34) (m := 1) (v := (nI 1)) rfl (rd_sn rfl (rd_ss rfl (rd_ss rfl (rd_ss rfl (rd_ss rfl (rd_ss rfl (rd_ss rfl (rd_ss rfl (rd_ss rfl H395))))))))) (by decide +kernel) rfl (by decide +kernel) rfl ?_
  refine s_con (p' := 35) rfl rfl ?_
  refine s_bz (p' := 36) (z := (nI 4294967294)) rfl rfl rfl (by decide +kernel) ?_
  refine s_bz (p' := 37) (z := (nI 0)) rfl rfl rfl (by decide +kernel) ?_
  refine s_con (p' := 38) rfl rfl ?_
  refine s_ildn (p' := 39) rfl rfl rfl ?_
  refine s_bz (p' := 40) (z := (nI 1)) rfl rfl rfl (by decide +kernel) ?_
  refine s_bz (p' := 41) (z := (nI 0)) rfl rfl rfl (by decide +kernel) ?_
  refine s_if (p' := 55) true rfl (by decide +kernel) rfl ?_
  refine s_incz (p' := 58) (w := (nI 1)) (ls' := [_, _, _]) rfl rfl rfl (by decide +kernel) rfl rfl ?_
  refine s_goto (p' := 22) rfl rfl ?_
  refine s_ildn (p' := 23) rfl rfl rfl ?_
  refine s_con (p' := 24) rfl rfl ?_
  refine s_icmp (p' := 27) false rfl (by decide +kernel) rfl ?_
  refine s_ildn (p' := 28) rfl rfl rfl ?_
  refine s_aldn (p' := 29) rfl rfl rfl ?_
  refine s_gf (p' := 32) rfl (rd_ss rfl (rd_sn rfl (rd_sn rfl (rd_sn rfl (rd_sn rfl (rd_sn rfl (rd_sn rfl (rd_sn rfl (rd_sn rfl H393))))))))) rfl rfl ?_
  refine s_ildn (p' := 33) rfl rfl rfl ?_
  refine s_ialz (p' := 34) (m := 1) (v := (nI 1)) rfl (rd_sn rfl (rd_ss rfl (rd_ss rfl (rd_ss rfl (rd_ss rfl (rd_ss rfl (rd_ss rfl (rd_ss rfl (rd_ss rfl H395))))))))) (by decide +kernel) rfl (by decide +kernel) rfl ?_
  refine s_con (p' := 35) rfl rfl ?_
  refine s_bz (p' := 36) (z := (nI 4294967294)) rfl rfl rfl (by decide +kernel) ?_
  refine s_bz (p' := 37) (z := (nI 0)) rfl rfl rfl (by decide +kernel) ?_
  refine s_con (p' := 38) rfl rfl ?_
  refine s_ildn (p' := 39) rfl rfl rfl ?_
  refine s_bz (p' := 40) (z := (nI 2)) rfl rfl rfl (by decide +kernel) ?_
  refine s_bz (p' := 41) (z := (nI 0)) rfl rfl rfl (by decide +kernel) ?_
  refine s_if (p' := 55) true rfl (by decide +kernel) rfl ?_
  refine s_incz (p' := 58) (w := (nI 2)) (ls' := [_, _, _]) rfl rfl rfl (by decide +kernel) rfl rfl ?_
  refine s_goto (p' := 22) rfl rfl ?_
  refine s_ildn (p' := 23) rfl rfl rfl ?_
  refine s_con (p' := 24) rfl rfl ?_
  refine s_icmp (p' := 27) false rfl (by decide +kernel) rfl ?_
  refine s_ildn (p' := 28) rfl rfl rfl ?_
  refine s_aldn (p' := 29) rfl rfl rfl ?_
  refine s_gf (p' := 32) rfl (rd_ss rfl (rd_sn rfl (rd_sn rfl (rd_sn rfl (rd_sn rfl (rd_sn rfl (rd_sn rfl (rd_sn rfl (rd_sn rfl H393))))))))) rfl rfl ?_
  refine s_ildn (p' := 33) rfl rfl rfl ?_
  refine s_ialz (p' := 34) (m := 1) (v := (nI 1)) rfl (rd_sn rfl (rd_ss rfl (rd_ss rfl (rd_ss rfl (rd_ss rfl (rd_ss rfl (rd_ss rfl (rd_ss rfl (rd_ss rfl H395))))))))) (by decide +kernel) rfl (by decide +kernel) rfl ?_
  refine s_con (p' := 35) rfl rfl ?_
  refine s_bz (p' := 36) (z := (nI 4294967294)) rfl rfl rfl (by decide +kernel) ?_
  refine s_bz (p' := 37) (z := (nI 0)) rfl rfl rfl (by decide +kernel) ?_
  refine s_con (p' := 38) rfl rfl ?_
  refine s_ildn (p' := 39) rfl rfl rfl ?_
  refine s_bz (p' := 40) (z := (nI 4)) rfl rfl rfl (by decide +kernel) ?_
  refine s_bz (p' := 41) (z := (nI 0)) rfl rfl rfl (by decide +kernel) ?_
  refine s_if (p' := 55) true rfl (by decide +kernel) rfl ?_
  refine s_incz (p' := 58) (w := (nI 3)) (ls' := [_, _, _]) rfl rfl rfl (by decide +kernel) rfl rfl ?_
  refine s_goto (p' := 22) rfl rfl ?_
  refine s_ildn (p' := 23) rfl rfl rfl ?_
  refine s_con (p' := 24) rfl rfl ?_
  refine s_icmp (p' := 61) true rfl (by decide +kernel) rfl ?_
  refine s_con (p' := 62) rfl rfl ?_
  refine s_istn (p' := 63) (ls' := [_, _, _]) rfl rfl rfl rfl ?_
  refine s_ildn (p' := 64) rfl rfl rfl ?_
  refine s_con (p' := 65) rfl rfl ?_
  refine s_icmp (p' := 68) false rfl (by decide +kernel) rfl ?_
  refine s_aldn (p' := 69) rfl rfl rfl ?_
  refine s_gf (p' := 72) rfl (rd_ss rfl (rd_sn rfl (rd_sn rfl (rd_sn rfl (rd_sn rfl (rd_sn rfl (rd_sn rfl (rd_sn rfl (rd_sn rfl H393))))))))) rfl rfl ?_
  refine s_ildn (p' := 73) rfl rfl rfl ?_
  refine s_ialz (p' := 74) (m := 1) (v := (nI 1)) rfl (rd_sn rfl (rd_ss rfl (rd_ss rfl (rd_ss rfl (rd_ss rfl (rd_ss rfl (rd_ss rfl (rd_ss rfl (rd_ss rfl H395))))))))) (by decide +kernel) rfl (by decide +kernel) rfl ?_
  refine s_ildn (p' := 75) rfl rfl rfl ?_
  refine s_con (p' := 76) rfl rfl ?_
  refine s_bz (p' := 77) (z := (nI 4294967294)) rfl rfl rfl (by decide +kernel) ?_
  refine s_bz (p' := 78) (z := (nI 0)) rfl rfl rfl (by decide +kernel) ?_
  refine s_con (p' := 79) rfl rfl ?_
  refine s_ildn (p' := 80) rfl rfl rfl ?_
  refine s_bz (p' := 81) (z := (nI 1)) rfl rfl rfl (by decide +kernel) ?_
  refine s_bz (p' := 82) (z := (nI 0)) rfl rfl rfl (by decide +kernel) ?_
  refine s_if (p' := 91) true rfl (by decide +kernel) rfl ?_
  refine s_incz (p' := 94) (w := (nI 1)) (ls' := [_, _, _]) rfl rfl rfl (by decide +kernel) rfl rfl ?_
  refine s_goto (p' := 63) rfl rfl ?_
  refine s_ildn (p' := 64) rfl rfl rfl ?_
  refine s_con (p' := 65) rfl rfl ?_
  refine s_icmp (p' := 68) false rfl (by decide +kernel) rfl ?_
  refine s_aldn (p' := 69) rfl rfl rfl ?_
  refine s_gf (p' := 72) rfl (rd_ss rfl (rd_sn rfl (rd_sn rfl (rd_sn rfl (rd_sn rfl (rd_sn rfl (rd_sn rfl (rd_sn rfl (rd_sn rfl H393))))))))) rfl rfl ?_
  refine s_ildn (p' := 73) rfl rfl rfl ?_
  refine s_ialz (p' := 74) (m := 1) (v := (nI 1)) rfl (rd_sn rfl (rd_ss rfl (rd_ss rfl (rd_ss rfl (rd_ss rfl (rd_ss rfl (rd_ss rfl (rd_ss rfl (rd_ss rfl H395))))))))) (by decide +kernel) rfl (by decide +kernel) rfl ?_
  refine s_ildn (p' := 75) rfl rfl rfl ?_
  refine s_con (p' := 76) rfl rfl ?_
  refine s_bz (p' := 77) (z := (nI 4294967294)) rfl rfl rfl (by decide +kernel) ?_
  refine s_bz (p' := 78) (z := (nI 0)) rfl rfl rfl (by decide +kernel) ?_
  refine s_con (p' := 79) rfl rfl ?_
  refine s_ildn (p' := 80) rfl rfl rfl ?_
  refine s_bz (p' := 81) (z := (nI 2)) rfl rfl rfl (by decide +kernel) ?_
  refine s_bz (p' := 82) (z := (nI 0)) rfl rfl rfl (by decide +kernel) ?_
  refine s_if (p' := 91) true rfl (by decide +kernel) rfl ?_
  refine s_incz (p' := 94) (w := (nI 2)) (ls' := [_, _, _]) rfl rfl rfl (by decide +kernel) rfl rfl ?_
  refine s_goto (p' := 63) rfl rfl ?_
  refine s_ildn (p' := 64) rfl rfl rfl ?_
  refine s_con (p' := 65) rfl rfl ?_
  refine s_icmp (p' := 68) false rfl (by decide +kernel) rfl ?_
  refine s_aldn (p' := 69) rfl rfl rfl ?_
  refine s_gf (p' := 72) rfl (rd_ss rfl (rd_sn rfl (rd_sn rfl (rd_sn rfl (rd_sn rfl (rd_sn rfl (rd_sn rfl (rd_sn rfl (rd_sn rfl H393))))))))) rfl rfl ?_
  refine s_ildn (p' := 73) rfl rfl rfl ?_
  refine s_ialz (p' := 74) (m := 1) (v := (nI 1)) rfl (rd_sn rfl (rd_ss rfl (rd_ss rfl (rd_ss rfl (rd_ss rfl (rd_ss rfl (rd_ss rfl (rd_ss rfl (rd_ss rfl H395))))))))) (by decide +kernel) rfl (by decide +kernel) rfl ?_
  refine s_ildn (p' := 75) rfl rfl rfl ?_
  refine s_con (p' := 76) rfl rfl ?_
  refine s_bz (p' := 77) (z := (nI 4294967294)) rfl rfl rfl (by decide +kernel) ?_
  refine s_bz (p' := 78) (z := (nI 0)) rfl rfl rfl (by decide +kernel) ?_
  refine s_con (p' := 79) rfl rfl ?_
  refine s_ildn (p' := 80) rfl rfl rfl ?_
  refine s_bz (p' := 81) (z := (nI 4)) rfl rfl rfl (by decide +kernel) ?_
  refine s_bz (p' := 82) (z := (nI 0)) rfl rfl rfl (by decide +kernel) ?_
  refine s_if (p' := 91) true rfl (by decide +kernel) rfl ?_
  refine s_incz (p' := 94) (w := (nI 3)) (ls' := [_, _, _]) rfl rfl rfl (by decide +kernel) rfl rfl ?_
  refine s_goto (p' := 63) rfl rfl ?_
  refine s_ildn (p' := 64) rfl rfl rfl ?_
  refine s_con (p' := 65) rfl rfl ?_
  refine s_icmp (p' := 97) true rfl (by decide +kernel) rfl ?_
  refine s_incz (p' := 100) (w := (nI 2)) (ls' := [_, _, _]) rfl rfl rfl (by decide +kernel) rfl rfl ?_
  refine s_goto (p' := 11) rfl rfl ?_
  refine s_ildn (p' := 12) rfl rfl rfl ?_
  refine s_aldn (p' := 13) rfl rfl rfl ?_
  refine s_gf (p' := 16) rfl (rd_ss rfl (rd_sn rfl (rd_sn rfl (rd_sn rfl (rd_sn rfl (rd_sn rfl (rd_sn rfl (rd_sn rfl (rd_sn rfl H393))))))))) rfl rfl ?_
  refine s_lenz (p' := 17) rfl (mj_rdA_is (rd_sn rfl (rd_ss rfl (rd_ss rfl (rd_ss rfl (rd_ss rfl (rd_ss rfl (rd_ss rfl (rd_ss rfl (rd_ss rfl H395))))))))) (by decide)) rfl rfl ?_
  refine s_icmp (p' := 20) false rfl (by decide +kernel) rfl ?_
  refine s_con (p' := 21) rfl rfl ?_
  refine s_istn (p' := 22) (ls' := [_, _, _]) rfl rfl rfl rfl ?_
  refine s_ildn (p' := 23) rfl rfl rfl ?_
  refine s_con (p' := 24) rfl rfl ?_
  refine s_icmp (p' := 27) false rfl (by decide +kernel) rfl ?_
  refine s_ildn (p' := 28) rfl rfl rfl ?_
  refine s_aldn (p' := 29) rfl rfl rfl ?_
  refine s_gf (p' := 32) rfl (rd_ss rfl (rd_sn rfl (rd_sn rfl (rd_sn rfl (rd_sn rfl (rd_sn rfl (rd_sn rfl (rd_sn rfl (rd_sn rfl H393))))))))) rfl rfl ?_
  refine s_ildn (p' := 33) rfl rfl rfl ?_
  refine s_ialz (p' := 34) (m := 2) (v := (nI 2)) rfl (rd_sn rfl (rd_ss rfl (rd_ss rfl (rd_ss rfl (rd_ss rfl (rd_ss rfl (rd_ss rfl (rd_ss rfl (rd_ss rfl H395))))))))) (by decide +kernel) rfl (by decide +kernel) rfl ?_
  refine s_con (p' := 35) rfl rfl ?_
  refine s_bz (p' := 36) (z := (nI 4294967293)) rfl rfl rfl (by decide +kernel) ?_
  refine s_bz (p' := 37) (z := (nI 0)) rfl rfl rfl (by decide +kernel) ?_
  refine s_con (p' := 38) rfl rfl ?_
  refine s_ildn (p' := 39) rfl rfl rfl ?_
  refine s_bz (p' := 40) (z := (nI 1)) rfl rfl rfl (by decide +kernel) ?_
  refine s_bz (p' := 41) (z := (nI 0)) rfl rfl rfl (by decide +kernel) ?_
  refine s_if (p' := 55) true rfl (by decide +kernel) rfl ?_
  refine s_incz (p' := 58) (w := (nI 1)) (ls' := [_, _, _]) rfl rfl rfl (by decide +kernel) rfl rfl ?_
  refine s_goto (p' := 22) rfl rfl ?_
  refine s_ildn (p' := 23) rfl rfl rfl ?_
  refine s_con (p' := 24) rfl rfl ?_
  refine s_icmp (p' := 27) false rfl (by decide +kernel) rfl ?_
  refine s_ildn (p' := 28) rfl rfl rfl ?_
  refine s_aldn (p' := 29) rfl rfl rfl ?_
  refine s_gf (p' := 32) rfl (rd_ss rfl (rd_sn rfl (rd_sn rfl (rd_sn rfl (rd_sn rfl (rd_sn rfl (rd_sn rfl (rd_sn rfl (rd_sn rfl H393))))))))) rfl rfl ?_
  refine s_ildn (p' := 33) rfl rfl rfl ?_
  refine s_ialz (p' := 34) (m := 2) (v := (nI 2)) rfl (rd_sn rfl (rd_ss rfl (rd_ss rfl (rd_ss rfl (rd_ss rfl (rd_ss rfl (rd_ss rfl (rd_ss rfl (rd_ss rfl H395))))))))) (by decide +kernel) rfl (by decide +kernel) rfl ?_
  refine s_con (p' := 35) rfl rfl ?_
  refine s_bz (p' := 36) (z := (nI 4294967293)) rfl rfl rfl (by decide +kernel) ?_
  refine s_bz (p' := 37) (z := (nI 0)) rfl rfl rfl (by decide +kernel) ?_
  refine s_con (p' := 38) rfl rfl ?_
  refine s_ildn (p' := 39) rfl rfl rfl ?_
  refine s_bz (p' := 40) (z := (nI 2)) rfl rfl rfl (by decide +kernel) ?_
  refine s_bz (p' := 41) (z := (nI 0)) rfl rfl rfl (by decide +kernel) ?_
  refine s_if (p' := 55) true rfl (by decide +kernel) rfl ?_
  refine s_incz (p' := 58) (w := (nI 2)) (ls' := [_, _, _]) rfl rfl rfl (by decide +kernel) rfl rfl ?_
  refine s_goto (p' := 22) rfl rfl ?_
  refine s_ildn (p' := 23) rfl rfl rfl ?_
  refine s_con (p' := 24) rfl rfl ?_
  refine s_icmp (p' := 27) false rfl (by decide +kernel) rfl ?_
  refine s_ildn (p' := 28) rfl rfl rfl ?_
  refine s_aldn (p' := 29) rfl rfl rfl ?_
  refine s_gf (p' := 32) rfl (rd_ss rfl (rd_sn rfl (rd_sn rfl (rd_sn rfl (rd_sn rfl (rd_sn rfl (rd_sn rfl (rd_sn rfl (rd_sn rfl H393))))))))) rfl rfl ?_
  refine s_ildn (p' := 33) rfl rfl rfl ?_
  refine s_ialz (p' := 34) (m := 2) (v := (nI 2)) rfl (rd_sn rfl (rd_ss rfl (rd_ss rfl (rd_ss rfl (rd_ss rfl (rd_ss rfl (rd_ss rfl (rd_ss rfl (rd_ss rfl H395))))))))) (by decide +kernel) rfl (by decide +kernel) rfl ?_
  refine s_con (p' := 35) rfl rfl ?_
  refine s_bz (p' := 36) (z := (nI 4294967293)) rfl rfl rfl (by decide +kernel) ?_
  refine s_bz (p' := 37) (z := (nI 0)) rfl rfl rfl (by decide +kernel) ?_
  refine s_con (p' := 38) rfl rfl ?_
  refine s_ildn (p' := 39) rfl rfl rfl ?_
  refine s_bz (p' := 40) (z := (nI 4)) rfl rfl rfl (by decide +kernel) ?_
  refine s_bz (p' := 41) (z := (nI 0)) rfl rfl rfl (by decide +kernel) ?_
  refine s_if (p' := 55) true rfl (by decide +kernel) rfl ?_
  refine s_incz (p' := 58) (w := (nI 3)) (ls' := [_, _, _]) rfl rfl rfl (by decide +kernel) rfl rfl ?_
  refine s_goto (p' := 22) rfl rfl ?_
  refine s_ildn (p' := 23) rfl rfl rfl ?_
  refine s_con (p' := 24) rfl rfl ?_
  refine s_icmp (p' := 61) true rfl (by decide +kernel) rfl ?_
  refine s_con (p' := 62) rfl rfl ?_
  refine s_istn (p' := 63) (ls' := [_, _, _]) rfl rfl rfl rfl ?_
  refine s_ildn (p' := 64) rfl rfl rfl ?_
  refine s_con (p' := 65) rfl rfl ?_
  refine s_icmp (p' := 68) false rfl (by decide +kernel) rfl ?_
  refine s_aldn (p' := 69) rfl rfl rfl ?_
  refine s_gf (p' := 72) rfl (rd_ss rfl (rd_sn rfl (rd_sn rfl (rd_sn rfl (rd_sn rfl (rd_sn rfl (rd_sn rfl (rd_sn rfl (rd_sn rfl H393))))))))) rfl rfl ?_
  refine s_ildn (p' := 73) rfl rfl rfl ?_
  refine s_ialz (p' := 74) (m := 2) (v := (nI 2)) rfl (rd_sn rfl (rd_ss rfl (rd_ss rfl (rd_ss rfl (rd_ss rfl (rd_ss rfl (rd_ss rfl (rd_ss rfl (rd_ss rfl H395))))))))) (by decide +kernel) rfl (by decide +kernel) rfl ?_
  refine s_ildn (p' := 75) rfl rfl rfl ?_
  refine s_con (p' := 76) rfl rfl ?_
  refine s_bz (p' := 77) (z := (nI 4294967293)) rfl rfl rfl (by decide +kernel) ?_
  refine s_bz (p' := 78) (z := (nI 0)) rfl rfl rfl (by decide +kernel) ?_
  refine s_con (p' := 79) rfl rfl ?_
  refine s_ildn (p' := 80) rfl rfl rfl ?_
  refine s_bz (p' := 81) (z := (nI 1)) rfl rfl rfl (by decide +kernel) ?_
  refine s_bz (p' := 82) (z := (nI 0)) rfl rfl rfl (by decide +kernel) ?_
  refine s_if (p' := 91) true rfl (by decide +kernel) rfl ?_
  refine s_incz (p' := 94) (w := (nI 1)) (ls' := [_, _, _]) rfl rfl rfl (by decide +kernel) rfl rfl ?_
  refine s_goto (p' := 63) rfl rfl ?_
  refine s_ildn (p' := 64) rfl rfl rfl ?_
  refine s_con (p' := 65) rfl rfl ?_
  refine s_icmp (p' := 68) false rfl (by decide +kernel) rfl ?_
  refine s_aldn (p' := 69) rfl rfl rfl ?_
  refine s_gf (p' := 72) rfl (rd_ss rfl (rd_sn rfl (rd_sn rfl (rd_sn rfl (rd_sn rfl (rd_sn rfl (rd_sn rfl (rd_sn rfl (rd_sn rfl H393))))))))) rfl rfl ?_
  refine s_ildn (p' := 73) rfl rfl rfl ?_
  refine s_ialz (p' := 74) (m := 2) (v := (nI 2)) rfl (rd_sn rfl (rd_ss rfl (rd_ss rfl (rd_ss rfl (rd_ss rfl (rd_ss rfl (rd_ss rfl (rd_ss rfl (rd_ss rfl H395))))))))) (by decide +kernel) rfl (by decide +kernel) rfl ?_
  refine s_ildn (p' := 75) rfl rfl rfl ?_
  refine s_con (p' := 76) rfl rfl ?_
  refine s_bz (p' := 77) (z := (nI 4294967293)) rfl rfl rfl (by decide +kernel) ?_
  refine s_bz (p' := 78) (z := (nI 0)) rfl rfl rfl (by decide +kernel) ?_
  refine s_con (p' := 79) rfl rfl ?_
  refine s_ildn (p' := 80) rfl rfl rfl ?_
  refine s_bz (p' := 81) (z := (nI 2)) rfl rfl rfl (by decide +kernel) ?_
  refine s_bz (p' := 82) (z := (nI 0)) rfl rfl rfl (by decide +kernel) ?_
  refine s_if (p' := 91) true rfl (by decide +kernel) rfl ?_
  refine s_incz (p' := 94) (w := (nI 2)) (ls' := [_, _, _]) rfl rfl rfl (by decide +kernel) rfl rfl ?_
  refine s_goto (p' := 63) rfl rfl ?_
  refine s_ildn (p' := 64) rfl rfl rfl ?_
  refine s_con (p' := 65) rfl rfl ?_
  refine s_icmp (p' := 68) false rfl (by decide +kernel) rfl ?_
  refine s_aldn (p' := 69) rfl rfl rfl ?_
  refine s_gf (p' := 72) rfl (rd_ss rfl (rd_sn rfl (rd_sn rfl (rd_sn rfl (rd_sn rfl (rd_sn rfl (rd_sn rfl (rd_sn rfl (rd_sn rfl H393))))))))) rfl rfl ?_
  refine s_ildn (p' := 73) rfl rfl rfl ?_
  refine s_ialz (p' := 74) (m := 2) (v := (nI 2)) rfl (rd_sn rfl (rd_ss rfl (rd_ss rfl (rd_ss rfl (rd_ss rfl (rd_ss rfl (rd_ss rfl (rd_ss rfl (rd_ss rfl H395))))))))) (by decide +kernel) rfl (by decide +kernel) rfl ?_
  refine s_ildn (p' := 75) rfl rfl rfl ?_
  refine s_con (p' := 76) rfl rfl ?_
  refine s_bz (p' := 77) (z := (nI 4294967293)) rfl rfl rfl (by decide +kernel) ?_
  refine s_bz (p' := 78) (z := (nI 0)) rfl rfl rfl (by decide +kernel) ?_
  refine s_con (p' := 79) rfl rfl ?_
  refine s_ildn (p' := 80) rfl rfl rfl ?_
  refine s_bz (p' := 81) (z := (nI 4)) rfl rfl rfl (by decide +kernel) ?_
  refine s_bz (p' := 82) (z := (nI 0)) rfl rfl rfl (by decide +kernel) ?_
  refine s_if (p' := 91) true rfl (by decide +kernel) rfl ?_
  refine s_incz (p' := 94) (w := (nI 3)) (ls' := [_, _, _]) rfl rfl rfl (by decide +kernel) rfl rfl ?_
  refine s_goto (p' := 63) rfl rfl ?_
  refine s_ildn (p' := 64) rfl rfl rfl ?_
  refine s_con (p' := 65) rfl rfl ?_
  refine s_icmp (p' := 97) true rfl (by decide +kernel) rfl ?_
  refine s_incz (p' := 100) (w := (nI 3)) (ls' := [_, _, _]) rfl rfl rfl (by decide +kernel) rfl rfl ?_
  refine s_goto (p' := 11) rfl rfl ?_
  refine s_ildn (p' := 12) rfl rfl rfl ?_
  refine s_aldn (p' := 13) rfl rfl rfl ?_
  refine s_gf (p' := 16) rfl (rd_ss rfl (rd_sn rfl (rd_sn rfl (rd_sn rfl (rd_sn rfl (rd_sn rfl (rd_sn rfl (rd_sn rfl (rd_sn rfl H393))))))))) rfl rfl ?_
  refine s_lenz (p' := 17) rfl (mj_rdA_is (rd_sn rfl (rd_ss rfl (rd_ss rfl (rd_ss rfl (rd_ss rfl (rd_ss rfl (rd_ss rfl (rd_ss rfl (rd_ss rfl H395))))))))) (by decide)) rfl rfl ?_
  refine s_icmp (p' := 20) false rfl (by decide +kernel) rfl ?_
  refine s_con (p' := 21) rfl rfl ?_
  refine s_istn (p' := 22) (ls' := [_, _, _]) rfl rfl rfl rfl ?_
  refine s_ildn (p' := 23) rfl rfl rfl ?_
  refine s_con (p' := 24) rfl rfl ?_
  refine s_icmp (p' := 27) false rfl (by decide +kernel) rfl ?_
  refine s_ildn (p' := 28) rfl rfl rfl ?_
  refine s_aldn (p' := 29) rfl rfl rfl ?_
  refine s_gf (p' := 32) rfl (rd_ss rfl (rd_sn rfl (rd_sn rfl (rd_sn rfl (rd_sn rfl (rd_sn rfl (rd_sn rfl (rd_sn rfl (rd_sn rfl H393))))))))) rfl rfl ?_
  refine s_ildn (p' := 33) rfl rfl rfl ?_
  refine s_ialz (p' := 34) (m := 3) (v := (nI 3)) rfl (rd_sn rfl (rd_ss rfl (rd_ss rfl (rd_ss rfl (rd_ss rfl (rd_ss rfl (rd_ss rfl (rd_ss rfl (rd_ss rfl H395))))))))) (by decide +kernel) rfl (by decide +kernel) rfl ?_
  refine s_con (p' := 35) rfl rfl ?_
  refine s_bz (p' := 36) (z := (nI 4294967292)) rfl rfl rfl (by decide +kernel) ?_
  refine s_bz (p' := 37) (z := (nI 0)) rfl rfl rfl (by decide +kernel) ?_
  refine s_con (p' := 38) rfl rfl ?_
  refine s_ildn (p' := 39) rfl rfl rfl ?_
  refine s_bz (p' := 40) (z := (nI 1)) rfl rfl rfl (by decide +kernel) ?_
  refine s_bz (p' := 41) (z := (nI 0)) rfl rfl rfl (by decide +kernel) ?_
  refine s_if (p' := 55) true rfl (by decide +kernel) rfl ?_
  refine s_incz (p' := 58) (w := (nI 1)) (ls' := [_, _, _]) rfl rfl rfl (by decide +kernel) rfl rfl ?_
  refine s_goto (p' := 22) rfl rfl ?_
  refine s_ildn (p' := 23) rfl rfl rfl ?_
  refine s_con (p' := 24) rfl rfl ?_
  refine s_icmp (p' := 27) false rfl (by decide +kernel) rfl ?_
  refine s_ildn (p' := 28) rfl rfl rfl ?_
  refine s_aldn (p' := 29) rfl rfl rfl ?_
  refine s_gf (p' := 32) rfl (rd_ss rfl (rd_sn rfl (rd_sn rfl (rd_sn rfl (rd_sn rfl (rd_sn rfl (rd_sn rfl (rd_sn rfl (rd_sn rfl H393))))))))) rfl rfl ?_
  refine s_ildn (p' := 33) rfl rfl rfl ?_
  refine s_ialz (p' := 34) (m := 3) (v := (nI 3)) rfl (rd_sn rfl (rd_ss rfl (rd_ss rfl (rd_ss rfl (rd_ss rfl (rd_ss rfl (rd_ss rfl (rd_ss rfl (rd_ss rfl H395))))))))) (by decide +kernel) rfl (by decide +kernel) rfl ?_
  refine s_con (p' := 35) rfl rfl ?_
  refine s_bz (p' := 36) (z := (nI 4294967292)) rfl rfl rfl (by decide +kernel) ?_
  refine s_bz (p' := 37) (z := (nI 0)) rfl rfl rfl (by decide +kernel) ?_
  refine s_con (p' := 38) rfl rfl ?_
  refine s_ildn (p' := 39) rfl rfl rfl ?_
  refine s_bz (p' := 40) (z := (nI 2)) rfl rfl rfl (by decide +kernel) ?_
  refine s_bz (p' := 41) (z := (nI 0)) rfl rfl rfl (by decide +kernel) ?_
  refine s_if (p' := 55) true rfl (by decide +kernel) rfl ?_
  refine s_incz (p' := 58) (w := (nI 2)) (ls' := [_, _, _]) rfl rfl rfl (by decide +kernel) rfl rfl ?_
  refine s_goto (p' := 22) rfl rfl ?_
  refine s_ildn (p' := 23) rfl rfl rfl ?_
  refine s_con (p' := 24) rfl rfl ?_
  refine s_icmp (p' := 27) false rfl (by decide +kernel) rfl ?_
  refine s_ildn (p' := 28) rfl rfl rfl ?_
  refine s_aldn (p' := 29) rfl rfl rfl ?_
  refine s_gf (p' := 32) rfl (rd_ss rfl (rd_sn rfl (rd_sn rfl (rd_sn rfl (rd_sn rfl (rd_sn rfl (rd_sn rfl (rd_sn rfl (rd_sn rfl H393))))))))) rfl rfl ?_
  refine s_ildn (p' := 33) rfl rfl rfl ?_
  refine s_ialz (p' := 34) (m := 3) (v := (nI 3)) rfl (rd_sn rfl (rd_ss rfl (rd_ss rfl (rd_ss rfl (rd_ss rfl (rd_ss rfl (rd_ss rfl (rd_ss rfl (rd_ss rfl H395))))))))) (by decide +kernel) rfl (by decide +kernel) rfl ?_
  refine s_con (p' := 35) rfl rfl ?_
  refine s_bz (p' := 36) (z := (nI 4294967292)) rfl rfl rfl (by decide +kernel) ?_
  refine s_bz (p' := 37) (z := (nI 0)) rfl rfl rfl (by decide +kernel) ?_
  refine s_con (p' := 38) rfl rfl ?_
  refine s_ildn (p' := 39) rfl rfl rfl ?_
  refine s_bz (p' := 40) (z := (nI 4)) rfl rfl rfl (by decide +kernel) ?_
  refine s_bz (p' := 41) (z := (nI 0)) rfl rfl rfl (by decide +kernel) ?_
  refine s_if (p' := 55) true rfl (by decide +kernel) rfl ?_
  refine s_incz (p' := 58) (w := (nI 3)) (ls' := [_, _, _]) rfl rfl rfl (by decide +kernel) rfl rfl ?_
  refine s_goto (p' := 22) rfl rfl ?_
  refine s_ildn (p' := 23) rfl rfl rfl ?_
  refine s_con (p' := 24) rfl rfl ?_
  refine s_icmp (p' := 61) true rfl (by decide +kernel) rfl ?_
  refine s_con (p' := 62) rfl rfl ?_
  refine s_istn (p' := 63) (ls' := [_, _, _]) rfl rfl rfl rfl ?_
  refine s_ildn (p' := 64) rfl rfl rfl ?_
  refine s_con (p' := 65) rfl rfl ?_
  refine s_icmp (p' := 68) false rfl (by decide +kernel) rfl ?_
  refine s_aldn (p' := 69) rfl rfl rfl ?_
  refine s_gf (p' := 72) rfl (rd_ss rfl (rd_sn rfl (rd_sn rfl (rd_sn rfl (rd_sn rfl (rd_sn rfl (rd_sn rfl (rd_sn rfl (rd_sn rfl H393))))))))) rfl rfl ?_
  refine s_ildn (p' := 73) rfl rfl rfl ?_
  refine s_ialz (p' := 74) (m := 3) (v := (nI 3)) rfl (rd_sn rfl (rd_ss rfl (rd_ss rfl (rd_ss rfl (rd_ss rfl (rd_ss rfl (rd_ss rfl (rd_ss rfl (rd_ss rfl H395))))))))) (by decide +kernel) rfl (by decide +kernel) rfl ?_
  refine s_ildn (p' := 75) rfl rfl rfl ?_
  refine s_con (p' := 76) rfl rfl ?_
  refine s_bz (p' := 77) (z := (nI 4294967292)) rfl rfl rfl (by decide +kernel) ?_
  refine s_bz (p' := 78) (z := (nI 0)) rfl rfl rfl (by decide +kernel) ?_
  refine s_con (p' := 79) rfl rfl ?_
  refine s_ildn (p' := 80) rfl rfl rfl ?_
  refine s_bz (p' := 81) (z := (nI 1)) rfl rfl rfl (by decide +kernel) ?_
  refine s_bz (p' := 82) (z := (nI 0)) rfl rfl rfl (by decide +kernel) ?_
  refine s_if (p' := 91) true rfl (by decide +kernel) rfl ?_
  refine s_incz (p' := 94) (w := (nI 1)) (ls' := [_, _, _]) rfl rfl rfl (by decide +kernel) rfl rfl ?_
  refine s_goto (p' := 63) rfl rfl ?_
  refine s_ildn (p' := 64) rfl rfl rfl ?_
  refine s_con (p' := 65) rfl rfl ?_
  refine s_icmp (p' := 68) false rfl (by decide +kernel) rfl ?_
  refine s_aldn (p' := 69) rfl rfl rfl ?_
  refine s_gf (p' := 72) rfl (rd_ss rfl (rd_sn rfl (rd_sn rfl (rd_sn rfl (rd_sn rfl (rd_sn rfl (rd_sn rfl (rd_sn rfl (rd_sn rfl H393))))))))) rfl rfl ?_
  refine s_ildn (p' := 73) rfl rfl rfl ?_
  refine s_ialz (p' := 74) (m := 3) (v := (nI 3)) rfl (rd_sn rfl (rd_ss rfl (rd_ss rfl (rd_ss rfl (rd_ss rfl (rd_ss rfl (rd_ss rfl (rd_ss rfl (rd_ss rfl H395))))))))) (by decide +kernel) rfl (by decide +kernel) rfl ?_
  refine s_ildn (p' := 75) rfl rfl rfl ?_
  refine s_con (p' := 76) rfl rfl ?_
  refine s_bz (p' := 77) (z := (nI 4294967292)) rfl rfl rfl (by decide +kernel) ?_
  refine s_bz (p' := 78) (z := (nI 0)) rfl rfl rfl (by decide +kernel) ?_
  refine s_con (p' := 79) rfl rfl ?_
  refine s_ildn (p' := 80) rfl rfl rfl ?_
  refine s_bz (p' := 81) (z := (nI 2)) rfl rfl rfl (by decide +kernel) ?_
  refine s_bz (p' := 82) (z := (nI 0)) rfl rfl rfl (by decide +kernel) ?_
  refine s_if (p' := 91) true rfl (by decide +kernel) rfl ?_
  refine s_incz (p' := 94) (w := (nI 2)) (ls' := [_, _, _]) rfl rfl rfl (by decide +kernel) rfl rfl ?_
  refine s_goto (p' := 63) rfl rfl ?_
  refine s_ildn (p' := 64) rfl rfl rfl ?_
  refine s_con (p' := 65) rfl rfl ?_
  refine s_icmp (p' := 68) false rfl (by decide +kernel) rfl ?_
  refine s_aldn (p' := 69) rfl rfl rfl ?_
  refine s_gf (p' := 72) rfl (rd_ss rfl (rd_sn rfl (rd_sn rfl (rd_sn rfl (rd_sn rfl (rd_sn rfl (rd_sn rfl (rd_sn rfl (rd_sn rfl H393))))))))) rfl rfl ?_
  refine s_ildn (p' := 73) rfl rfl rfl ?_
  refine s_ialz (p' := 74) (m := 3) (v := (nI 3)) rfl (rd_sn rfl (rd_ss rfl (rd_ss rfl (rd_ss rfl (rd_ss rfl (rd_ss rfl (rd_ss rfl (rd_ss rfl (rd_ss rfl H395))))))))) (by decide +kernel) rfl (by decide +kernel) rfl ?_
  refine s_ildn (p' := 75) rfl rfl rfl ?_
  refine s_con (p' := 76) rfl rfl ?_
  refine s_bz (p' := 77) (z := (nI 4294967292)) rfl rfl rfl (by decide +kernel) ?_
  refine s_bz (p' := 78) (z := (nI 0)) rfl rfl rfl (by decide +kernel) ?_
  refine s_con (p' := 79) rfl rfl ?_
  refine s_ildn (p' := 80) rfl rfl rfl ?_
  refine s_bz (p' := 81) (z := (nI 4)) rfl rfl rfl (by decide +kernel) ?_
  refine s_bz (p' := 82) (z := (nI 0)) rfl rfl rfl (by decide +kernel) ?_
  refine s_if (p' := 91) true rfl (by decide +kernel) rfl ?_
  refine s_incz (p' := 94) (w := (nI 3)) (ls' := [_, _, _]) rfl rfl rfl (by decide +kernel) rfl rfl ?_
  refine s_goto (p' := 63) rfl rfl ?_
  refine s_ildn (p' := 64) rfl rfl rfl ?_
  refine s_con (p' := 65) rfl rfl ?_
  refine s_icmp (p' := 97) true rfl (by decide +kernel) rfl ?_
  refine s_incz (p' := 100) (w := (nI 4)) (ls' := [_, _, _]) rfl rfl rfl (by decide +kernel) rfl rfl ?_
  refine s_goto (p' := 11) rfl rfl ?_
  refine s_ildn (p' := 12) rfl rfl rfl ?_
  refine s_aldn (p' := 13) rfl rfl rfl ?_
  refine s_gf (p' := 16) rfl (rd_ss rfl (rd_sn rfl (rd_sn rfl (rd_sn rfl (rd_sn rfl (rd_sn rfl (rd_sn rfl (rd_sn rfl (rd_sn rfl H393))))))))) rfl rfl ?_
  refine s_lenz (p' := 17) rfl (mj_rdA_is (rd_sn rfl (rd_ss rfl (rd_ss rfl (rd_ss rfl (rd_ss rfl (rd_ss rfl (rd_ss rfl (rd_ss rfl (rd_ss rfl H395))))))))) (by decide)) rfl rfl ?_
  refine s_icmp (p' := 20) false rfl (by decide +kernel) rfl ?_
  refine s_con (p' := 21) rfl rfl ?_
  refine s_istn (p' := 22) (ls' := [_, _, _]) rfl rfl rfl rfl ?_
  refine s_ildn (p' := 23) rfl rfl rfl ?_
  refine s_con (p' := 24) rfl rfl ?_
  refine s_icmp (p' := 27) false rfl (by decide +kernel) rfl ?_
  refine s_ildn (p' := 28) rfl rfl rfl ?_
  refine s_aldn (p' := 29) rfl rfl rfl ?_
  refine s_gf (p' := 32) rfl (rd_ss rfl (rd_sn rfl (rd_sn rfl (rd_sn rfl (rd_sn rfl (rd_sn rfl (rd_sn rfl (rd_sn rfl (rd_sn rfl H393))))))))) rfl rfl ?_
  refine s_ildn (p' := 33) rfl rfl rfl ?_
  refine s_ialz (p' := 34) (m := 4) (v := (nI 4)) rfl (rd_sn rfl (rd_ss rfl (rd_ss rfl (rd_ss rfl (rd_ss rfl (rd_ss rfl (rd_ss rfl (rd_ss rfl (rd_ss rfl H395))))))))) (by decide +kernel) rfl (by decide +kernel) rfl ?_
  refine s_con (p' := 35) rfl rfl ?_
  refine s_bz (p' := 36) (z := (nI 4294967291)) rfl rfl rfl (by decide +kernel) ?_
  refine s_bz (p' := 37) (z := (nI 0)) rfl rfl rfl (by decide +kernel) ?_
  refine s_con (p' := 38) rfl rfl ?_
  refine s_ildn (p' := 39) rfl rfl rfl ?_
  refine s_bz (p' := 40) (z := (nI 1)) rfl rfl rfl (by decide +kernel) ?_
  refine s_bz (p' := 41) (z := (nI 0)) rfl rfl rfl (by decide +kernel) ?_
  refine s_if (p' := 55) true rfl (by decide +kernel) rfl ?_
  refine s_incz (p' := 58) (w := (nI 1)) (ls' := [_, _, _]) rfl rfl rfl (by decide +kernel) rfl rfl ?_
  refine s_goto (p' := 22) rfl rfl ?_
  refine s_ildn (p' := 23) rfl rfl rfl ?_
  refine s_con (p' := 24) rfl rfl ?_
  refine s_icmp (p' := 27) false rfl (by decide +kernel) rfl ?_
  refine s_ildn (p' := 28) rfl rfl rfl ?_
  refine s_aldn (p' := 29) rfl rfl rfl ?_
  refine s_gf (p' := 32) rfl (rd_ss rfl (rd_sn rfl (rd_sn rfl (rd_sn rfl (rd_sn rfl (rd_sn rfl (rd_sn rfl (rd_sn rfl (rd_sn rfl H393))))))))) rfl rfl ?_
  refine s_ildn (p' := 33) rfl rfl rfl ?_
  refine s_ialz (p' := 34) (m := 4) (v := (nI 4)) rfl (rd_sn rfl (rd_ss rfl (rd_ss rfl (rd_ss rfl (rd_ss rfl (rd_ss rfl (rd_ss rfl (rd_ss rfl (rd_ss rfl H395))))))))) (by decide +kernel) rfl (by decide +kernel) rfl ?_
  refine s_con (p' := 35) rfl rfl ?_
  refine s_bz (p' := 36) (z := (nI 4294967291)) rfl rfl rfl (by decide +kernel) ?_
  refine s_bz (p' := 37) (z := (nI 0)) rfl rfl rfl (by decide +kernel) ?_
  refine s_con (p' := 38) rfl rfl ?_
  refine s_ildn (p' := 39) rfl rfl rfl ?_
  refine s_bz (p' := 40) (z := (nI 2)) rfl rfl rfl (by decide +kernel) ?_
  refine s_bz (p' := 41) (z := (nI 0)) rfl rfl rfl (by decide +kernel) ?_
  refine s_if (p' := 55) true rfl (by decide +kernel) rfl ?_
  refine s_incz (p' := 58) (w := (nI 2)) (ls' := [_, _, _]) rfl rfl rfl (by decide +kernel) rfl rfl ?_
  refine s_goto (p' := 22) rfl rfl ?_
  refine s_ildn (p' := 23) rfl rfl rfl ?_
  refine s_con (p' := 24) rfl rfl ?_
  refine s_icmp (p' := 27) false rfl (by decide +kernel) rfl ?_
  refine s_ildn (p' := 28) rfl rfl rfl ?_
  refine s_aldn (p' := 29) rfl rfl rfl ?_
  refine s_gf (p' := 32) rfl (rd_ss rfl (rd_sn rfl (rd_sn rfl (rd_sn rfl (rd_sn rfl (rd_sn rfl (rd_sn rfl (rd_sn rfl (rd_sn rfl H393))))))))) rfl rfl ?_
  refine s_ildn (p' := 33) rfl rfl rfl ?_
  refine s_ialz (p' := 34) (m := 4) (v := (nI 4)) rfl (rd_sn rfl (rd_ss rfl (rd_ss rfl (rd_ss rfl (rd_ss rfl (rd_ss rfl (rd_ss rfl (rd_ss rfl (rd_ss rfl H395))))))))) (by decide +kernel) rfl (by decide +kernel) rfl ?_
  refine s_con (p' := 35) rfl rfl ?_
  refine s_bz (p' := 36) (z := (nI 4294967291)) rfl rfl rfl (by decide +kernel) ?_
  refine s_bz (p' := 37) (z := (nI 0)) rfl rfl rfl (by decide +kernel) ?_
  refine s_con (p' := 38) rfl rfl ?_
  refine s_ildn (p' := 39) rfl rfl rfl ?_
  refine s_bz (p' := 40) (z := (nI 4)) rfl rfl rfl (by decide +kernel) ?_
  refine s_bz (p' := 41) (z := (nI 0)) rfl rfl rfl (by decide +kernel) ?_
  refine s_if (p' := 55) true rfl (by decide +kernel) rfl ?_
  refine s_incz (p' := 58) (w := (nI 3)) (ls' := [_, _, _]) rfl rfl rfl (by decide +kernel) rfl rfl ?_
  refine s_goto (p' := 22) rfl rfl ?_
  refine s_ildn (p' := 23) rfl rfl rfl ?_
  refine s_con (p' := 24) rfl rfl ?_
  refine s_icmp (p' := 61) true rfl (by decide +kernel) rfl ?_
  refine s_con (p' := 62) rfl rfl ?_
  refine s_istn (p' := 63) (ls' := [_, _, _]) rfl rfl rfl rfl ?_
  refine s_ildn (p' := 64) rfl rfl rfl ?_
  refine s_con (p' := 65) rfl rfl ?_
  refine s_icmp (p' := 68) false rfl (by decide +kernel) rfl ?_
  refine s_aldn (p' := 69) rfl rfl rfl ?_
  refine s_gf (p' := 72) rfl (rd_ss rfl (rd_sn rfl (rd_sn rfl (rd_sn rfl (rd_sn rfl (rd_sn rfl (rd_sn rfl (rd_sn rfl (rd_sn rfl H393))))))))) rfl rfl ?_
  refine s_ildn (p' := 73) rfl rfl rfl ?_
  refine s_ialz (p' := 74) (m := 4) (v := (nI 4)) rfl (rd_sn rfl (rd_ss rfl (rd_ss rfl (rd_ss rfl (rd_ss rfl (rd_ss rfl (rd_ss rfl (rd_ss rfl (rd_ss rfl H395))))))))) (by decide +kernel) rfl (by decide +kernel) rfl ?_
  refine s_ildn (p' := 75) rfl rfl rfl ?_
  refine s_con (p' := 76) rfl rfl ?_
  refine s_bz (p' := 77) (z := (nI 4294967291)) rfl rfl rfl (by decide +kernel) ?_
  refine s_bz (p' := 78) (z := (nI 0)) rfl rfl rfl (by decide +kernel) ?_
  refine s_con (p' := 79) rfl rfl ?_
  refine s_ildn (p' := 80) rfl rfl rfl ?_
  refine s_bz (p' := 81) (z := (nI 1)) rfl rfl rfl (by decide +kernel) ?_
  refine s_bz (p' := 82) (z := (nI 0)) rfl rfl rfl (by decide +kernel) ?_
  refine s_if (p' := 91) true rfl (by decide +kernel) rfl ?_
  refine s_incz (p' := 94) (w := (nI 1)) (ls' := [_, _, _]) rfl rfl rfl (by decide +kernel) rfl rfl ?_
  refine s_goto (p' := 63) rfl rfl ?_
  refine s_ildn (p' := 64) rfl rfl rfl ?_
  refine s_con (p' := 65) rfl rfl ?_
  refine s_icmp (p' := 68) false rfl (by decide +kernel) rfl ?_
  refine s_aldn (p' := 69) rfl rfl rfl ?_
  refine s_gf (p' := 72) rfl (rd_ss rfl (rd_sn rfl (rd_sn rfl (rd_sn rfl (rd_sn rfl (rd_sn rfl (rd_sn rfl (rd_sn rfl (rd_sn rfl H393))))))))) rfl rfl ?_
  refine s_ildn (p' := 73) rfl rfl rfl ?_
  refine s_ialz (p' := 74) (m := 4) (v := (nI 4)) rfl (rd_sn rfl (rd_ss rfl (rd_ss rfl (rd_ss rfl (rd_ss rfl (rd_ss rfl (rd_ss rfl (rd_ss rfl (rd_ss rfl H395))))))))) (by decide +kernel) rfl (by decide +kernel) rfl ?_
  refine s_ildn (p' := 75) rfl rfl rfl ?_
  refine s_con (p' := 76) rfl rfl ?_
  refine s_bz (p' := 77) (z := (nI 4294967291)) rfl rfl rfl (by decide +kernel) ?_
  refine s_bz (p' := 78) (z := (nI 0)) rfl rfl rfl (by decide +kernel) ?_
  refine s_con (p' := 79) rfl rfl ?_
  refine s_ildn (p' := 80) rfl rfl rfl ?_
  refine s_bz (p' := 81) (z := (nI 2)) rfl rfl rfl (by decide +kernel) ?_
  refine s_bz (p' := 82) (z := (nI 0)) rfl rfl rfl (by decide +kernel) ?_
  refine s_if (p' := 91) true rfl (by decide +kernel) rfl ?_
  refine s_incz (p' := 94) (w := (nI 2)) (ls' := [_, _, _]) rfl rfl rfl (by decide +kernel) rfl rfl ?_
  refine s_goto (p' := 63) rfl rfl ?_
  refine s_ildn (p' := 64) rfl rfl rfl ?_
  refine s_con (p' := 65) rfl rfl ?_
  refine s_icmp (p' := 68) false rfl (by decide +kernel) rfl ?_
  refine s_aldn (p' := 69) rfl rfl rfl ?_
  refine s_gf (p' := 72) rfl (rd_ss rfl (rd_sn rfl (rd_sn rfl (rd_sn rfl (rd_sn rfl (rd_sn rfl (rd_sn rfl (rd_sn rfl (rd_sn rfl H393))))))))) rfl rfl ?_
  refine s_ildn (p' := 73) rfl rfl rfl ?_
  refine s_ialz (p' := 74) (m := 4) (v := (nI 4)) rfl (rd_sn rfl (rd_ss rfl (rd_ss rfl (rd_ss rfl (rd_ss rfl (rd_ss rfl (rd_ss rfl (rd_ss rfl (rd_ss rfl H395))))))))) (by decide +kernel) rfl (by decide +kernel) rfl ?_
  refine s_ildn (p' := 75) rfl rfl rfl ?_
  refine s_con (p' := 76) rfl rfl ?_
  refine s_bz (p' := 77) (z := (nI 4294967291)) rfl rfl rfl (by decide +kernel) ?_
  refine s_bz (p' := 78) (z := (nI 0)) rfl rfl rfl (by decide +kernel) ?_
  refine s_con (p' := 79) rfl rfl ?_
  refine s_ildn (p' := 80) rfl rfl rfl ?_
  refine s_bz (p' := 81) (z := (nI 4)) rfl rfl rfl (by decide +kernel) ?_
  refine s_bz (p' := 82) (z := (nI 0)) rfl rfl rfl (by decide +kernel) ?_
  refine s_if (p' := 91) true rfl (by decide +kernel) rfl ?_
  refine s_incz (p' := 94) (w := (nI 3)) (ls' := [_, _, _]) rfl rfl rfl (by decide +kernel) rfl rfl ?_
  refine s_goto (p' := 63) rfl rfl ?_
  refine s_ildn (p' := 64) rfl rfl rfl ?_
  refine s_con (p' := 65) rfl rfl ?_
  refine s_icmp (p' := 97) true rfl (by decide +kernel) rfl ?_
  refine s_incz (p' := 100) (w := (nI 5)) (ls' := [_, _, _]) rfl rfl rfl (by decide +kernel) rfl rfl ?_
  refine s_goto (p' := 11) rfl rfl ?_
  refine s_ildn (p' := 12) rfl rfl rfl ?_
  refine s_aldn (p' := 13) rfl rfl rfl ?_
  refine s_gf (p' := 16) rfl (rd_ss rfl (rd_sn rfl (rd_sn rfl (rd_sn rfl (rd_sn rfl (rd_sn rfl (rd_sn rfl (rd_sn rfl (rd_sn rfl H393))))))))) rfl rfl ?_
  refine s_lenz (p' := 17) rfl (mj_rdA_is (rd_sn rfl (rd_ss rfl (rd_ss rfl (rd_ss rfl (rd_ss rfl (rd_ss rfl (rd_ss rfl (rd_ss rfl (rd_ss rfl H395))))))))) (by decide)) rfl rfl ?_
  refine s_icmp (p' := 20) false rfl (by decide +kernel) rfl ?_
  refine s_con (p' := 21) rfl rfl ?_
  refine s_istn (p' := 22) (ls' := [_, _, _]) rfl rfl rfl rfl ?_
  refine s_ildn (p' := 23) rfl rfl rfl ?_
  refine s_con (p' := 24) rfl rfl ?_
  refine s_icmp (p' := 27) false rfl (by decide +kernel) rfl ?_
  refine s_ildn (p' := 28) rfl rfl rfl ?_
  refine s_aldn (p' := 29) rfl rfl rfl ?_
  refine s_gf (p' := 32) rfl (rd_ss rfl (rd_sn rfl (rd_sn rfl (rd_sn rfl (rd_sn rfl (rd_sn rfl (rd_sn rfl (rd_sn rfl (rd_sn rfl H393))))))))) rfl rfl ?_
  refine s_ildn (p' := 33) rfl rfl rfl ?_
  refine s_ialz (p' := 34) (m := 5) (v := (nI 5)) rfl (rd_sn rfl (rd_ss rfl (rd_ss rfl (rd_ss rfl (rd_ss rfl (rd_ss rfl (rd_ss rfl (rd_ss rfl (rd_ss rfl H395))))))))) (by decide +kernel) rfl (by decide +kernel) rfl ?_
  refine s_con (p' := 35) rfl rfl ?_
  refine s_bz (p' := 36) (z := (nI 4294967290)) rfl rfl rfl (by decide +kernel) ?_
  refine s_bz (p' := 37) (z := (nI 0)) rfl rfl rfl (by decide +kernel) ?_
  refine s_con (p' := 38) rfl rfl ?_
  refine s_ildn (p' := 39) rfl rfl rfl ?_
  refine s_bz (p' := 40) (z := (nI 1)) rfl rfl rfl (by decide +kernel) ?_
  refine s_bz (p' := 41) (z := (nI 0)) rfl rfl rfl (by decide +kernel) ?_
  refine s_if (p' := 55) true rfl (by decide +kernel) rfl ?_
  refine s_incz (p' := 58) (w := (nI 1)) (ls' := [_, _, _]) rfl rfl rfl (by decide +kernel) rfl rfl ?_
  refine s_goto (p' := 22) rfl rfl ?_
  refine s_ildn (p' := 23) rfl rfl rfl ?_
  refine s_con (p' := 24) rfl rfl ?_
  refine s_icmp (p' := 27) false rfl (by decide +kernel) rfl ?_
  refine s_ildn (p' := 28) rfl rfl rfl ?_
  refine s_aldn (p' := 29) rfl rfl rfl ?_
  refine s_gf (p' := 32) rfl (rd_ss rfl (rd_sn rfl (rd_sn rfl (rd_sn rfl (rd_sn rfl (rd_sn rfl (rd_sn rfl (rd_sn rfl (rd_sn rfl H393))))))))) rfl rfl ?_
  refine s_ildn (p' := 33) rfl rfl rfl ?_
  refine s_ialz (p' := 34) (m := 5) (v := (nI 5)) rfl (rd_sn rfl (rd_ss rfl (rd_ss rfl (rd_ss rfl (rd_ss rfl (rd_ss rfl (rd_ss rfl (rd_ss rfl (rd_ss rfl H395))))))))) (by decide +kernel) rfl (by decide +kernel) rfl ?_
  refine s_con (p' := 35) rfl rfl ?_
  refine s_bz (p' := 36) (z := (nI 4294967290)) rfl rfl rfl (by decide +kernel) ?_
  refine s_bz (p' := 37) (z := (nI 0)) rfl rfl rfl (by decide +kernel) ?_
  refine s_con (p' := 38) rfl rfl ?_
  refine s_ildn (p' := 39) rfl rfl rfl ?_
  refine s_bz (p' := 40) (z := (nI 2)) rfl rfl rfl (by decide +kernel) ?_
  refine s_bz (p' := 41) (z := (nI 0)) rfl rfl rfl (by decide +kernel) ?_
  refine s_if (p' := 55) true rfl (by decide +kernel) rfl ?_
  refine s_incz (p' := 58) (w := (nI 2)) (ls' := [_, _, _]) rfl rfl rfl (by decide +kernel) rfl rfl ?_
  refine s_goto (p' := 22) rfl rfl ?_
  refine s_ildn (p' := 23) rfl rfl rfl ?_
  refine s_con (p' := 24) rfl rfl ?_
  refine s_icmp (p' := 27) false rfl (by decide +kernel) rfl ?_
  refine s_ildn (p' := 28) rfl rfl rfl ?_
  refine s_aldn (p' := 29) rfl rfl rfl ?_
  refine s_gf (p' := 32) rfl (rd_ss rfl (rd_sn rfl (rd_sn rfl (rd_sn rfl (rd_sn rfl (rd_sn rfl (rd_sn rfl (rd_sn rfl (rd_sn rfl H393))))))))) rfl rfl ?_
  refine s_ildn (p' := 33) rfl rfl rfl ?_
  refine s_ialz (p' := 34) (m := 5) (v := (nI 5)) rfl (rd_sn rfl (rd_ss rfl (rd_ss rfl (rd_ss rfl (rd_ss rfl (rd_ss rfl (rd_ss rfl (rd_ss rfl (rd_ss rfl H395))))))))) (by decide +kernel) rfl (by decide +kernel) rfl ?_
  refine s_con (p' := 35) rfl rfl ?_
  refine s_bz (p' := 36) (z := (nI 4294967290)) rfl rfl rfl (by decide +kernel) ?_
  refine s_bz (p' := 37) (z := (nI 0)) rfl rfl rfl (by decide +kernel) ?_
  refine s_con (p' := 38) rfl rfl ?_
  refine s_ildn (p' := 39) rfl rfl rfl ?_
  refine s_bz (p' := 40) (z := (nI 4)) rfl rfl rfl (by decide +kernel) ?_
  refine s_bz (p' := 41) (z := (nI 0)) rfl rfl rfl (by decide +kernel) ?_
  refine s_if (p' := 55) true rfl (by decide +kernel) rfl ?_
  refine s_incz (p' := 58) (w := (nI 3)) (ls' := [_, _, _]) rfl rfl rfl (by decide +kernel) rfl rfl ?_
  refine s_goto (p' := 22) rfl rfl ?_
  refine s_ildn (p' := 23) rfl rfl rfl ?_
  refine s_con (p' := 24) rfl rfl ?_
  refine s_icmp (p' := 61) true rfl (by decide +kernel) rfl ?_
  refine s_con (p' := 62) rfl rfl ?_
  refine s_istn (p' := 63) (ls' := [_, _, _]) rfl rfl rfl rfl ?_
  refine s_ildn (p' := 64) rfl rfl rfl ?_
  refine s_con (p' := 65) rfl rfl ?_
  refine s_icmp (p' := 68) false rfl (by decide +kernel) rfl ?_
  refine s_aldn (p' := 69) rfl rfl rfl ?_
  refine s_gf (p' := 72) rfl (rd_ss rfl (rd_sn rfl (rd_sn rfl (rd_sn rfl (rd_sn rfl (rd_sn rfl (rd_sn rfl (rd_sn rfl (rd_sn rfl H393))))))))) rfl rfl ?_
  refine s_ildn (p' := 73) rfl rfl rfl ?_
  refine s_ialz (p' := 74) (m := 5) (v := (nI 5)) rfl (rd_sn rfl (rd_ss rfl (rd_ss rfl (rd_ss rfl (rd_ss rfl (rd_ss rfl (rd_ss rfl (rd_ss rfl (rd_ss rfl H395))))))))) (by decide +kernel) rfl (by decide +kernel) rfl ?_
  refine s_ildn (p' := 75) rfl rfl rfl ?_
  refine s_con (p' := 76) rfl rfl ?_
  refine s_bz (p' := 77) (z := (nI 4294967290)) rfl rfl rfl (by decide +kernel) ?_
  refine s_bz (p' := 78) (z := (nI 0)) rfl rfl rfl (by decide +kernel) ?_
  refine s_con (p' := 79) rfl rfl ?_
  refine s_ildn (p' := 80) rfl rfl rfl ?_
  refine s_bz (p' := 81) (z := (nI 1)) rfl rfl rfl (by decide +kernel) ?_
  refine s_bz (p' := 82) (z := (nI 0)) rfl rfl rfl (by decide +kernel) ?_
  refine s_if (p' := 91) true rfl (by decide +kernel) rfl ?_
  refine s_incz (p' := 94) (w := (nI 1)) (ls' := [_, _, _]) rfl rfl rfl (by decide +kernel) rfl rfl ?_
  refine s_goto (p' := 63) rfl rfl ?_
  refine s_ildn (p' := 64) rfl rfl rfl ?_
  refine s_con (p' := 65) rfl rfl ?_
  refine s_icmp (p' := 68) false rfl (by decide +kernel) rfl ?_
  refine s_aldn (p' := 69) rfl rfl rfl ?_
  refine s_gf (p' := 72) rfl (rd_ss rfl (rd_sn rfl (rd_sn rfl (rd_sn rfl (rd_sn rfl (rd_sn rfl (rd_sn rfl (rd_sn rfl (rd_sn rfl H393))))))))) rfl rfl ?_
  refine s_ildn (p' := 73) rfl rfl rfl ?_
  refine s_ialz (p' := 74) (m := 5) (v := (nI 5)) rfl (rd_sn rfl (rd_ss rfl (rd_ss rfl (rd_ss rfl (rd_ss rfl (rd_ss rfl (rd_ss rfl (rd_ss rfl (rd_ss rfl H395))))))))) (by decide +kernel) rfl (by decide +kernel) rfl ?_
  refine s_ildn (p' := 75) rfl rfl rfl ?_
  refine s_con (p' := 76) rfl rfl ?_
  refine s_bz (p' := 77) (z := (nI 4294967290)) rfl rfl rfl (by decide +kernel) ?_
  refine s_bz (p' := 78) (z := (nI 0)) rfl rfl rfl (by decide +kernel) ?_
  refine s_con (p' := 79) rfl rfl ?_
  refine s_ildn (p' := 80) rfl rfl rfl ?_
  refine s_bz (p' := 81) (z := (nI 2)) rfl rfl rfl (by decide +kernel) ?_
  refine s_bz (p' := 82) (z := (nI 0)) rfl rfl rfl (by decide +kernel) ?_
  refine s_if (p' := 91) true rfl (by decide +kernel) rfl ?_
  refine s_incz (p' := 94) (w := (nI 2)) (ls' := [_, _, _]) rfl rfl rfl (by decide +kernel) rfl rfl ?_
  refine s_goto (p' := 63) rfl rfl ?_
  refine s_ildn (p' := 64) rfl rfl rfl ?_
  refine s_con (p' := 65) rfl rfl ?_
  refine s_icmp (p' := 68) false rfl (by decide +kernel) rfl ?_
  refine s_aldn (p' := 69) rfl rfl rfl ?_
  refine s_gf (p' := 72) rfl (rd_ss rfl (rd_sn rfl (rd_sn rfl (rd_sn rfl (rd_sn rfl (rd_sn rfl (rd_sn rfl (rd_sn rfl (rd_sn rfl H393))))))))) rfl rfl ?_
  refine s_ildn (p' := 73) rfl rfl rfl ?_
  refine s_ialz (p' := 74) (m := 5) (v := (nI 5)) rfl (rd_sn rfl (rd_ss rfl (rd_ss rfl (rd_ss rfl (rd_ss rfl (rd_ss rfl (rd_ss rfl (rd_ss rfl (rd_ss rfl H395))))))))) (by decide +kernel) rfl (by decide +kernel) rfl ?_
  refine s_ildn (p' := 75) rfl rfl rfl ?_
  refine s_con (p' := 76) rfl rfl ?_
  refine s_bz (p' := 77) (z := (nI 4294967290)) rfl rfl rfl (by decide +kernel) ?_
  refine s_bz (p' := 78) (z := (nI 0)) rfl rfl rfl (by decide +kernel) ?_
  refine s_con (p' := 79) rfl rfl ?_
  refine s_ildn (p' := 80) rfl rfl rfl ?_
  refine s_bz (p' := 81) (z := (nI 4)) rfl rfl rfl (by decide +kernel) ?_
  refine s_bz (p' := 82) (z := (nI 0)) rfl rfl rfl (by decide +kernel) ?_
  refine s_if (p' := 91) true rfl (by decide +kernel) rfl ?_
  refine s_incz (p' := 94) (w := (nI 3)) (ls' := [_, _, _]) rfl rfl rfl (by decide +kernel) rfl rfl ?_
  refine s_goto (p' := 63) rfl rfl ?_
  refine s_ildn (p' := 64) rfl rfl rfl ?_
  refine s_con (p' := 65) rfl rfl ?_
  refine s_icmp (p' := 97) true rfl (by decide +kernel) rfl ?_
  refine s_incz (p' := 100) (w := (nI 6)) (ls' := [_, _, _]) rfl rfl rfl (by decide +kernel) rfl rfl ?_
  refine s_goto (p' := 11) rfl rfl ?_
  refine s_ildn (p' := 12) rfl rfl rfl ?_
  refine s_aldn (p' := 13) rfl rfl rfl ?_
  refine s_gf (p' := 16) rfl (rd_ss rfl (rd_sn rfl (rd_sn rfl (rd_sn rfl (rd_sn rfl (rd_sn rfl (rd_sn rfl (rd_sn rfl (rd_sn rfl H393))))))))) rfl rfl ?_
  refine s_lenz (p' := 17) rfl (mj_rdA_is (rd_sn rfl (rd_ss rfl (rd_ss rfl (rd_ss rfl (rd_ss rfl (rd_ss rfl (rd_ss rfl (rd_ss rfl (rd_ss rfl H395))))))))) (by decide)) rfl rfl ?_
  refine s_icmp (p' := 20) false rfl (by decide +kernel) rfl ?_
  refine s_con (p' := 21) rfl rfl ?_
  refine s_istn (p' := 22) (ls' := [_, _, _]) rfl rfl rfl rfl ?_
  refine s_ildn (p' := 23) rfl rfl rfl ?_
  refine s_con (p' := 24) rfl rfl ?_
  refine s_icmp (p' := 27) false rfl (by decide +kernel) rfl ?_
  refine s_ildn (p' := 28) rfl rfl rfl ?_
  refine s_aldn (p' := 29) rfl rfl rfl ?_
  refine s_gf (p' := 32) rfl (rd_ss rfl (rd_sn rfl (rd_sn rfl (rd_sn rfl (rd_sn rfl (rd_sn rfl (rd_sn rfl (rd_sn rfl (rd_sn rfl H393))))))))) rfl rfl ?_
  refine s_ildn (p' := 33) rfl rfl rfl ?_
  refine s_ialz (p' := 34) (m := 6) (v := (nI 6)) rfl (rd_sn rfl (rd_ss rfl (rd_ss rfl (rd_ss rfl (rd_ss rfl (rd_ss rfl (rd_ss rfl (rd_ss rfl (rd_ss rfl H395))))))))) (by decide +kernel) rfl (by decide +kernel) rfl ?_
  refine s_con (p' := 35) rfl rfl ?_
  refine s_bz (p' := 36) (z := (nI 4294967289)) rfl rfl rfl (by decide +kernel) ?_
  refine s_bz (p' := 37) (z := (nI 0)) rfl rfl rfl (by decide +kernel) ?_
  refine s_con (p' := 38) rfl rfl ?_
  refine s_ildn (p' := 39) rfl rfl rfl ?_
  refine s_bz (p' := 40) (z := (nI 1)) rfl rfl rfl (by decide +kernel) ?_
  refine s_bz (p' := 41) (z := (nI 0)) rfl rfl rfl (by decide +kernel) ?_
  refine s_if (p' := 55) true rfl (by decide +kernel) rfl ?_
  refine s_incz (p' := 58) (w := (nI 1)) (ls' := [_, _, _]) rfl rfl rfl (by decide +kernel) rfl rfl ?_
  refine s_goto (p' := 22) rfl rfl ?_
  refine s_ildn (p' := 23) rfl rfl rfl ?_
  refine s_con (p' := 24) rfl rfl ?_
  refine s_icmp (p' := 27) false rfl (by decide +kernel) rfl ?_
  refine s_ildn (p' := 28) rfl rfl rfl ?_
  refine s_aldn (p' := 29) rfl rfl rfl ?_
  refine s_gf (p' := 32) rfl (rd_ss rfl (rd_sn rfl (rd_sn rfl (rd_sn rfl (rd_sn rfl (rd_sn rfl (rd_sn rfl (rd_sn rfl (rd_sn rfl H393))))))))) rfl rfl ?_
  refine s_ildn (p' := 33) rfl rfl rfl ?_
  refine s_ialz (p' := 34) (m := 6) (v := (nI 6)) rfl (rd_sn rfl (rd_ss rfl (rd_ss rfl (rd_ss rfl (rd_ss rfl (rd_ss rfl (rd_ss rfl (rd_ss rfl (rd_ss rfl H395))))))))) (by decide +kernel) rfl (by decide +kernel) rfl ?_
  refine s_con (p' := 35) rfl rfl ?_
  refine s_bz (p' := 36) (z := (nI 4294967289)) rfl rfl rfl (by decide +kernel) ?_
  refine s_bz (p' := 37) (z := (nI 0)) rfl rfl rfl (by decide +kernel) ?_
  refine s_con (p' := 38) rfl rfl ?_
  refine s_ildn (p' := 39) rfl rfl rfl ?_
  refine s_bz (p' := 40) (z := (nI 2)) rfl rfl rfl (by decide +kernel) ?_
  refine s_bz (p' := 41) (z := (nI 0)) rfl rfl rfl (by decide +kernel) ?_
  refine s_if (p' := 55) true rfl (by decide +kernel) rfl ?_
  refine s_incz (p' := 58) (w := (nI 2)) (ls' := [_, _, _]) rfl rfl rfl (by decide +kernel) rfl rfl ?_
  refine s_goto (p' := 22) rfl rfl ?_
  refine s_ildn (p' := 23) rfl rfl rfl ?_
  refine s_con (p' := 24) rfl rfl ?_
  refine s_icmp (p' := 27) false rfl (by decide +kernel) rfl ?_
  refine s_ildn (p' := 28) rfl rfl rfl ?_
  refine s_aldn (p' := 29) rfl rfl rfl ?_
  refine s_gf (p' := 32) rfl (rd_ss rfl (rd_sn rfl (rd_sn rfl (rd_sn rfl (rd_sn rfl (rd_sn rfl (rd_sn rfl (rd_sn rfl (rd_sn rfl H393))))))))) rfl rfl ?_
  refine s_ildn (p' := 33) rfl rfl rfl ?_
  refine s_ialz (p' := 34) (m := 6) (v := (nI 6)) rfl (rd_sn rfl (rd_ss rfl (rd_ss rfl (rd_ss rfl (rd_ss rfl (rd_ss rfl (rd_ss rfl (rd_ss rfl (rd_ss rfl H395))))))))) (by decide +kernel) rfl (by decide +kernel) rfl ?_
  refine s_con (p' := 35) rfl rfl ?_
  refine s_bz (p' := 36) (z := (nI 4294967289)) rfl rfl rfl (by decide +kernel) ?_
  refine s_bz (p' := 37) (z := (nI 0)) rfl rfl rfl (by decide +kernel) ?_
  refine s_con (p' := 38) rfl rfl ?_
  refine s_ildn (p' := 39) rfl rfl rfl ?_
  refine s_bz (p' := 40) (z := (nI 4)) rfl rfl rfl (by decide +kernel) ?_
  refine s_bz (p' := 41) (z := (nI 0)) rfl rfl rfl (by decide +kernel) ?_
  refine s_if (p' := 55) true rfl (by decide +kernel) rfl ?_
  refine s_incz (p' := 58) (w := (nI 3)) (ls' := [_, _, _]) rfl rfl rfl (by decide +kernel) rfl rfl ?_
  refine s_goto (p' := 22) rfl rfl ?_
  refine s_ildn (p' := 23) rfl rfl rfl ?_
  refine s_con (p' := 24) rfl rfl ?_
  refine s_icmp (p' := 61) true rfl (by decide +kernel) rfl ?_
  refine s_con (p' := 62) rfl rfl ?_
  refine s_istn (p' := 63) (ls' := [_, _, _]) rfl rfl rfl rfl ?_
  refine s_ildn (p' := 64) rfl rfl rfl ?_
  refine s_con (p' := 65) rfl rfl ?_
  refine s_icmp (p' := 68) false rfl (by decide +kernel) rfl ?_
  refine s_aldn (p' := 69) rfl rfl rfl ?_
  refine s_gf (p' := 72) rfl (rd_ss rfl (rd_sn rfl (rd_sn rfl (rd_sn rfl (rd_sn rfl (rd_sn rfl (rd_sn rfl (rd_sn rfl (rd_sn rfl H393))))))))) rfl rfl ?_
  refine s_ildn (p' := 73) rfl rfl rfl ?_
  refine s_ialz (p' := 74) (m := 6) (v := (nI 6)) rfl (rd_sn rfl (rd_ss rfl (rd_ss rfl (rd_ss rfl (rd_ss rfl (rd_ss rfl (rd_ss rfl (rd_ss rfl (rd_ss rfl H395))))))))) (by decide +kernel) rfl (by decide +kernel) rfl ?_
  refine s_ildn (p' := 75) rfl rfl rfl ?_
  refine s_con (p' := 76) rfl rfl ?_
  refine s_bz (p' := 77) (z := (nI 4294967289)) rfl rfl rfl (by decide +kernel) ?_
  refine s_bz (p' := 78) (z := (nI 0)) rfl rfl rfl (by decide +kernel) ?_
  refine s_con (p' := 79) rfl rfl ?_
  refine s_ildn (p' := 80) rfl rfl rfl ?_
  refine s_bz (p' := 81) (z := (nI 1)) rfl rfl rfl (by decide +kernel) ?_
  refine s_bz (p' := 82) (z := (nI 0)) rfl rfl rfl (by decide +kernel) ?_
  refine s_if (p' := 91) true rfl (by decide +kernel) rfl ?_
  refine s_incz (p' := 94) (w := (nI 1)) (ls' := [_, _, _]) rfl rfl rfl (by decide +kernel) rfl rfl ?_
  refine s_goto (p' := 63) rfl rfl ?_
  refine s_ildn (p' := 64) rfl rfl rfl ?_
  refine s_con (p' := 65) rfl rfl ?_
  refine s_icmp (p' := 68) false rfl (by decide +kernel) rfl ?_
  refine s_aldn (p' := 69) rfl rfl rfl ?_
  refine s_gf (p' := 72) rfl (rd_ss rfl (rd_sn rfl (rd_sn rfl (rd_sn rfl (rd_sn rfl (rd_sn rfl (rd_sn rfl (rd_sn rfl (rd_sn rfl H393))))))))) rfl rfl ?_
  refine s_ildn (p' := 73) rfl rfl rfl ?_
  refine s_ialz (p' := 74) (m := 6) (v := (nI 6)) rfl (rd_sn rfl (rd_ss rfl (rd_ss rfl (rd_ss rfl (rd_ss rfl (rd_ss rfl (rd_ss rfl (rd_ss rfl (rd_ss rfl H395))))))))) (by decide +kernel) rfl (by decide +kernel) rfl ?_
  refine s_ildn (p' := 75) rfl rfl rfl ?_
  refine s_con (p' := 76) rfl rfl ?_
  refine s_bz (p' := 77) (z := (nI 4294967289)) rfl rfl rfl (by decide +kernel) ?_
  refine s_bz (p' := 78) (z := (nI 0)) rfl rfl rfl (by decide +kernel) ?_
  refine s_con (p' := 79) rfl rfl ?_
  refine s_ildn (p' := 80) rfl rfl rfl ?_
  refine s_bz (p' := 81) (z := (nI 2)) rfl rfl rfl (by decide +kernel) ?_
  refine s_bz (p' := 82) (z := (nI 0)) rfl rfl rfl (by decide +kernel) ?_
  refine s_if (p' := 91) true rfl (by decide +kernel) rfl ?_
  refine s_incz (p' := 94) (w := (nI 2)) (ls' := [_, _, _]) rfl rfl rfl (by decide +kernel) rfl rfl ?_
  refine s_goto (p' := 63) rfl rfl ?_
  refine s_ildn (p' := 64) rfl rfl rfl ?_
  refine s_con (p' := 65) rfl rfl ?_
  refine s_icmp (p' := 68) false rfl (by decide +kernel) rfl ?_
  refine s_aldn (p' := 69) rfl rfl rfl ?_
  refine s_gf (p' := 72) rfl (rd_ss rfl (rd_sn rfl (rd_sn rfl (rd_sn rfl (rd_sn rfl (rd_sn rfl (rd_sn rfl (rd_sn rfl (rd_sn rfl H393))))))))) rfl rfl ?_
  refine s_ildn (p' := 73) rfl rfl rfl ?_
  refine s_ialz (p' := 74) (m := 6) (v := (nI 6)) rfl (rd_sn rfl (rd_ss rfl (rd_ss rfl (rd_ss rfl (rd_ss rfl (rd_ss rfl (rd_ss rfl (rd_ss rfl (rd_ss rfl H395))))))))) (by decide +kernel) rfl (by decide +kernel) rfl ?_
  refine s_ildn (p' := 75) rfl rfl rfl ?_
  refine s_con (p' := 76) rfl rfl ?_
  refine s_bz (p' := 77) (z := (nI 4294967289)) rfl rfl rfl (by decide +kernel) ?_
  refine s_bz (p' := 78) (z := (nI 0)) rfl rfl rfl (by decide +kernel) ?_
  refine s_con (p' := 79) rfl rfl ?_
  refine s_ildn (p' := 80) rfl rfl rfl ?_
  refine s_bz (p' := 81) (z := (nI 4)) rfl rfl rfl (by decide +kernel) ?_
  refine s_bz (p' := 82) (z := (nI 0)) rfl rfl rfl (by decide +kernel) ?_
  refine s_if (p' := 91) true rfl (by decide +kernel) rfl ?_
  refine s_incz (p' := 94) (w := (nI 3)) (ls' := [_, _, _]) rfl rfl rfl (by decide +kernel) rfl rfl ?_
  refine s_goto (p' := 63) rfl rfl ?_
  refine s_ildn (p' := 64) rfl rfl rfl ?_
  refine s_con (p' := 65) rfl rfl ?_
  refine s_icmp (p' := 97) true rfl (by decide +kernel) rfl ?_
  refine s_incz (p' := 100) (w := (nI 7)) (ls' := [_, _, _]) rfl rfl rfl (by decide +kernel) rfl rfl ?_
  refine s_goto (p' := 11) rfl rfl ?_
  refine s_ildn (p' := 12) rfl rfl rfl ?_
  refine s_aldn (p' := 13) rfl rfl rfl ?_
  refine s_gf (p' := 16) rfl (rd_ss rfl (rd_sn rfl (rd_sn rfl (rd_sn rfl (rd_sn rfl (rd_sn rfl (rd_sn rfl (rd_sn rfl (rd_sn rfl H393))))))))) rfl rfl ?_
  refine s_lenz (p' := 17) rfl (mj_rdA_is (rd_sn rfl (rd_ss rfl (rd_ss rfl (rd_ss rfl (rd_ss rfl (rd_ss rfl (rd_ss rfl (rd_ss rfl (rd_ss rfl H395))))))))) (by decide)) rfl rfl ?_
  refine s_icmp (p' := 20) false rfl (by decide +kernel) rfl ?_
  refine s_con (p' := 21) rfl rfl ?_
  refine s_istn (p' := 22) (ls' := [_, _, _]) rfl rfl rfl rfl ?_
  refine s_ildn (p' := 23) rfl rfl rfl ?_
  refine s_con (p' := 24) rfl rfl ?_
  refine s_icmp (p' := 27) false rfl (by decide +kernel) rfl ?_
  refine s_ildn (p' := 28) rfl rfl rfl ?_
  refine s_aldn (p' := 29) rfl rfl rfl ?_
  refine s_gf (p' := 32) rfl (rd_ss rfl (rd_sn rfl (rd_sn rfl (rd_sn rfl (rd_sn rfl (rd_sn rfl (rd_sn rfl (rd_sn rfl (rd_sn rfl H393))))))))) rfl rfl ?_
  refine s_ildn (p' := 33) rfl rfl rfl ?_
  refine s_ialz (p' := 34) (m := 7) (v := (nI 7)) rfl (rd_sn rfl (rd_ss rfl (rd_ss rfl (rd_ss rfl (rd_ss rfl (rd_ss rfl (rd_ss rfl (rd_ss rfl (rd_ss rfl H395))))))))) (by decide +kernel) rfl (by decide +kernel) rfl ?_
  refine s_con (p' := 35) rfl rfl ?_
  refine s_bz (p' := 36) (z := (nI 4294967288)) rfl rfl rfl (by decide +kernel) ?_
  refine s_bz (p' := 37) (z := (nI 0)) rfl rfl rfl (by decide +kernel) ?_
  refine s_con (p' := 38) rfl rfl ?_
  refine s_ildn (p' := 39) rfl rfl rfl ?_
  refine s_bz (p' := 40) (z := (nI 1)) rfl rfl rfl (by decide +kernel) ?_
  refine s_bz (p' := 41) (z := (nI 0)) rfl rfl rfl (by decide +kernel) ?_
  refine s_if (p' := 55) true rfl (by decide +kernel) rfl ?_
  refine s_incz (p' := 58) (w := (nI 1)) (ls' := [_, _, _]) rfl rfl rfl (by decide +kernel) rfl rfl ?_
  refine s_goto (p' := 22) rfl rfl ?_
  refine s_ildn (p' := 23) rfl rfl rfl ?_
  refine s_con (p' := 24) rfl rfl ?_
  refine s_icmp (p' := 27) false rfl (by decide +kernel) rfl ?_
  refine s_ildn (p' := 28) rfl rfl rfl ?_
  refine s_aldn (p' := 29) rfl rfl rfl ?_
  refine s_gf (p' := 32) rfl (rd_ss rfl (rd_sn rfl (rd_sn rfl (rd_sn rfl (rd_sn rfl (rd_sn rfl (rd_sn rfl (rd_sn rfl (rd_sn rfl H393))))))))) rfl rfl ?_
  refine s_ildn (p' := 33) rfl rfl rfl ?_
  refine s_ialz (p' := 34) (m := 7) (v := (nI 7)) rfl (rd_sn rfl (rd_ss rfl (rd_ss rfl (rd_ss rfl (rd_ss rfl (rd_ss rfl (rd_ss rfl (rd_ss rfl (rd_ss rfl H395))))))))) (by decide +kernel) rfl (by decide +kernel) rfl ?_
  refine s_con (p' := 35) rfl rfl ?_
  refine s_bz (p' := 36) (z := (nI 4294967288)) rfl rfl rfl (by decide +kernel) ?_
  refine s_bz (p' := 37) (z := (nI 0)) rfl rfl rfl (by decide +kernel) ?_
  refine s_con (p' := 38) rfl rfl ?_
  refine s_ildn (p' := 39) rfl rfl rfl ?_
  refine s_bz (p' := 40) (z := (nI 2)) rfl rfl rfl (by decide +kernel) ?_
  refine s_bz (p' := 41) (z := (nI 0)) rfl rfl rfl (by decide +kernel) ?_
  refine s_if (p' := 55) true rfl (by decide +kernel) rfl ?_
  refine s_incz (p' := 58) (w := (nI 2)) (ls' := [_, _, _]) rfl rfl rfl (by decide +kernel) rfl rfl ?_
  refine s_goto (p' := 22) rfl rfl ?_
  refine s_ildn (p' := 23) rfl rfl rfl ?_
  refine s_con (p' := 24) rfl rfl ?_
  refine s_icmp (p' := 27) false rfl (by decide +kernel) rfl ?_
  refine s_ildn (p' := 28) rfl rfl rfl ?_
  refine s_aldn (p' := 29) rfl rfl rfl ?_
  refine s_gf (p' := 32) rfl (rd_ss rfl (rd_sn rfl (rd_sn rfl (rd_sn rfl (rd_sn rfl (rd_sn rfl (rd_sn rfl (rd_sn rfl (rd_sn rfl H393))))))))) rfl rfl ?_
  refine s_ildn (p' := 33) rfl rfl rfl ?_
  refine s_ialz (p' := 34) (m := 7) (v := (nI 7)) rfl (rd_sn rfl (rd_ss rfl (rd_ss rfl (rd_ss rfl (rd_ss rfl (rd_ss rfl (rd_ss rfl (rd_ss rfl (rd_ss rfl H395))))))))) (by decide +kernel) rfl (by decide +kernel) rfl ?_
  refine s_con (p' := 35) rfl rfl ?_
  refine s_bz (p' := 36) (z := (nI 4294967288)) rfl rfl rfl (by decide +kernel) ?_
  refine s_bz (p' := 37) (z := (nI 0)) rfl rfl rfl (by decide +kernel) ?_
  refine s_con (p' := 38) rfl rfl ?_
  refine s_ildn (p' := 39) rfl rfl rfl ?_
  refine s_bz (p' := 40) (z := (nI 4)) rfl rfl rfl (by decide +kernel) ?_
  refine s_bz (p' := 41) (z := (nI 0)) rfl rfl rfl (by decide +kernel) ?_
  refine s_if (p' := 55) true rfl (by decide +kernel) rfl ?_
  refine s_incz (p' := 58) (w := (nI 3)) (ls' := [_, _, _]) rfl rfl rfl (by decide +kernel) rfl rfl ?_
  refine s_goto (p' := 22) rfl rfl ?_
  refine s_ildn (p' := 23) rfl rfl rfl ?_
  refine s_con (p' := 24) rfl rfl ?_
  refine s_icmp (p' := 61) true rfl (by decide +kernel) rfl ?_
  refine s_con (p' := 62) rfl rfl ?_
  refine s_istn (p' := 63) (ls' := [_, _, _]) rfl rfl rfl rfl ?_
  refine s_ildn (p' := 64) rfl rfl rfl ?_
  refine s_con (p' := 65) rfl rfl ?_
  refine s_icmp (p' := 68) false rfl (by decide +kernel) rfl ?_
  refine s_aldn (p' := 69) rfl rfl rfl ?_
  refine s_gf (p' := 72) rfl (rd_ss rfl (rd_sn rfl (rd_sn rfl (rd_sn rfl (rd_sn rfl (rd_sn rfl (rd_sn rfl (rd_sn rfl (rd_sn rfl H393))))))))) rfl rfl ?_
  refine s_ildn (p' := 73) rfl rfl rfl ?_
  refine s_ialz (p' := 74) (m := 7) (v := (nI 7)) rfl (rd_sn rfl (rd_ss rfl (rd_ss rfl (rd_ss rfl (rd_ss rfl (rd_ss rfl (rd_ss rfl (rd_ss rfl (rd_ss rfl H395))))))))) (by decide +kernel) rfl (by decide +kernel) rfl ?_
  refine s_ildn (p' := 75) rfl rfl rfl ?_
  refine s_con (p' := 76) rfl rfl ?_
  refine s_bz (p' := 77) (z := (nI 4294967288)) rfl rfl rfl (by decide +kernel) ?_
  refine s_bz (p' := 78) (z := (nI 0)) rfl rfl rfl (by decide +kernel) ?_
  refine s_con (p' := 79) rfl rfl ?_
  refine s_ildn (p' := 80) rfl rfl rfl ?_
  refine s_bz (p' := 81) (z := (nI 1)) rfl rfl rfl (by decide +kernel) ?_
  refine s_bz (p' := 82) (z := (nI 0)) rfl rfl rfl (by decide +kernel) ?_
  refine s_if (p' := 91) true rfl (by decide +kernel) rfl ?_
  refine s_incz (p' := 94) (w := (nI 1)) (ls' := [_, _, _]) rfl rfl rfl (by decide +kernel) rfl rfl ?_
  refine s_goto (p' := 63) rfl rfl ?_
  refine s_ildn (p' := 64) rfl rfl rfl ?_
  refine s_con (p' := 65) rfl rfl ?_
  refine s_icmp (p' := 68) false rfl (by decide +kernel) rfl ?_
  refine s_aldn (p' := 69) rfl rfl rfl ?_
  refine s_gf (p' := 72) rfl (rd_ss rfl (rd_sn rfl (rd_sn rfl (rd_sn rfl (rd_sn rfl (rd_sn rfl (rd_sn rfl (rd_sn rfl (rd_sn rfl H393))))))))) rfl rfl ?_
  refine s_ildn (p' := 73) rfl rfl rfl ?_
  refine s_ialz (p' := 74) (m := 7) (v := (nI 7)) rfl (rd_sn rfl (rd_ss rfl (rd_ss rfl (rd_ss rfl (rd_ss rfl (rd_ss rfl (rd_ss rfl (rd_ss rfl (rd_ss rfl H395))))))))) (by decide +kernel) rfl (by decide +kernel) rfl ?_
  refine s_ildn (p' := 75) rfl rfl rfl ?_
  refine s_con (p' := 76) rfl rfl ?_
  refine s_bz (p' := 77) (z := (nI 4294967288)) rfl rfl rfl (by decide +kernel) ?_
  refine s_bz (p' := 78) (z := (nI 0)) rfl rfl rfl (by decide +kernel) ?_
  refine s_con (p' := 79) rfl rfl ?_
  refine s_ildn (p' := 80) rfl rfl rfl ?_
  refine s_bz (p' := 81) (z := (nI 2)) rfl rfl rfl (by decide +kernel) ?_
  refine s_bz (p' := 82) (z := (nI 0)) rfl rfl rfl (by decide +kernel) ?_
  refine s_if (p' := 91) true rfl (by decide +kernel) rfl ?_
  refine s_incz (p' := 94) (w := (nI 2)) (ls' := [_, _, _]) rfl rfl rfl (by decide +kernel) rfl rfl ?_
  refine s_goto (p' := 63) rfl rfl ?_
  refine s_ildn (p' := 64) rfl rfl rfl ?_
  refine s_con (p' := 65) rfl rfl ?_
  refine s_icmp (p' := 68) false rfl (by decide +kernel) rfl ?_
  refine s_aldn (p' := 69) rfl rfl rfl ?_
  refine s_gf (p' := 72) rfl (rd_ss rfl (rd_sn rfl (rd_sn rfl (rd_sn rfl (rd_sn rfl (rd_sn rfl (rd_sn rfl (rd_sn rfl (rd_sn rfl H393))))))))) rfl rfl ?_
  refine s_ildn (p' := 73) rfl rfl rfl ?_
  refine s_ialz (p' := 74) (m := 7) (v := (nI 7)) rfl (rd_sn rfl (rd_ss rfl (rd_ss rfl (rd_ss rfl (rd_ss rfl (rd_ss rfl (rd_ss rfl (rd_ss rfl (rd_ss rfl H395))))))))) (by decide +kernel) rfl (by decide +kernel) rfl ?_
  refine s_ildn (p' := 75) rfl rfl rfl ?_
  refine s_con (p' := 76) rfl rfl ?_
  refine s_bz (p' := 77) (z := (nI 4294967288)) rfl rfl rfl (by decide +kernel) ?_
  refine s_bz (p' := 78) (z := (nI 0)) rfl rfl rfl (by decide +kernel) ?_
  refine s_con (p' := 79) rfl rfl ?_
  refine s_ildn (p' := 80) rfl rfl rfl ?_
  refine s_bz (p' := 81) (z := (nI 4)) rfl rfl rfl (by decide +kernel) ?_
  refine s_bz (p' := 82) (z := (nI 0)) rfl rfl rfl (by decide +kernel) ?_
  refine s_if (p' := 91) true rfl (by decide +kernel) rfl ?_
  refine s_incz (p' := 94) (w := (nI 3)) (ls' := [_, _, _]) rfl rfl rfl (by decide +kernel) rfl rfl ?_
  refine s_goto (p' := 63) rfl rfl ?_
  refine s_ildn (p' := 64) rfl rfl rfl ?_
  refine s_con (p' := 65) rfl rfl ?_
  refine s_icmp (p' := 97) true rfl (by decide +kernel) rfl ?_
  refine s_incz (p' := 100) (w := (nI 8)) (ls' := [_, _, _]) rfl rfl rfl (by decide +kernel) rfl rfl ?_
  refine s_goto (p' := 11) rfl rfl ?_
  refine s_ildn (p' := 12) rfl rfl rfl ?_
  refine s_aldn (p' := 13) rfl rfl rfl ?_
  refine s_gf (p' := 16) rfl (rd_ss rfl (rd_sn rfl (rd_sn rfl (rd_sn rfl (rd_sn rfl (rd_sn rfl (rd_sn rfl (rd_sn rfl (rd_sn rfl H393))))))))) rfl rfl ?_
  refine s_lenz (p' := 17) rfl (mj_rdA_is (rd_sn rfl (rd_ss rfl (rd_ss rfl (rd_ss rfl (rd_ss rfl (rd_ss rfl (rd_ss rfl (rd_ss rfl (rd_ss rfl H395))))))))) (by decide)) rfl rfl ?_
  refine s_icmp (p' := 103) true rfl (by decide +kernel) rfl ?_
  refine s_aldn (p' := 104) rfl rfl rfl ?_
  refine s_gf (p' := 107) rfl (rd_ss rfl (rd_sn rfl (rd_sn rfl (rd_sn rfl (rd_sn rfl (rd_sn rfl (rd_sn rfl (rd_sn rfl (rd_sn rfl H393))))))))) rfl rfl ?_
  refine c_iret rfl rfl ?_
  refine s_istn (p' := 8) (ls' := [_, _, _]) rfl rfl rfl rfl ?_
  refine s_ildn (p' := 9) rfl rfl rfl ?_
  refine s_if (p' := 12) false rfl ((cg_lt (w := 0) (by decide +kernel)).trans (decide_eq_false (by omega))) rfl ?_
  refine s_ildn (p' := 13) rfl rfl rfl ?_
  refine s_ildn (p' := 14) rfl rfl rfl ?_
  refine s_icmp (p' := 17) false rfl ((cg_lt (w := 0) (by decide +kernel)).trans (decide_eq_false (by omega))) rfl ?_
  refine s_thrz (q := 414) rfl (len_s (len_s (len_s (len_s (len_s (len_s (len_s (len_s (len_s HL))))))))) rfl ?_
  refine K_c (hp := 12) rfl (mj_ocl_is (rd_nw rfl (len_s (len_s (len_s (len_s (len_s (len_s (len_s (len_s (len_s HL))))))))))) rfl ?_
  refine s_astn (p' := 13) (ls' := [_, _, _, _]) rfl rfl rfl rfl ?_
  refine s_con (p' := 14) rfl rfl ?_
  refine k_iret rfl rfl ?_
  refine l_ist (p' := 2106) (ls' := [_, _, _, _, _, _, _, _, _, _]) rfl rfl rfl rfl rfl ?_
  refine l_aldn (p' := 2107) rfl rfl rfl rfl ?_
  refine l_alds (p' := 2108) rfl rfl rfl rfl ?_
  refine l_ild (p' := 2110) rfl rfl rfl rfl ?_
  refine l_con (p' := 2111) rfl rfl rfl ?_
  refine l_bz (p' := 2112) (z := (nI 1)) rfl rfl rfl rfl rfl (by decide +kernel) ?_
  refine l_ialz (p' := 2113) (m := 1) (z := p) rfl rfl (by decide +kernel) rfl hx1 rfl ?_
  refine l_call (p' := 2116) (kc := 99) (ls0 := [_, _, _]) rfl rfl rfl rfl rfl rfl (mj_rcv_is (rd_app (rd_sn rfl (rd_sn rfl (rd_sn rfl (rd_sn rfl (rd_sn rfl (rd_sn rfl (rd_sn rfl (rd_sn rfl (rd_sn rfl H400))))))))))) rfl rfl rfl ?_
  refine s_aldn (p' := 1) rfl rfl rfl ?_
  refine c_call (p' := 4) (kc := 98) (ls0 := [_, _, _, _, _, _, _, _]) rfl rfl rfl rfl rfl (mj_rcv_is (rd_app (rd_sn rfl (rd_sn rfl (rd_sn rfl (rd_sn rfl (rd_sn rfl (rd_sn rfl (rd_sn rfl (rd_sn rfl (rd_sn rfl H400))))))))))) rfl rfl rfl ?_
  refine s_bip (p' := 2) rfl rfl ?_
  refine s_naz (p' := 4) (a := 415) (n := 8) rfl (len_a (len_s (len_s (len_s (len_s (len_s (len_s (len_s (len_s (len_s HL))))))))) rfl) rfl rfl ?_
  refine s_astn (p' := 5) (ls' := [_, _, _, _, _, _, _, _]) rfl rfl rfl rfl ?_
  refine s_con (p' := 6) rfl rfl ?_
  refine s_istn (p' := 7) (ls' := [_, _, _, _, _, _, _, _]) rfl rfl rfl rfl ?_
  refine s_ildn (p' := 8) rfl rfl rfl ?_
  refine s_bip (p' := 10) rfl rfl ?_
  refine s_icmp (p' := 13) false rfl (by decide +kernel) rfl ?_
  refine s_aldn (p' := 14) rfl rfl rfl ?_
  refine s_ildn (p' := 15) rfl rfl rfl ?_
  refine s_aldn (p' := 16) rfl rfl rfl ?_
  refine s_ildn (p' := 17) rfl rfl rfl ?_
  refine c_call (p' := 20) (kc := 97) (ls0 := [_, _, _, _, _]) rfl rfl rfl rfl rfl (mj_rcv_is (rd_app (rd_app (rd_sn rfl (rd_sn rfl (rd_sn rfl (rd_sn rfl (rd_sn rfl (rd_sn rfl (rd_sn rfl (rd_sn rfl (rd_sn rfl H400)))))))))))) rfl rfl rfl ?_
  refine s_ildn (p' := 1) rfl rfl rfl ?_
  refine s_istn (p' := 2) (ls' := [_, _, _, _, _]) rfl rfl rfl rfl ?_
  refine s_aldn (p' := 3) rfl rfl rfl ?_
  refine s_gf (p' := 6) rfl (rd_app (rd_app (rd_sn rfl (rd_sn rfl (rd_sn rfl (rd_sn rfl (rd_sn rfl (rd_sn rfl (rd_sn rfl (rd_sn rfl (rd_sn rfl H400))))))))))) rfl rfl ?_
  refine c_call (p' := 11) (kc := 96) (ls0 := [_]) rfl rfl rfl rfl rfl (mj_rcv_is (rd_app (rd_app (rd_sn rfl (rd_sn rfl (rd_sn rfl (rd_sn rfl (rd_sn rfl (rd_sn rfl (rd_sn rfl (rd_sn rfl (rd_sn rfl H410)))))))))))) rfl rfl rfl ?_
  refine s_newz (p' := 3) (a := 416) rfl (len_a (len_a (len_s (len_s (len_s (len_s (len_s (len_s (len_s (len_s (len_s HL))))))))) rfl) rfl) rfl rfl ?_
  refine s_dupr (p' := 4) rfl rfl ?_
  refine s_aldn (p' := 5) rfl rfl rfl ?_
  refine c_call (p' := 8) (kc := 95) (ls0 := [_, _]) rfl rfl rfl rfl rfl (mj_rcv_is (rd_nw rfl (len_a (len_a (len_s (len_s (len_s (len_s (len_s (len_s (len_s (len_s (len_s HL))))))))) rfl) rfl))) rfl rfl rfl ?_
  refine s_aldn (p' := 1) rfl rfl rfl ?_
  refine s_aldn (p' := 2) rfl rfl rfl ?_
  refine s_pfz (p' := 5) (fs' := [_, _, _, _]) rfl rfl (rd_nw rfl (len_a (len_a (len_s (len_s (len_s (len_s (len_s (len_s (len_s (len_s (len_s HL))))))))) rfl) rfl)) rfl rfl rfl rfl ?_
  refine s_aldn (p' := 6) rfl rfl rfl ?_
  refine s_primN (p' := 9) (q := 3) rfl rfl rfl rfl rfl rfl rfl rfl ?_
  refine s_aldn (p' := 10) rfl rfl rfl ?_
  refine s_con (p' := 11) rfl rfl ?_
  refine s_pfz (p' := 14) (fs' := [_, _, _, _]) rfl rfl (rd_ss rfl (rd_nw rfl (len_a (len_a (len_s (len_s (len_s (len_s (len_s (len_s (len_s (len_s (len_s HL))))))))) rfl) rfl))) rfl rfl rfl rfl ?_
  refine s_aldn (p' := 15) rfl rfl rfl ?_
  refine s_aldn (p' := 16) rfl rfl rfl ?_
  refine s_gf (p' := 19) rfl (rd_ss rfl (rd_ss rfl (rd_nw rfl (len_a (len_a (len_s (len_s (len_s (len_s (len_s (len_s (len_s (len_s (len_s HL))))))))) rfl) rfl)))) rfl rfl ?_
  refine s_gf (p' := 22) rfl (rd_sn rfl (rd_sn rfl (rd_app (rd_app (rd_app (rd_sn rfl (rd_sn rfl (rd_sn rfl (rd_sn rfl (rd_sn rfl (rd_sn rfl (rd_sn rfl (rd_sn rfl (rd_sn rfl H410)))))))))))))) rfl rfl ?_
  refine s_pfz (p' := 25) (fs' := [_, _, _, _]) rfl rfl (rd_ss rfl (rd_ss rfl (rd_nw rfl (len_a (len_a (len_s (len_s (len_s (len_s (len_s (len_s (len_s (len_s (len_s HL))))))))) rfl) rfl)))) rfl rfl rfl rfl ?_
  refine c_ret rfl ?_
  refine c_aret rfl ?_
  refine s_astn (p' := 12) (ls' := [_, _, _, _, _]) rfl rfl rfl rfl ?_
  refine s_aldn (p' := 13) rfl rfl rfl ?_
  refine c_call (p' := 18) (kc := 96) (ls0 := [_]) rfl rfl rfl rfl rfl (mj_rcv_is (rd_ss rfl (rd_ss rfl (rd_ss rfl (rd_nw rfl (len_a (len_a (len_s (len_s (len_s (len_s (len_s (len_s (len_s (len_s (len_s HL))))))))) rfl) rfl)))))) rfl rfl rfl ?_
  refine s_aldn (p' := 1) rfl rfl rfl ?_
  refine s_gf (p' := 4) rfl (rd_ss rfl (rd_ss rfl (rd_ss rfl (rd_nw rfl (len_a (len_a (len_s (len_s (len_s (len_s (len_s (len_s (len_s (len_s (len_s HL))))))))) rfl) rfl))))) rfl rfl ?_
  refine s_aldn (p' := 5) rfl rfl rfl ?_
  refine s_gf (p' := 8) rfl (rd_ss rfl (rd_ss rfl (rd_ss rfl (rd_nw rfl (len_a (len_a (len_s (len_s (len_s (len_s (len_s (len_s (len_s (len_s (len_s HL))))))))) rfl) rfl))))) rfl rfl ?_
  refine s_gf (p' := 11) rfl (rd_sn rfl (rd_sn rfl (rd_sn rfl (rd_app (rd_app (rd_app (rd_sn rfl (rd_sn rfl (rd_sn rfl (rd_sn rfl (rd_sn rfl (rd_sn rfl (rd_sn rfl (rd_sn rfl (rd_sn rfl H410))))))))))))))) rfl rfl ?_
  refine s_icmp (p' := 18) true rfl (by decide +kernel) rfl ?_
  refine s_con (p' := 19) rfl rfl ?_
  refine c_iret rfl (by decide +kernel) ?_
  refine s_if (p' := 45) true rfl (by decide +kernel) rfl ?_
  refine s_ildn (p' := 46) rfl rfl rfl ?_
  refine c_iret rfl rfl ?_
  refine s_iasz (p' := 21) (m := 0) rfl rfl (rd_sn rfl (rd_sn rfl (rd_sn rfl (rd_app (rd_nw rfl (len_a (len_s (len_s (len_s (len_s (len_s (len_s (len_s (len_s (len_s HL))))))))) rfl)))))) (by decide +kernel) rfl rfl rfl ?_
  refine s_incz (p' := 24) (w := (nI 1)) (ls' := [_, _, _, _, _, _, _, _]) rfl rfl rfl (by decide +kernel) rfl rfl ?_
  refine s_goto (p' := 7) rfl rfl ?_
  refine s_ildn (p' := 8) rfl rfl rfl ?_
  refine s_bip (p' := 10) rfl rfl ?_
  refine s_icmp (p' := 13) false rfl (by decide +kernel) rfl ?_
  refine s_aldn (p' := 14) rfl rfl rfl ?_
  refine s_ildn (p' := 15) rfl rfl rfl ?_
  refine s_aldn (p' := 16) rfl rfl rfl ?_
  refine s_ildn (p' := 17) rfl rfl rfl ?_
  refine c_call (p' := 20) (kc := 97) (ls0 := [_, _, _, _, _]) rfl rfl rfl rfl rfl (mj_rcv_is (rd_sn rfl (rd_sn rfl (rd_sn rfl (rd_sn rfl (rd_app (rd_app (rd_app (rd_sn rfl (rd_sn rfl (rd_sn rfl (rd_sn rfl (rd_sn rfl (rd_sn rfl (rd_sn rfl (rd_sn rfl (rd_sn rfl H400))))))))))))))))) rfl rfl rfl ?_
  refine s_ildn (p' := 1) rfl rfl rfl ?_
  refine s_istn (p' := 2) (ls' := [_, _, _, _, _]) rfl rfl rfl rfl ?_
  refine s_aldn (p' := 3) rfl rfl rfl ?_
  refine s_gf (p' := 6) rfl (rd_sn rfl (rd_sn rfl (rd_sn rfl (rd_sn rfl (rd_app (rd_app (rd_app (rd_sn rfl (rd_sn rfl (rd_sn rfl (rd_sn rfl (rd_sn rfl (rd_sn rfl (rd_sn rfl (rd_sn rfl (rd_sn rfl H400)))))))))))))))) rfl rfl ?_
  refine c_call (p' := 11) (kc := 96) (ls0 := [_]) rfl rfl rfl rfl rfl (mj_rcv_is (rd_sn rfl (rd_sn rfl (rd_sn rfl (rd_sn rfl (rd_app (rd_app (rd_app (rd_sn rfl (rd_sn rfl (rd_sn rfl (rd_sn rfl (rd_sn rfl (rd_sn rfl (rd_sn rfl (rd_sn rfl (rd_sn rfl H410))))))))))))))))) rfl rfl rfl ?_
  refine s_newz (p' := 3) (a := 417) rfl (len_s (len_s (len_s (len_s (len_a (len_a (len_a (len_s (len_s (len_s (len_s (len_s (len_s (len_s (len_s (len_s HL))))))))) rfl) rfl) rfl))))) rfl rfl ?_
  refine s_dupr (p' := 4) rfl rfl ?_
  refine s_aldn (p' := 5) rfl rfl rfl ?_
  refine c_call (p' := 8) (kc := 95) (ls0 := [_, _]) rfl rfl rfl rfl rfl (mj_rcv_is (rd_nw rfl (len_s (len_s (len_s (len_s (len_a (len_a (len_a (len_s (len_s (len_s (len_s (len_s (len_s (len_s (len_s (len_s HL))))))))) rfl) rfl) rfl))))))) rfl rfl rfl ?_
  refine s_aldn (p' := 1) rfl rfl rfl ?_
  refine s_aldn (p' := 2) rfl rfl rfl ?_
  refine s_pfz (p' := 5) (fs' := [_, _, _, _]) rfl rfl (rd_nw rfl (len_s (len_s (len_s (len_s (len_a (len_a (len_a (len_s (len_s (len_s (len_s (len_s (len_s (len_s (len_s (len_s HL))))))))) rfl) rfl) rfl)))))) rfl rfl rfl rfl ?_
  refine s_aldn (p' := 6) rfl rfl rfl ?_
  refine s_primN (p' := 9) (q := 3) rfl rfl rfl rfl rfl rfl rfl rfl ?_
  refine s_aldn (p' := 10) rfl rfl rfl ?_
  refine s_con (p' := 11) rfl rfl ?_
  refine s_pfz (p' := 14) (fs' := [_, _, _, _]) rfl rfl (rd_ss rfl (rd_nw rfl (len_s (len_s (len_s (len_s (len_a (len_a (len_a (len_s (len_s (len_s (len_s (len_s (len_s (len_s (len_s (len_s HL))))))))) rfl) rfl) rfl))))))) rfl rfl rfl rfl ?_
  refine s_aldn (p' := 15) rfl rfl rfl ?_
  refine s_aldn (p' := 16) rfl rfl rfl ?_
  refine s_gf (p' := 19) rfl (rd_ss rfl (rd_ss rfl (rd_nw rfl (len_s (len_s (len_s (len_s (len_a (len_a (len_a (len_s (len_s (len_s (len_s (len_s (len_s (len_s (len_s (len_s HL))))))))) rfl) rfl) rfl)))))))) rfl rfl ?_
  refine s_gf (p' := 22) rfl (rd_sn rfl (rd_sn rfl (rd_app (rd_sn rfl (rd_sn rfl (rd_sn rfl (rd_sn rfl (rd_app (rd_app (rd_app (rd_sn rfl (rd_sn rfl (rd_sn rfl (rd_sn rfl (rd_sn rfl (rd_sn rfl (rd_sn rfl (rd_sn rfl (rd_sn rfl H410))))))))))))))))))) rfl rfl ?_
  refine s_pfz (p' := 25) (fs' := [_, _, _, _]) rfl rfl (rd_ss rfl (rd_ss rfl (rd_nw rfl (len_s (len_s (len_s (len_s (len_a (len_a (len_a (len_s (len_s (len_s (len_s (len_s (len_s (len_s (len_s (len_s HL))))))))) rfl) rfl) rfl)))))))) rfl rfl rfl rfl ?_
  refine c_ret rfl ?_
  refine c_aret rfl ?_
  refine s_astn (p' := 12) (ls' := [_, _, _, _, _]) rfl rfl rfl rfl ?_
  refine s_aldn (p' := 13) rfl rfl rfl ?_
  refine c_call (p' := 18) (kc := 96) (ls0 := [_]) rfl rfl rfl rfl rfl (mj_rcv_is (rd_ss rfl (rd_ss rfl (rd_ss rfl (rd_nw rfl (len_s (len_s (len_s (len_s (len_a (len_a (len_a (len_s (len_s (len_s (len_s (len_s (len_s (len_s (len_s (len_s HL))))))))) rfl) rfl) rfl)))))))))) rfl rfl rfl ?_
  refine s_aldn (p' := 1) rfl rfl rfl ?_
  refine s_gf (p' := 4) rfl (rd_ss rfl (rd_ss rfl (rd_ss rfl (rd_nw rfl (len_s (len_s (len_s (len_s (len_a (len_a (len_a (len_s (len_s (len_s (len_s (len_s (len_s (len_s (len_s (len_s HL))))))))) rfl) rfl) rfl))))))))) rfl rfl ?_
  refine s_aldn (p' := 5) rfl rfl rfl ?_
  refine s_gf (p' := 8) rfl (rd_ss rfl (rd_ss rfl (rd_ss rfl (rd_nw rfl (len_s (len_s (len_s (len_s (len_a (len_a (len_a (len_s (len_s (len_s (len_s (len_s (len_s (len_s (len_s (len_s HL))))))))) rfl) rfl) rfl))))))))) rfl rfl ?_
  refine s_gf (p' := 11) rfl (rd_sn rfl (rd_sn rfl (rd_sn rfl (rd_app (rd_sn rfl (rd_sn rfl (rd_sn rfl (rd_sn rfl (rd_app (rd_app (rd_app (rd_sn rfl (rd_sn rfl (rd_sn rfl (rd_sn rfl (rd_sn rfl (rd_sn rfl (rd_sn rfl (rd_sn rfl (rd_sn rfl H410)))))))))))))))))))) rfl rfl ?_
  refine s_icmp (p' := 18) true rfl (by decide +kernel) rfl ?_
  refine s_con (p' := 19) rfl rfl ?_
  refine c_iret rfl (by decide +kernel) ?_
  refine s_if (p' := 45) true rfl (by decide +kernel) rfl ?_
  refine s_ildn (p' := 46) rfl rfl rfl ?_
  refine c_iret rfl rfl ?_
  refine s_iasz (p' := 21) (m := 1) rfl rfl (rd_sn rfl (rd_sn rfl (rd_sn rfl (rd_app (rd_ss rfl (rd_sn rfl (rd_sn rfl (rd_sn rfl (rd_app (rd_nw rfl (len_a (len_s (len_s (len_s (len_s (len_s (len_s (len_s (len_s (len_s HL))))))))) rfl))))))))))) (by decide +kernel) rfl rfl rfl ?_
  refine s_incz (p' := 24) (w := (nI 2)) (ls' := [_, _, _, _, _, _, _, _]) rfl rfl rfl (by decide +kernel) rfl rfl ?_
  refine s_goto (p' := 7) rfl rfl ?_
  refine s_ildn (p' := 8) rfl rfl rfl ?_
  refine s_bip (p' := 10) rfl rfl ?_
  refine s_icmp (p' := 13) false rfl (by decide +kernel) rfl ?_
  refine s_aldn (p' := 14) rfl rfl rfl ?_
  refine s_ildn (p' := 15) rfl rfl rfl ?_
  refine s_aldn (p' := 16) rfl rfl rfl ?_
  refine s_ildn (p' := 17) rfl rfl rfl ?_
  refine c_call (p' := 20) (kc := 97) (ls0 := [_, _, _, _, _]) rfl rfl rfl rfl rfl (mj_rcv_is (rd_sn rfl (rd_sn rfl (rd_sn rfl (rd_sn rfl (rd_app (rd_sn rfl (rd_sn rfl (rd_sn rfl (rd_sn rfl (rd_app (rd_app (rd_app (rd_sn rfl (rd_sn rfl (rd_sn rfl (rd_sn rfl (rd_sn rfl (rd_sn rfl (rd_sn rfl (rd_sn rfl (rd_sn rfl H400)))))))))))))))))))))) rfl rfl rfl ?_
  refine s_ildn (p' := 1) rfl rfl rfl ?_
  refine s_istn (p' := 2) (ls' := [_, _, _, _, _]) rfl rfl rfl rfl ?_
  refine s_aldn (p' := 3) rfl rfl rfl ?_
  refine s_gf (p' := 6) rfl (rd_sn rfl (rd_sn rfl (rd_sn rfl (rd_sn rfl (rd_app (rd_sn rfl (rd_sn rfl (rd_sn rfl (rd_sn rfl (rd_app (rd_app (rd_app (rd_sn rfl (rd_sn rfl (rd_sn rfl (rd_sn rfl (rd_sn rfl (rd_sn rfl (rd_sn rfl (rd_sn rfl (rd_sn rfl H400))))))))))))))))))))) rfl rfl ?_
  refine c_call (p' := 11) (kc := 96) (ls0 := [_]) rfl rfl rfl rfl rfl (mj_rcv_is (rd_sn rfl (rd_sn rfl (rd_sn rfl (rd_sn rfl (rd_app (rd_sn rfl (rd_sn rfl (rd_sn rfl (rd_sn rfl (rd_app (rd_app (rd_app (rd_sn rfl (rd_sn rfl (rd_sn rfl (rd_sn rfl (rd_sn rfl (rd_sn rfl (rd_sn rfl (rd_sn rfl (rd_sn rfl H410)))))))))))))))))))))) rfl rfl rfl ?_
  refine s_newz (p' := 3) (a := 418) rfl (len_s (len_s (len_s (len_s (len_a (len_s (len_s (len_s (len_s (len_a (len_a (len_a (len_s (len_s (len_s (len_s (len_s (len_s (len_s (len_s (len_s HL))))))))) rfl) rfl) rfl))))) rfl))))) rfl rfl ?_
  refine s_dupr (p' := 4) rfl rfl ?_
  refine s_aldn (p' := 5) rfl rfl rfl ?_
  refine c_call (p' := 8) (kc := 95) (ls0 := [_, _]) rfl rfl rfl rfl rfl (mj_rcv_is (rd_nw rfl (len_s (len_s (len_s (len_s (len_a (len_s (len_s (len_s (len_s (len_a (len_a (len_a (len_s (len_s (len_s (len_s (len_s (len_s (len_s (len_s (len_s HL))))))))) rfl) rfl) rfl))))) rfl))))))) rfl rfl rfl ?_
  refine s_aldn (p' := 1) rfl rfl rfl ?_
  refine s_aldn (p' := 2) rfl rfl rfl ?_
  refine s_pfz (p' := 5) (fs' := [_, _, _, _]) rfl rfl (rd_nw rfl (len_s (len_s (len_s (len_s (len_a (len_s (len_s (len_s (len_s (len_a (len_a (len_a (len_s (len_s (len_s (len_s (len_s (len_s (len_s (len_s (len_s HL))))))))) rfl) rfl) rfl))))) rfl)))))) rfl rfl rfl rfl ?_
  refine s_aldn (p' := 6) rfl rfl rfl ?_
  refine s_primN (p' := 9) (q := 3) rfl rfl rfl rfl rfl rfl rfl rfl ?_
  refine s_aldn (p' := 10) rfl rfl rfl ?_
  refine s_con (p' := 11) rfl rfl ?_
  refine s_pfz (p' := 14) (fs' := [_, _, _, _]) rfl rfl (rd_ss rfl (rd_nw rfl (len_s (len_s (len_s (len_s (len_a (len_s (len_s (len_s (len_s (len_a (len_a (len_a (len_s (len_s (len_s (len_s (len_s (len_s (len_s (len_s (len_s HL))))))))) rfl) rfl) rfl))))) rfl))))))) rfl rfl rfl rfl ?_
  refine s_aldn (p' := 15) rfl rfl rfl ?_
  refine s_aldn (p' := 16) rfl rfl rfl ?_
  refine s_gf (p' := 19) rfl (rd_ss rfl (rd_ss rfl (rd_nw rfl (len_s (len_s (len_s (len_s (len_a (len_s (len_s (len_s (len_s (len_a (len_a (len_a (len_s (len_s (len_s (len_s (len_s (len_s (len_s (len_s (len_s HL))))))))) rfl) rfl) rfl))))) rfl)))))))) rfl rfl ?_
  refine s_gf (p' := 22) rfl (rd_sn rfl (rd_sn rfl (rd_app (rd_sn rfl (rd_sn rfl (rd_sn rfl (rd_sn rfl (rd_app (rd_sn rfl (rd_sn rfl (rd_sn rfl (rd_sn rfl (rd_app (rd_app (rd_app (rd_sn rfl (rd_sn rfl (rd_sn rfl (rd_sn rfl (rd_sn rfl (rd_sn rfl (rd_sn rfl (rd_sn rfl (rd_sn rfl H410)))))))))))))))))))))))) rfl rfl ?_
  refine s_pfz (p' := 25) (fs' := [_, _, _, _]) rfl rfl (rd_ss rfl (rd_ss rfl (rd_nw rfl (len_s (len_s (len_s (len_s (len_a (len_s (len_s (len_s (len_s (len_a (len_a (len_a (len_s (len_s (len_s (len_s (len_s (len_s (len_s (len_s (len_s HL))))))))) rfl) rfl) rfl))))) rfl)))))))) rfl rfl rfl rfl ?_
  refine c_ret rfl ?_
  refine c_aret rfl ?_
  refine s_astn (p' := 12) (ls' := [_, _, _, _, _]) rfl rfl rfl rfl ?_
  refine s_aldn (p' := 13) rfl rfl rfl ?_
  refine c_call (p' := 18) (kc := 96) (ls0 := [_]) rfl rfl rfl rfl rfl (mj_rcv_is (rd_ss rfl (rd_ss rfl (rd_ss rfl (rd_nw rfl (len_s (len_s (len_s (len_s (len_a (len_s (len_s (len_s (len_s (len_a (len_a (len_a (len_s (len_s (len_s (len_s (len_s (len_s (len_s (len_s (len_s HL))))))))) rfl) rfl) rfl))))) rfl)))))))))) rfl rfl rfl ?_
  refine s_aldn (p' := 1) rfl rfl rfl ?_
  refine s_gf (p' := 4) rfl (rd_ss rfl (rd_ss rfl (rd_ss rfl (rd_nw rfl (len_s (len_s (len_s (len_s (len_a (len_s (len_s (len_s (len_s (len_a (len_a (len_a (len_s (len_s (len_s (len_s (len_s (len_s (len_s (len_s (len_s HL))))))))) rfl) rfl) rfl))))) rfl))))))))) rfl rfl ?_
  refine s_aldn (p' := 5) rfl rfl rfl ?_
  refine s_gf (p' := 8) rfl (rd_ss rfl (rd_ss rfl (rd_ss rfl (rd_nw rfl (len_s (len_s (len_s (len_s (len_a (len_s (len_s (len_s (len_s (len_a (len_a (len_a (len_s (len_s (len_s (len_s (len_s (len_s (len_s (len_s (len_s HL))))))))) rfl) rfl) rfl))))) rfl))))))))) rfl rfl ?_
  refine s_gf (p' := 11) rfl (rd_sn rfl (rd_sn rfl (rd_sn rfl (rd_app (rd_sn rfl (rd_sn rfl (rd_sn rfl (rd_sn rfl (rd_app (rd_sn rfl (rd_sn rfl (rd_sn rfl (rd_sn rfl (rd_app (rd_app (rd_app (rd_sn rfl (rd_sn rfl (rd_sn rfl (rd_sn rfl (rd_sn rfl (rd_sn rfl (rd_sn rfl (rd_sn rfl (rd_sn rfl H410))))))))))))))))))))))))) rfl rfl ?_
  refine s_icmp (p' := 18) true rfl (by decide +kernel) rfl ?_
  refine s_con (p' := 19) rfl rfl ?_
  refine c_iret rfl (by decide +kernel) ?_
  refine s_if (p' := 45) true rfl (by decide +kernel) rfl ?_
  refine s_ildn (p' := 46) rfl rfl rfl ?_
  refine c_iret rfl rfl ?_
  refine s_iasz (p' := 21) (m := 2) rfl rfl (rd_sn rfl (rd_sn rfl (rd_sn rfl (rd_app (rd_ss rfl (rd_sn rfl (rd_sn rfl (rd_sn rfl (rd_app (rd_ss rfl (rd_sn rfl (rd_sn rfl (rd_sn rfl (rd_app (rd_nw rfl (len_a (len_s (len_s (len_s (len_s (len_s (len_s (len_s (len_s (len_s HL))))))))) rfl)))))))))))))))) (by decide +kernel) rfl rfl rfl ?_
  refine s_incz (p' := 24) (w := (nI 3)) (ls' := [_, _, _, _, _, _, _, _]) rfl rfl rfl (by decide +kernel) rfl rfl ?_
  refine s_goto (p' := 7) rfl rfl ?_
  refine s_ildn (p' := 8) rfl rfl rfl ?_
  refine s_bip (p' := 10) rfl rfl ?_
  refine s_icmp (p' := 13) false rfl (by decide +kernel) rfl ?_
  refine s_aldn (p' := 14) rfl rfl rfl ?_
  refine s_ildn (p' := 15) rfl rfl rfl ?_
  refine s_aldn (p' := 16) rfl rfl rfl ?_
  refine s_ildn (p' := 17) rfl rfl rfl ?_
  refine c_call (p' := 20) (kc := 97) (ls0 := [_, _, _, _, _]) rfl rfl rfl rfl rfl (mj_rcv_is (rd_sn rfl (rd_sn rfl (rd_sn rfl (rd_sn rfl (rd_app (rd_sn rfl (rd_sn rfl (rd_sn rfl (rd_sn rfl (rd_app (rd_sn rfl (rd_sn rfl (rd_sn rfl (rd_sn rfl (rd_app (rd_app (rd_app (rd_sn rfl (rd_sn rfl (rd_sn rfl (rd_sn rfl (rd_sn rfl (rd_sn rfl (rd_sn rfl (rd_sn rfl (rd_sn rfl H400))))))))))))))))))))))))))) rfl rfl rfl ?_
  refine s_ildn (p' := 1) rfl rfl rfl ?_
  refine s_istn (p' := 2) (ls' := [_, _, _, _, _]) rfl rfl rfl rfl ?_
  refine s_aldn (p' := 3) rfl rfl rfl ?_
  refine s_gf (p' := 6) rfl (rd_sn rfl (rd_sn rfl (rd_sn rfl (rd_sn rfl (rd_app (rd_sn rfl (rd_sn rfl (rd_sn rfl (rd_sn rfl (rd_app (rd_sn rfl (rd_sn rfl (rd_sn rfl (rd_sn rfl (rd_app (rd_app (rd_app (rd_sn rfl (rd_sn rfl (rd_sn rfl (rd_sn rfl (rd_sn rfl (rd_sn rfl (rd_sn rfl (rd_sn rfl (rd_sn rfl H400)))))))))))))))))))))))))) rfl rfl ?_
  refine c_call (p' := 11) (kc := 96) (ls0 := [_]) rfl rfl rfl rfl rfl (mj_rcv_is (rd_sn rfl (rd_sn rfl (rd_sn rfl (rd_sn rfl (rd_app (rd_sn rfl (rd_sn rfl (rd_sn rfl (rd_sn rfl (rd_app (rd_sn rfl (rd_sn rfl (rd_sn rfl (rd_sn rfl (rd_app (rd_app (rd_app (rd_sn rfl (rd_sn rfl (rd_sn rfl (rd_sn rfl (rd_sn rfl (rd_sn rfl (rd_sn rfl (rd_sn rfl (rd_sn rfl H410))))))))))))))))))))))))))) rfl rfl rfl ?_
  refine s_newz (p' := 3) (a := 419) rfl (len_s (len_s (len_s (len_s (len_a (len_s (len_s (len_s (len_s (len_a (len_s (len_s (len_s (len_s (len_a (len_a (len_a (len_s (len_s (len_s (len_s (len_s (len_s (len_s (len_s (len_s HL))))))))) rfl) rfl) rfl))))) rfl))))) rfl))))) rfl rfl ?_
  refine s_dupr (p' := 4) rfl rfl ?_
  refine s_aldn (p' := 5) rfl rfl rfl ?_
  refine c_call (p' := 8) (kc := 95) (ls0 := [_, _]) rfl rfl rfl rfl rfl (mj_rcv_is (rd_nw rfl (len_s (len_s (len_s (len_s (len_a (len_s (len_s (len_s (len_s (len_a (len_s (len_s (len_s (len_s (len_a (len_a (len_a (len_s (len_s (len_s (len_s (len_s (len_s (len_s (len_s (len_s HL))))))))) rfl) rfl) rfl))))) rfl))))) rfl))))))) rfl rfl rfl ?_
  refine s_aldn (p' := 1) rfl rfl rfl ?_
  refine s_aldn (p' := 2) rfl rfl rfl ?_
  refine s_pfz (p' := 5) (fs' := [_, _, _, _]) rfl rfl (rd_nw rfl (len_s (len_s (len_s (len_s (len_a (len_s (len_s (len_s (len_s (len_a (len_s (len_s (len_s (len_s (len_a (len_a (len_a (len_s (len_s (len_s (len_s (len_s (len_s (len_s (len_s (len_s HL))))))))) rfl) rfl) rfl))))) rfl))))) rfl)))))) rfl rfl rfl rfl ?_
  refine s_aldn (p' := 6) rfl rfl rfl ?_
  refine s_primN (p' := 9) (q := 3) rfl rfl rfl rfl rfl rfl rfl rfl ?_
  refine s_aldn (p' := 10) rfl rfl rfl ?_
  refine s_con (p' := 11) rfl rfl ?_
  refine s_pfz (p' := 14) (fs' := [_, _, _, _]) rfl rfl (rd_ss rfl (rd_nw rfl (len_s (len_s (len_s (len_s (len_a (len_s (len_s (len_s (len_s (len_a (len_s (len_s (len_s (len_s (len_a (len_a (len_a (len_s (len_s (len_s (len_s (len_s (len_s (len_s (len_s (len_s HL))))))))) rfl) rfl) rfl))))) rfl))))) rfl))))))) rfl rfl rfl rfl ?_
  refine s_aldn (p' := 15) rfl rfl rfl ?_
  refine s_aldn (p' := 16) rfl rfl rfl ?_
  refine s_gf (p' := 19) rfl (rd_ss rfl (rd_ss rfl (rd_nw rfl (len_s (len_s (len_s (len_s (len_a (len_s (len_s (len_s (len_s (len_a (len_s (len_s (len_s (len_s (len_a (len_a (len_a (len_s (len_s (len_s (len_s (len_s (len_s (len_s (len_s (len_s HL))))))))) rfl) rfl) rfl))))) rfl))))) rfl)))))))) rfl rfl ?_
  refine s_gf (p' := 22) rfl (rd_sn rfl (rd_sn rfl (rd_app (rd_sn rfl (rd_sn rfl (rd_sn rfl (rd_sn rfl (rd_app (rd_sn rfl (rd_sn rfl (rd_sn rfl (rd_sn rfl (rd_app (rd_sn rfl (rd_sn rfl (rd_sn rfl (rd_sn rfl (rd_app (rd_app (rd_app (rd_sn rfl (rd_sn rfl (rd_sn rfl (rd_sn rfl (rd_sn rfl (rd_sn rfl (rd_sn rfl (rd_sn rfl (rd_sn rfl H410))))))))))))))))))))))))))))) rfl rfl ?_
  refine s_pfz (p' := 25) (fs' := [_, _, _, _]) rfl rfl (rd_ss rfl (rd_ss rfl (rd_nw rfl (len_s (len_s (len_s (len_s (len_a (len_s (len_s (len_s (len_s (len_a (len_s (len_s (len_s (len_s (len_a (len_a (len_a (len_s (len_s (len_s (len_s (len_s (len_s (len_s (len_s (len_s HL))))))))) rfl) rfl) rfl))))) rfl))))) rfl)))))))) rfl rfl rfl rfl ?_
  refine c_ret rfl ?_
  refine c_aret rfl ?_
  refine s_astn (p' := 12) (ls' := [_, _, _, _, _]) rfl rfl rfl rfl ?_
  refine s_aldn (p' := 13) rfl rfl rfl ?_
  refine c_call (p' := 18) (kc := 96) (ls0 := [_]) rfl rfl rfl rfl rfl (mj_rcv_is (rd_ss rfl (rd_ss rfl (rd_ss rfl (rd_nw rfl (len_s (len_s (len_s (len_s (len_a (len_s (len_s (len_s (len_s (len_a (len_s (len_s (len_s (len_s (len_a (len_a (len_a (len_s (len_s (len_s (len_s (len_s (len_s (len_s (len_s (len_s HL))))))))) rfl) rfl) rfl))))) rfl))))) rfl)))))))))) rfl rfl rfl ?_
  refine s_aldn (p' := 1) rfl rfl rfl ?_
  refine s_gf (p' := 4) rfl (rd_ss rfl (rd_ss rfl (rd_ss rfl (rd_nw rfl (len_s (len_s (len_s (len_s (len_a (len_s (len_s (len_s (len_s (len_a (len_s (len_s (len_s (len_s (len_a (len_a (len_a (len_s (len_s (len_s (len_s (len_s (len_s (len_s (len_s (len_s HL))))))))) rfl) rfl) rfl))))) rfl))))) rfl))))))))) rfl rfl ?_
  refine s_aldn (p' := 5) rfl rfl rfl ?_
  refine s_gf (p' := 8) rfl (rd_ss rfl (rd_ss rfl (rd_ss rfl (rd_nw rfl (len_s (len_s (len_s (len_s (len_a (len_s (len_s (len_s (len_s (len_a (len_s (len_s (len_s (len_s (len_a (len_a (len_a (len_s (len_s (len_s (len_s (len_s (len_s (len_s (len_s (len_s HL))))))))) rfl) rfl) rfl))))) rfl))))) rfl))))))))) rfl rfl ?_
  refine s_gf (p' := 11) rfl (rd_sn rfl (rd_sn rfl (rd_sn rfl (rd_app (rd_sn rfl (rd_sn rfl (rd_sn rfl (rd_sn rfl (rd_app (rd_sn rfl (rd_sn rfl (rd_sn rfl (rd_sn rfl (rd_app (rd_sn rfl (rd_sn rfl (rd_sn rfl (rd_sn rfl (rd_app (rd_app (rd_app (rd_sn rfl (rd_sn rfl (rd_sn rfl (rd_sn rfl (rd_sn rfl (rd_sn rfl (rd_sn rfl (rd_sn rfl (rd_sn rfl H410)))))))))))))))))))))))))))))) rfl rfl ?_
  refine s_icmp (p' := 18) true rfl (by decide +kernel) rfl ?_
  refine s_con (p' := 19) rfl rfl ?_
  refine c_iret rfl (by decide +kernel) ?_
  refine s_if (p' := 45) true rfl (by decide +kernel) rfl ?_
  refine s_ildn (p' := 46) rfl rfl rfl ?_
  refine c_iret rfl rfl ?_
  refine s_iasz (p' := 21) (m := 3) rfl rfl (rd_sn rfl (rd_sn rfl (rd_sn rfl (rd_app (rd_ss rfl (rd_sn rfl (rd_sn rfl (rd_sn rfl (rd_app (rd_ss rfl (rd_sn rfl (rd_sn rfl (rd_sn rfl (rd_app (rd_ss rfl (rd_sn rfl (rd_sn rfl (rd_sn rfl (rd_app (rd_nw rfl (len_a (len_s (len_s (len_s (len_s (len_s (len_s (len_s (len_s (len_s HL))))))))) rfl))))))))))))))))))))) (by decide +kernel) rfl rfl rfl ?_
  refine s_incz (p' := 24) (w := (nI 4)) (ls' := [_, _, _, _, _, _, _, _]) rfl rfl rfl (by decide +kernel) rfl rfl ?_
  refine s_goto (p' := 7) rfl rfl ?_
  refine s_ildn (p' := 8) rfl rfl rfl ?_
  refine s_bip (p' := 10) rfl rfl ?_
  refine s_icmp (p' := 13) false rfl (by decide +kernel) rfl ?_
  refine s_aldn (p' := 14) rfl rfl rfl ?_
  refine s_ildn (p' := 15) rfl rfl rfl ?_
  refine s_aldn (p' := 16) rfl rfl rfl ?_
  refine s_ildn (p' := 17) rfl rfl rfl ?_
  refine c_call (p' := 20) (kc := 97) (ls0 := [_, _, _, _, _]) rfl rfl rfl rfl rfl (mj_rcv_is (rd_sn rfl (rd_sn rfl (rd_sn rfl (rd_sn rfl (rd_app (rd_sn rfl (rd_sn rfl (rd_sn rfl (rd_sn rfl (rd_app (rd_sn rfl (rd_sn rfl (rd_sn rfl (rd_sn rfl (rd_app (rd_sn rfl (rd_sn rfl (rd_sn rfl (rd_sn rfl (rd_app (rd_app (rd_app (rd_sn rfl (rd_sn rfl (rd_sn rfl (rd_sn rfl (rd_sn rfl (rd_sn rfl (rd_sn rfl (rd_sn rfl (rd_sn rfl H400)))))))))))))))))))))))))))))))) rfl rfl rfl ?_
  refine s_ildn (p' := 1) rfl rfl rfl ?_
  refine s_istn (p' := 2) (ls' := [_, _, _, _, _]) rfl rfl rfl rfl ?_
  refine s_aldn (p' := 3) rfl rfl rfl ?_
  refine s_gf (p' := 6) rfl (rd_sn rfl (rd_sn rfl (rd_sn rfl (rd_sn rfl (rd_app (rd_sn rfl (rd_sn rfl (rd_sn rfl (rd_sn rfl (rd_app (rd_sn rfl (rd_sn rfl (rd_sn rfl (rd_sn rfl (rd_app (rd_sn rfl (rd_sn rfl (rd_sn rfl (rd_sn rfl (rd_app (rd_app (rd_app (rd_sn rfl (rd_sn rfl (rd_sn rfl (rd_sn rfl (rd_sn rfl (rd_sn rfl (rd_sn rfl (rd_sn rfl (rd_sn rfl H400))))))))))))))))))))))))))))))) rfl rfl ?_
  refine c_call (p' := 11) (kc := 96) (ls0 := [_]) rfl rfl rfl rfl rfl (mj_rcv_is (rd_sn rfl (rd_sn rfl (rd_sn rfl (rd_sn rfl (rd_app (rd_sn rfl (rd_sn rfl (rd_sn rfl (rd_sn rfl (rd_app (rd_sn rfl (rd_sn rfl (rd_sn rfl (rd_sn rfl (rd_app (rd_sn rfl (rd_sn rfl (rd_sn rfl (rd_sn rfl (rd_app (rd_app (rd_app (rd_sn rfl (rd_sn rfl (rd_sn rfl (rd_sn rfl (rd_sn rfl (rd_sn rfl (rd_sn rfl (rd_sn rfl (rd_sn rfl H410)))))))))))))))))))))))))))))))) rfl rfl rfl ?_
  refine s_newz (p' := 3) (a := 420) rfl (len_s (len_s (len_s (len_s (len_a (len_s (len_s (len_s (len_s (len_a (len_s (len_s (len_s (len_s (len_a (len_s (len_s (len_s (len_s (len_a (len_a (len_a (len_s (len_s (len_s (len_s (len_s (len_s (len_s (len_s (len_s HL))))))))) rfl) rfl) rfl))))) rfl))))) rfl))))) rfl))))) rfl rfl ?_
  refine s_dupr (p' := 4) rfl rfl ?_
  refine s_aldn (p' := 5) rfl rfl rfl ?_
  refine c_call (p' := 8) (kc := 95) (ls0 := [_, _]) rfl rfl rfl rfl rfl (mj_rcv_is (rd_nw rfl (len_s (len_s (len_s (len_s (len_a (len_s (len_s (len_s (len_s (len_a (len_s (len_s (len_s (len_s (len_a (len_s (len_s (len_s (len_s (len_a (len_a (len_a (len_s (len_s (len_s (len_s (len_s (len_s (len_s (len_s (len_s HL))))))))) rfl) rfl) rfl))))) rfl))))) rfl))))) rfl))))))) rfl rfl rfl ?_
  refine s_aldn (p' := 1) rfl rfl rfl ?_
  refine s_aldn (p' := 2) rfl rfl rfl ?_
  refine s_pfz (p' := 5) (fs' := [_, _, _, _]) rfl rfl (rd_nw rfl (len_s (len_s (len_s (len_s (len_a (len_s (len_s (len_s (len_s (len_a (len_s (len_s (len_s (len_s (len_a (len_s (len_s (len_s (len_s (len_a (len_a (len_a (len_s (len_s (len_s (len_s (len_s (len_s (len_s (len_s (len_s HL))))))))) rfl) rfl) rfl))))) rfl))))) rfl))))) rfl)))))) rfl rfl rfl rfl ?_
  refine s_aldn (p' := 6) rfl rfl rfl ?_
  refine s_primN (p' := 9) (q := 3) rfl rfl rfl rfl rfl rfl rfl rfl ?_
  refine s_aldn (p' := 10) rfl rfl rfl ?_
  refine s_con (p' := 11) rfl rfl ?_
  refine s_pfz (p' := 14) (fs' := [_, _, _, _]) rfl rfl (rd_ss rfl (rd_nw rfl (len_s (len_s (len_s (len_s (len_a (len_s (len_s (len_s (len_s (len_a (len_s (len_s (len_s (len_s (len_a (len_s (len_s (len_s (len_s (len_a (len_a (len_a (len_s (len_s (len_s (len_s (len_s (len_s (len_s (len_s (len_s HL))))))))) rfl) rfl) rfl))))) rfl))))) rfl))))) rfl))))))) rfl rfl rfl rfl ?_
  refine s_aldn (p' := 15) rfl rfl rfl ?_
  refine s_aldn (p' := 16) rfl rfl rfl ?_
  refine s_gf (p' := 19) rfl (rd_ss rfl (rd_ss rfl (rd_nw rfl (len_s (len_s (len_s (len_s (len_a (len_s (len_s (len_s (len_s (len_a (len_s (len_s (len_s (len_s (len_a (len_s (len_s (len_s (len_s (len_a (len_a (len_a (len_s (len_s (len_s (len_s (len_s (len_s (len_s (len_s (len_s HL))))))))) rfl) rfl) rfl))))) rfl))))) rfl))))) rfl)))))))) rfl rfl ?_
  refine s_gf (p' := 22) rfl (rd_sn rfl (rd_sn rfl (rd_app (rd_sn rfl (rd_sn rfl (rd_sn rfl (rd_sn rfl (rd_app (rd_sn rfl (rd_sn rfl (rd_sn rfl (rd_sn rfl (rd_app (rd_sn rfl (rd_sn rfl (rd_sn rfl (rd_sn rfl (rd_app (rd_sn rfl (rd_sn rfl (rd_sn rfl (rd_sn rfl (rd_app (rd_app (rd_app (rd_sn rfl (rd_sn rfl (rd_sn rfl (rd_sn rfl (rd_sn rfl (rd_sn rfl (rd_sn rfl (rd_sn rfl (rd_sn rfl H410)))))))))))))))))))))))))))))))))) rfl rfl ?_
  refine s_pfz (p' := 25) (fs' := [_, _, _, _]) rfl rfl (rd_ss rfl (rd_ss rfl (rd_nw rfl (len_s (len_s (len_s (len_s (len_a (len_s (len_s (len_s (len_s (len_a (len_s (len_s (len_s (len_s (len_a (len_s (len_s (len_s (len_s (len_a (len_a (len_a (len_s (len_s (len_s (len_s (len_s (len_s (len_s (len_s (len_s HL))))))))) rfl) rfl) rfl))))) rfl))))) rfl))))) rfl)))))))) rfl rfl rfl rfl ?_
  refine c_ret rfl ?_
  refine c_aret rfl ?_
  refine s_astn (p' := 12) (ls' := [_, _, _, _, _]) rfl rfl rfl rfl ?_
  refine s_aldn (p' := 13) rfl rfl rfl ?_
  refine c_call (p' := 18) (kc := 96) (ls0 := [_]) rfl rfl rfl rfl rfl (mj_rcv_is (rd_ss rfl (rd_ss rfl (rd_ss rfl (rd_nw rfl (len_s (len_s (len_s (len_s (len_a (len_s (len_s (len_s (len_s (len_a (len_s (len_s (len_s (len_s (len_a (len_s (len_s (len_s (len_s (len_a (len_a (len_a (len_s (len_s (len_s (len_s (len_s (len_s (len_s (len_s (len_s HL))))))))) rfl) rfl) rfl))))) rfl))))) rfl))))) rfl)))))))))) rfl rfl rfl ?_
  refine s_aldn (p' := 1) rfl rfl rfl ?_
  refine s_gf (p' := 4) rfl (rd_ss rfl (rd_ss rfl (rd_ss rfl (rd_nw rfl (len_s (len_s (len_s (len_s (len_a (len_s (len_s (len_s (len_s (len_a (len_s (len_s (len_s (len_s (len_a (len_s (len_s (len_s (len_s (len_a (len_a (len_a (len_s (len_s (len_s (len_s (len_s (len_s (len_s (len_s (len_s HL))))))))) rfl) rfl) rfl))))) rfl))))) rfl))))) rfl))))))))) rfl rfl ?_
  refine s_aldn (p' := 5) rfl rfl rfl ?_
  refine s_gf (p' := 8) rfl (rd_ss rfl (rd_ss rfl (rd_ss rfl (rd_nw rfl (len_s (len_s (len_s (len_s (len_a (len_s (len_s (len_s (len_s (len_a (len_s (len_s (len_s (len_s (len_a (len_s (len_s (len_s (len_s (len_a (len_a (len_a (len_s (len_s (len_s (len_s (len_s (len_s (len_s (len_s (len_s HL))))))))) rfl) rfl) rfl))))) rfl))))) rfl))))) rfl))))))))) rfl rfl ?_
  refine s_gf (p' := 11) rfl (rd_sn rfl (rd_sn rfl (rd_sn rfl (rd_app (rd_sn rfl (rd_sn rfl (rd_sn rfl (rd_sn rfl (rd_app (rd_sn rfl (rd_sn rfl (rd_sn rfl (rd_sn rfl (rd_app (rd_sn rfl (rd_sn rfl (rd_sn rfl (rd_sn rfl (rd_app (rd_sn rfl (rd_sn rfl (rd_sn rfl (rd_sn rfl (rd_app (rd_app (rd_app (rd_sn rfl (rd_sn rfl (rd_sn rfl (rd_sn rfl (rd_sn rfl (rd_sn rfl (rd_sn rfl (rd_sn rfl (rd_sn rfl H410))))))))))))))))))))))))))))))))))) rfl rfl ?_
  refine s_icmp (p' := 18) true rfl (by decide +kernel) rfl ?_
  refine s_con (p' := 19) rfl rfl ?_
  refine c_iret rfl (by decide +kernel) ?_
  refine s_if (p' := 45) true rfl (by decide +kernel) rfl ?_
  refine s_ildn (p' := 46) rfl rfl rfl ?_
  refine c_iret rfl rfl ?_
  refine s_iasz (p' := 21) (m := 4) rfl rfl (rd_sn rfl (rd_sn rfl (rd_sn rfl (rd_app (rd_ss rfl (rd_sn rfl (rd_sn rfl (rd_sn rfl (rd_app (rd_ss rfl (rd_sn rfl (rd_sn rfl (rd_sn rfl (rd_app (rd_ss rfl (rd_sn rfl (rd_sn rfl (rd_sn rfl (rd_app (rd_ss rfl (rd_sn rfl (rd_sn rfl (rd_sn rfl (rd_app (rd_nw rfl (len_a (len_s (len_s (len_s (len_s (len_s (len_s (len_s (len_s (len_s HL))))))))) rfl)))))))))))))))))))))))))) (by decide +kernel) rfl rfl rfl ?_
  refine s_incz (p' := 24) (w := (nI 5)) (ls' := [_, _, _, _, _, _, _, _]) rfl rfl rfl (by decide +kernel) rfl rfl ?_
  refine s_goto (p' := 7) rfl rfl ?_
  refine s_ildn (p' := 8) rfl rfl rfl ?_
  refine s_bip (p' := 10) rfl rfl ?_
  refine s_icmp (p' := 13) false rfl (by decide +kernel) rfl ?_
  refine s_aldn (p' := 14) rfl rfl rfl ?_
  refine s_ildn (p' := 15) rfl rfl rfl ?_
  refine s_aldn (p' := 16) rfl rfl rfl ?_
  refine s_ildn (p' := 17) rfl rfl rfl ?_
  refine c_call (p' := 20) (kc := 97) (ls0 := [_, _, _, _, _]) rfl rfl rfl rfl rfl (mj_rcv_is (rd_sn rfl (rd_sn rfl (rd_sn rfl (rd_sn rfl (rd_app (rd_sn rfl (rd_sn rfl (rd_sn rfl (rd_sn rfl (rd_app (rd_sn rfl (rd_sn rfl (rd_sn rfl (rd_sn rfl (rd_app (rd_sn rfl (rd_sn rfl (rd_sn rfl (rd_sn rfl (rd_app (rd_sn rfl (rd_sn rfl (rd_sn rfl (rd_sn rfl (rd_app (rd_app (rd_app (rd_sn rfl (rd_sn rfl (rd_sn rfl (rd_sn rfl (rd_sn rfl (rd_sn rfl (rd_sn rfl (rd_sn rfl (rd_sn rfl H400))))))))))))))))))))))))))))))))))))) rfl rfl rfl ?_
  refine s_ildn (p' := 1) rfl rfl rfl ?_
  refine s_istn (p' := 2) (ls' := [_, _, _, _, _]) rfl rfl rfl rfl ?_
  refine s_aldn (p' := 3) rfl rfl rfl ?_
  refine s_gf (p' := 6) rfl (rd_sn rfl (rd_sn rfl (rd_sn rfl (rd_sn rfl (rd_app (rd_sn rfl (rd_sn rfl (rd_sn rfl (rd_sn rfl (rd_app (rd_sn rfl (rd_sn rfl (rd_sn rfl (rd_sn rfl (rd_app (rd_sn rfl (rd_sn rfl (rd_sn rfl (rd_sn rfl (rd_app (rd_sn rfl (rd_sn rfl (rd_sn rfl (rd_sn rfl (rd_app (rd_app (rd_app (rd_sn rfl (rd_sn rfl (rd_sn rfl (rd_sn rfl (rd_sn rfl (rd_sn rfl (rd_sn rfl (rd_sn rfl (rd_sn rfl H400)))))))))))))))))))))))))))))))))))) rfl rfl ?_
  refine c_call (p' := 11) (kc := 96) (ls0 := [_]) rfl rfl rfl rfl rfl (mj_rcv_is (rd_sn rfl (rd_sn rfl (rd_sn rfl (rd_sn rfl (rd_app (rd_sn rfl (rd_sn rfl (rd_sn rfl (rd_sn rfl (rd_app (rd_sn rfl (rd_sn rfl (rd_sn rfl (rd_sn rfl (rd_app (rd_sn rfl (rd_sn rfl (rd_sn rfl (rd_sn rfl (rd_app (rd_sn rfl (rd_sn rfl (rd_sn rfl (rd_sn rfl (rd_app (rd_app (rd_app (rd_sn rfl (rd_sn rfl (rd_sn rfl (rd_sn rfl (rd_sn rfl (rd_sn rfl (rd_sn rfl (rd_sn rfl (rd_sn rfl H410))))))))))))))))))))))))))))))))))))) rfl rfl rfl ?_
  refine s_newz (p' := 3) (a := 421) rfl (len_s (len_s (len_s (len_s (len_a (len_s (len_s (len_s (len_s (len_a (len_s (len_s (len_s (len_s (len_a (len_s (len_s (len_s (len_s (len_a (len_s (len_s (len_s (len_s (len_a (len_a (len_a (len_s (len_s (len_s (len_s (len_s (len_s (len_s (len_s (len_s HL))))))))) rfl) rfl) rfl))))) rfl))))) rfl))))) rfl))))) rfl))))) rfl rfl ?_
  refine s_dupr (p' := 4) rfl rfl ?_
  refine s_aldn (p' := 5) rfl rfl rfl ?_
  refine c_call (p' := 8) (kc := 95) (ls0 := [_, _]) rfl rfl rfl rfl rfl (mj_rcv_is (rd_nw rfl (len_s (len_s (len_s (len_s (len_a (len_s (len_s (len_s (len_s (len_a (len_s (len_s (len_s (len_s (len_a (len_s (len_s (len_s (len_s (len_a (len_s (len_s (len_s (len_s (len_a (len_a (len_a (len_s (len_s (len_s (len_s (len_s (len_s (len_s (len_s (len_s HL))))))))) rfl) rfl) rfl))))) rfl))))) rfl))))) rfl))))) rfl))))))) rfl rfl rfl ?_
  refine s_aldn (p' := 1) rfl rfl rfl ?_
  refine s_aldn (p' := 2) rfl rfl rfl ?_
  refine s_pfz (p' := 5) (fs' := [_, _, _, _]) rfl rfl (rd_nw rfl (len_s (len_s (len_s (len_s (len_a (len_s (len_s (len_s (len_s (len_a (len_s (len_s (len_s (len_s (len_a (len_s (len_s (len_s (len_s (len_a (len_s (len_s (len_s (len_s (len_a (len_a (len_a (len_s (len_s (len_s (len_s (len_s (len_s (len_s (len_s (len_s HL))))))))) rfl) rfl) rfl))))) rfl))))) rfl))))) rfl))))) rfl)))))) rfl rfl rfl rfl ?_
  refine s_aldn (p' := 6) rfl rfl rfl ?_
  refine s_primN (p' := 9) (q := 3) rfl rfl rfl rfl rfl rfl rfl rfl ?_
  refine s_aldn (p' := 10) rfl rfl rfl ?_
  refine s_con (p' := 11) rfl rfl ?_
  refine s_pfz (p' := 14) (fs' := [_, _, _, _]) rfl rfl (rd_ss rfl (rd_nw rfl (len_s (len_s (len_s (len_s (len_a (len_s (len_s (len_s (len_s (len_a (len_s (len_s (len_s (len_s (len_a (len_s (len_s (len_s (len_s (len_a (len_s (len_s (len_s (len_s (len_a (len_a (len_a (len_s (len_s (len_s (len_s (len_s (len_s (len_s (len_s (len_s HL))))))))) rfl) rfl) rfl))))) rfl))))) rfl))))) rfl))))) rfl))))))) rfl rfl rfl rfl ?_
  refine s_aldn (p' := 15) rfl rfl rfl ?_
  refine s_aldn (p' := 16) rfl rfl rfl ?_
  refine s_gf (p' := 19) rfl (rd_ss rfl (rd_ss rfl (rd_nw rfl (len_s (len_s (len_s (len_s (len_a (len_s (len_s (len_s (len_s (len_a (len_s (len_s (len_s (len_s (len_a (len_s (len_s (len_s (len_s (len_a (len_s (len_s (len_s (len_s (len_a (len_a (len_a (len_s (len_s (len_s (len_s (len_s (len_s (len_s (len_s (len_s HL))))))))) rfl) rfl) rfl))))) rfl))))) rfl))))) rfl))))) rfl)))))))) rfl rfl ?_
  refine s_gf (p' := 22) rfl (rd_sn rfl (rd_sn rfl (rd_app (rd_sn rfl (rd_sn rfl (rd_sn rfl (rd_sn rfl (rd_app (rd_sn rfl (rd_sn rfl (rd_sn rfl (rd_sn rfl (rd_app (rd_sn rfl (rd_sn rfl (rd_sn rfl (rd_sn rfl (rd_app (rd_sn rfl (rd_sn rfl (rd_sn rfl (rd_sn rfl (rd_app (rd_sn rfl (rd_sn rfl (rd_sn rfl (rd_sn rfl (rd_app (rd_app (rd_app (rd_sn rfl (rd_sn rfl (rd_sn rfl (rd_sn rfl (rd_sn rfl (rd_sn rfl (rd_sn rfl (rd_sn rfl (rd_sn rfl H410))))))))))))))))))))))))))))))))))))))) rfl rfl ?_
  refine s_pfz (p' := 25) (fs' := [_, _, _, _]) rfl rfl (rd_ss rfl (rd_ss rfl (rd_nw rfl (len_s (len_s (len_s (len_s (len_a (len_s (len_s (len_s (len_s (len_a (len_s (len_s (len_s (len_s (len_a (len_s (len_s (len_s (len_s (len_a (len_s (len_s (len_s (len_s (len_a (len_a (len_a (len_s (len_s (len_s (len_s (len_s (len_s (len_s (len_s (len_s HL))))))))) rfl) rfl) rfl))))) rfl))))) rfl))))) rfl))))) rfl)))))))) rfl rfl rfl rfl ?_
  refine c_ret rfl ?_
  refine c_aret rfl ?_
  refine s_astn (p' := 12) (ls' := [_, _, _, _, _]) rfl rfl rfl rfl ?_
  refine s_aldn (p' := 13) rfl rfl rfl ?_
  refine c_call (p' := 18) (kc := 96) (ls0 := [_]) rfl rfl rfl rfl rfl (mj_rcv_is (rd_ss rfl (rd_ss rfl (rd_ss rfl (rd_nw rfl (len_s (len_s (len_s (len_s (len_a (len_s (len_s (len_s (len_s (len_a (len_s (len_s (len_s (len_s (len_a (len_s (len_s (len_s (len_s (len_a (len_s (len_s (len_s (len_s (len_a (len_a (len_a (len_s (len_s (len_s (len_s (len_s (len_s (len_s (len_s (len_s HL))))))))) rfl) rfl) rfl))))) rfl))))) rfl))))) rfl))))) rfl)))))))))) rfl rfl rfl ?_
  refine s_aldn (p' := 1) rfl rfl rfl ?_
  refine s_gf (p' := 4) rfl (rd_ss rfl (rd_ss rfl (rd_ss rfl (rd_nw rfl (len_s (len_s (len_s (len_s (len_a (len_s (len_s (len_s (len_s (len_a (len_s (len_s (len_s (len_s (len_a (len_s (len_s (len_s (len_s (len_a (len_s (len_s (len_s (len_s (len_a (len_a (len_a (len_s (len_s (len_s (len_s (len_s (len_s (len_s (len_s (len_s HL))))))))) rfl) rfl) rfl))))) rfl))))) rfl))))) rfl))))) rfl))))))))) rfl rfl ?_
  refine s_aldn (p' := 5) rfl rfl rfl ?_
  refine s_gf (p' := 8) rfl (rd_ss rfl (rd_ss rfl (rd_ss rfl (rd_nw rfl (len_s (len_s (len_s (len_s (len_a (len_s (len_s (len_s (len_s (len_a (len_s (len_s (len_s (len_s (len_a (len_s (len_s (len_s (len_s (len_a (len_s (len_s (len_s (len_s (len_a (len_a (len_a (len_s (len_s (len_s (len_s (len_s (len_s (len_s (len_s (len_s HL))))))))) rfl) rfl) rfl))))) rfl))))) rfl))))) rfl))))) rfl))))))))) rfl rfl ?_
  refine s_gf (p' := 11) rfl (rd_sn rfl (rd_sn rfl (rd_sn rfl (rd_app (rd_sn rfl (rd_sn rfl (rd_sn rfl (rd_sn rfl (rd_app (rd_sn rfl (rd_sn rfl (rd_sn rfl (rd_sn rfl (rd_app (rd_sn rfl (rd_sn rfl (rd_sn rfl (rd_sn rfl (rd_app (rd_sn rfl (rd_sn rfl (rd_sn rfl (rd_sn rfl (rd_app (rd_sn rfl (rd_sn rfl (rd_sn rfl (rd_sn rfl (rd_app (rd_app (rd_app (rd_sn rfl (rd_sn rfl (rd_sn rfl (rd_sn rfl (rd_sn rfl (rd_sn rfl (rd_sn rfl (rd_sn rfl (rd_sn rfl H410)))))))))))))))))))))))))))))))))))))))) rfl rfl ?_
  refine s_icmp (p' := 18) true rfl (by decide +kernel) rfl ?_
  refine s_con (p' := 19) rfl rfl ?_
  refine c_iret rfl (by decide +kernel) ?_
  refine s_if (p' := 45) true rfl (by decide +kernel) rfl ?_
  refine s_ildn (p' := 46) rfl rfl rfl ?_
  refine c_iret rfl rfl ?_
  refine s_iasz (p' := 21) (m := 5) rfl rfl (rd_sn rfl (rd_sn rfl (rd_sn rfl (rd_app (rd_ss rfl (rd_sn rfl (rd_sn rfl (rd_sn rfl (rd_app (rd_ss rfl (rd_sn rfl (rd_sn rfl (rd_sn rfl (rd_app (rd_ss rfl (rd_sn rfl (rd_sn rfl (rd_sn rfl (rd_app (rd_ss rfl (rd_sn rfl (rd_sn rfl (rd_sn rfl (rd_app (rd_ss rfl (rd_sn rfl (rd_sn rfl (rd_sn rfl (rd_app (rd_nw rfl (len_a (len_s (len_s (len_s (len_s (len_s (len_s (len_s (len_s (len_s HL))))))))) rfl))))))))))))))))))))))))))))))) (by decide +kernel) rfl rfl rfl ?_
  refine s_incz (p' := 24) (w := (nI 6)) (ls' := [_, _, _, _, _, _, _, _]) rfl rfl rfl (by decide +kernel) rfl rfl ?_
  refine s_goto (p' := 7) rfl rfl ?_
  refine s_ildn (p' := 8) rfl rfl rfl ?_
  refine s_bip (p' := 10) rfl rfl ?_
  refine s_icmp (p' := 13) false rfl (by decide +kernel) rfl ?_
  refine s_aldn (p' := 14) rfl rfl rfl ?_
  refine s_ildn (p' := 15) rfl rfl rfl ?_
  refine s_aldn (p' := 16) rfl rfl rfl ?_
  refine s_ildn (p' := 17) rfl rfl rfl ?_
  refine c_call (p' := 20) (kc := 97) (ls0 := [_, _, _, _, _]) rfl rfl rfl rfl rfl (mj_rcv_is (rd_sn rfl (rd_sn rfl (rd_sn rfl (rd_sn rfl (rd_app (rd_sn rfl (rd_sn rfl (rd_sn rfl (rd_sn rfl (rd_app (rd_sn rfl (rd_sn rfl (rd_sn rfl (rd_sn rfl (rd_app (rd_sn rfl (rd_sn rfl (rd_sn rfl (rd_sn rfl (rd_app (rd_sn rfl (rd_sn rfl (rd_sn rfl (rd_sn rfl (rd_app (rd_sn rfl (rd_sn rfl (rd_sn rfl (rd_sn rfl (rd_app (rd_app (rd_app (rd_sn rfl (rd_sn rfl (rd_sn rfl (rd_sn rfl (rd_sn rfl (rd_sn rfl (rd_sn rfl (rd_sn rfl (rd_sn rfl H400)))))))))))))))))))))))))))))))))))))))))) rfl rfl rfl ?_
  refine s_ildn (p' := 1) rfl rfl rfl ?_
  refine s_istn (p' := 2) (ls' := [_, _, _, _, _]) rfl rfl rfl rfl ?_
  refine s_aldn (p' := 3) rfl rfl rfl ?_
  refine s_gf (p' := 6) rfl (rd_sn rfl (rd_sn rfl (rd_sn rfl (rd_sn rfl (rd_app (rd_sn rfl (rd_sn rfl (rd_sn rfl (rd_sn rfl (rd_app (rd_sn rfl (rd_sn rfl (rd_sn rfl (rd_sn rfl (rd_app (rd_sn rfl (rd_sn rfl (rd_sn rfl (rd_sn rfl (rd_app (rd_sn rfl (rd_sn rfl (rd_sn rfl (rd_sn rfl (rd_app (rd_sn rfl (rd_sn rfl (rd_sn rfl (rd_sn rfl (rd_app (rd_app (rd_app (rd_sn rfl (rd_sn rfl (rd_sn rfl (rd_sn rfl (rd_sn rfl (rd_sn rfl (rd_sn rfl (rd_sn rfl (rd_sn rfl H400))))))))))))))))))))))))))))))))))))))))) rfl rfl ?_
  refine c_call (p' := 11) (kc := 96) (ls0 := [_]) rfl rfl rfl rfl rfl (mj_rcv_is (rd_sn rfl (rd_sn rfl (rd_sn rfl (rd_sn rfl (rd_app (rd_sn rfl (rd_sn rfl (rd_sn rfl (rd_sn rfl (rd_app (rd_sn rfl (rd_sn rfl (rd_sn rfl (rd_sn rfl (rd_app (rd_sn rfl (rd_sn rfl (rd_sn rfl (rd_sn rfl (rd_app (rd_sn rfl (rd_sn rfl (rd_sn rfl (rd_sn rfl (rd_app (rd_sn rfl (rd_sn rfl (rd_sn rfl (rd_sn rfl (rd_app (rd_app (rd_app (rd_sn rfl (rd_sn rfl (rd_sn rfl (rd_sn rfl (rd_sn rfl (rd_sn rfl (rd_sn rfl (rd_sn rfl (rd_sn rfl H410)))))))))))))))))))))))))))))))))))))))))) rfl rfl rfl ?_
  refine s_newz (p' := 3) (a := 422) rfl (len_s (len_s (len_s (len_s (len_a (len_s (len_s (len_s (len_s (len_a (len_s (len_s (len_s (len_s (len_a (len_s (len_s (len_s (len_s (len_a (len_s (len_s (len_s (len_s (len_a (len_s (len_s (len_s (len_s (len_a (len_a (len_a (len_s (len_s (len_s (len_s (len_s (len_s (len_s (len_s (len_s HL))))))))) rfl) rfl) rfl))))) rfl))))) rfl))))) rfl))))) rfl))))) rfl))))) rfl rfl ?_
  refine s_dupr (p' := 4) rfl rfl ?_
  refine s_aldn (p' := 5) rfl rfl rfl ?_
  refine c_call (p' := 8) (kc := 95) (ls0 := [_, _]) rfl rfl rfl rfl rfl (mj_rcv_is (rd_nw rfl (len_s (len_s (len_s (len_s (len_a (len_s (len_s (len_s (len_s (len_a (len_s (len_s (len_s (len_s (len_a (len_s (len_s (len_s (len_s (len_a (len_s (len_s (len_s (len_s (len_a (len_s (len_s (len_s (len_s (len_a (len_a (len_a (len_s (len_s (len_s (len_s (len_s (len_s (len_s (len_s (len_s HL))))))))) rfl) rfl) rfl))))) rfl))))) rfl))))) rfl))))) rfl))))) rfl))))))) rfl rfl rfl ?_
  refine s_aldn (p' := 1) rfl rfl rfl ?_
  refine s_aldn (p' := 2) rfl rfl rfl ?_
  refine s_pfz (p' := 5) (fs' := [_, _, _, _]) rfl rfl (rd_nw rfl (len_s (len_s (len_s (len_s (len_a (len_s (len_s (len_s (len_s (len_a (len_s (len_s (len_s (len_s (len_a (len_s (len_s (len_s (len_s (len_a (len_s (len_s (len_s (len_s (len_a (len_s (len_s (len_s (len_s (len_a (len_a (len_a (len_s (len_s (len_s (len_s (len_s (len_s (len_s (len_s (len_s HL))))))))) rfl) rfl) rfl))))) rfl))))) rfl))))) rfl))))) rfl))))) rfl)))))) rfl rfl rfl rfl ?_
  refine s_aldn (p' := 6) rfl rfl rfl ?_
  refine s_primN (p' := 9) (q := 3) rfl rfl rfl rfl rfl rfl rfl rfl ?_
  refine s_aldn (p' := 10) rfl rfl rfl ?_
  refine s_con (p' := 11) rfl rfl ?_
  refine s_pfz (p' := 14) (fs' := [_, _, _, _]) rfl rfl (rd_ss rfl (rd_nw rfl (len_s (len_s (len_s (len_s (len_a (len_s (len_s (len_s (len_s (len_a (len_s (len_s (len_s (len_s (len_a (len_s (len_s (len_s (len_s (len_a (len_s (len_s (len_s (len_s (len_a (len_s (len_s (len_s (len_s (len_a (len_a (len_a (len_s (len_s (len_s (len_s (len_s (len_s (len_s (len_s (len_s HL))))))))) rfl) rfl) rfl))))) rfl))))) rfl))))) rfl))))) rfl))))) rfl))))))) rfl rfl rfl rfl ?_
  refine s_aldn (p' := 15) rfl rfl rfl ?_
  refine s_aldn (p' := 16) rfl rfl rfl ?_
  refine s_gf (p' := 19) rfl (rd_ss rfl (rd_ss rfl (rd_nw rfl (len_s (len_s (len_s (len_s (len_a (len_s (len_s (len_s (len_s (len_a (len_s (len_s (len_s (len_s (len_a (len_s (len_s (len_s (len_s (len_a (len_s (len_s (len_s (len_s (len_a (len_s (len_s (len_s (len_s (len_a (len_a (len_a (len_s (len_s (len_s (len_s (len_s (len_s (len_s (len_s (len_s HL))))))))) rfl) rfl) rfl))))) rfl))))) rfl))))) rfl))))) rfl))))) rfl)))))))) rfl rfl ?_
  refine s_gf (p' := 22) rfl (rd_sn rfl (rd_sn rfl (rd_app (rd_sn rfl (rd_sn rfl (rd_sn rfl (rd_sn rfl (rd_app (rd_sn rfl (rd_sn rfl (rd_sn rfl (rd_sn rfl (rd_app (rd_sn rfl (rd_sn rfl (rd_sn rfl (rd_sn rfl (rd_app (rd_sn rfl (rd_sn rfl (rd_sn rfl (rd_sn rfl (rd_app (rd_sn rfl (rd_sn rfl (rd_sn rfl (rd_sn rfl (rd_app (rd_sn rfl (rd_sn rfl (rd_sn rfl (rd_sn rfl (rd_app (rd_app (rd_app (rd_sn rfl (rd_sn rfl (rd_sn rfl (rd_sn rfl (rd_sn rfl (rd_sn rfl (rd_sn rfl (rd_sn rfl (rd_sn rfl H410)))))))))))))))))))))))))))))))))))))))))))) rfl rfl ?_
  refine s_pfz (p' := 25) (fs' := [_, _, _, _]) rfl rfl (rd_ss rfl (rd_ss rfl (rd_nw rfl (len_s (len_s (len_s (len_s (len_a (len_s (len_s (len_s (len_s (len_a (len_s (len_s (len_s (len_s (len_a (len_s (len_s (len_s (len_s (len_a (len_s (len_s (len_s (len_s (len_a (len_s (len_s (len_s (len_s (len_a (len_a (len_a (len_s (len_s (len_s (len_s (len_s (len_s (len_s (len_s (len_s HL))))))))) rfl) rfl) rfl))))) rfl))))) rfl))))) rfl))))) rfl))))) rfl)))))))) rfl rfl rfl rfl ?_
  refine c_ret rfl ?_
  refine c_aret rfl ?_
  refine s_astn (p' := 12) (ls' := [_, _, _, _, _]) rfl rfl rfl rfl ?_
  refine s_aldn (p' := 13) rfl rfl rfl ?_
  refine c_call (p' := 18) (kc := 96) (ls0 := [_]) rfl rfl rfl rfl rfl (mj_rcv_is (rd_ss rfl (rd_ss rfl (rd_ss rfl (rd_nw rfl (len_s (len_s (len_s (len_s (len_a (len_s (len_s (len_s (len_s (len_a (len_s (len_s (len_s (len_s (len_a (len_s (len_s (len_s (len_s (len_a (len_s (len_s (len_s (len_s (len_a (len_s (len_s (len_s (len_s (len_a (len_a (len_a (len_s (len_s (len_s (len_s (len_s (len_s (len_s (len_s (len_s HL))))))))) rfl) rfl) rfl))))) rfl))))) rfl))))) rfl))))) rfl))))) rfl)))))))))) rfl rfl rfl ?_
  refine s_aldn (p' := 1) rfl rfl rfl ?_
  refine s_gf (p' := 4) rfl (rd_ss rfl (rd_ss rfl (rd_ss rfl (rd_nw rfl (len_s (len_s (len_s (len_s (len_a (len_s (len_s (len_s (len_s (len_a (len_s (len_s (len_s (len_s (len_a (len_s (len_s (len_s (len_s (len_a (len_s (len_s (len_s (len_s (len_a (len_s (len_s (len_s (len_s (len_a (len_a (len_a (len_s (len_s (len_s (len_s (len_s (len_s (len_s (len_s (len_s HL))))))))) rfl) rfl) rfl))))) rfl))))) rfl))))) rfl))))) rfl))))) rfl))))))))) rfl rfl ?_
  refine s_aldn (p' := 5) rfl rfl rfl ?_
  refine s_gf (p' := 8) rfl (rd_ss rfl (rd_ss rfl (rd_ss rfl (rd_nw rfl (len_s (len_s (len_s (len_s (len_a (len_s (len_s (len_s (len_s (len_a (len_s (len_s (len_s (len_s (len_a (len_s (len_s (len_s (len_s (len_a (len_s (len_s (len_s (len_s (len_a (len_s (len_s (len_s (len_s (len_a (len_a (len_a (len_s (len_s (len_s (len_s (len_s (len_s (len_s (len_s (len_s HL))))))))) rfl) rfl) rfl))))) rfl))))) rfl))))) rfl))))) rfl))))) rfl))))))))) rfl rfl ?_
  refine s_gf (p' := 11) rfl (rd_sn rfl (rd_sn rfl (rd_sn rfl (rd_app (rd_sn rfl (rd_sn rfl (rd_sn rfl (rd_sn rfl (rd_app (rd_sn rfl (rd_sn rfl (rd_sn rfl (rd_sn rfl (rd_app (rd_sn rfl (rd_sn rfl (rd_sn rfl (rd_sn rfl (rd_app (rd_sn rfl (rd_sn rfl (rd_sn rfl (rd_sn rfl (rd_app (rd_sn rfl (rd_sn rfl (rd_sn rfl (rd_sn rfl (rd_app (rd_sn rfl (rd_sn rfl (rd_sn rfl (rd_sn rfl (rd_app (rd_app (rd_app (rd_sn rfl (rd_sn rfl (rd_sn rfl (rd_sn rfl (rd_sn rfl (rd_sn rfl (rd_sn rfl (rd_sn rfl (rd_sn rfl H410))))))))))))))))))))))))))))))))))))))))))))) rfl rfl ?_
  refine s_icmp (p' := 18) true rfl (by decide +kernel) rfl ?_
  refine s_con (p' := 19) rfl rfl ?_
  refine c_iret rfl (by decide +kernel) ?_
  refine s_if (p' := 45) true rfl (by decide +kernel) rfl ?_
  refine s_ildn (p' := 46) rfl rfl rfl ?_
  refine c_iret rfl rfl ?_
  refine s_iasz (p' := 21) (m := 6) rfl rfl (rd_sn rfl (rd_sn rfl (rd_sn rfl (rd_app (rd_ss rfl (rd_sn rfl (rd_sn rfl (rd_sn rfl (rd_app (rd_ss rfl (rd_sn rfl (rd_sn rfl (rd_sn rfl (rd_app (rd_ss rfl (rd_sn rfl (rd_sn rfl (rd_sn rfl (rd_app (rd_ss rfl (rd_sn rfl (rd_sn rfl (rd_sn rfl (rd_app (rd_ss rfl (rd_sn rfl (rd_sn rfl (rd_sn rfl (rd_app (rd_ss rfl (rd_sn rfl (rd_sn rfl (rd_sn rfl (rd_app (rd_nw rfl (len_a (len_s (len_s (len_s (len_s (len_s (len_s (len_s (len_s (len_s HL))))))))) rfl)))))))))))))))))))))))))))))))))))) (by decide +kernel) rfl rfl rfl ?_
  refine s_incz (p' := 24) (w := (nI 7)) (ls' := [_, _, _, _, _, _, _, _]) rfl rfl rfl (by decide +kernel) rfl rfl ?_
  refine s_goto (p' := 7) rfl rfl ?_
  refine s_ildn (p' := 8) rfl rfl rfl ?_
  refine s_bip (p' := 10) rfl rfl ?_
  refine s_icmp (p' := 13) false rfl (by decide +kernel) rfl ?_
  refine s_aldn (p' := 14) rfl rfl rfl ?_
  refine s_ildn (p' := 15) rfl rfl rfl ?_
  refine s_aldn (p' := 16) rfl rfl rfl ?_
  refine s_ildn (p' := 17) rfl rfl rfl ?_
  refine c_call (p' := 20) (kc := 97) (ls0 := [_, _, _, _, _]) rfl rfl rfl rfl rfl (mj_rcv_is (rd_sn rfl (rd_sn rfl (rd_sn rfl (rd_sn rfl (rd_app (rd_sn rfl (rd_sn rfl (rd_sn rfl (rd_sn rfl (rd_app (rd_sn rfl (rd_sn rfl (rd_sn rfl (rd_sn rfl (rd_app (rd_sn rfl (rd_sn rfl (rd_sn rfl (rd_sn rfl (rd_app (rd_sn rfl (rd_sn rfl (rd_sn rfl (rd_sn rfl (rd_app (rd_sn rfl (rd_sn rfl (rd_sn rfl (rd_sn rfl (rd_app (rd_sn rfl (rd_sn rfl (rd_sn rfl (rd_sn rfl (rd_app (rd_app (rd_app (rd_sn rfl (rd_sn rfl (rd_sn rfl (rd_sn rfl (rd_sn rfl (rd_sn rfl (rd_sn rfl (rd_sn rfl (rd_sn rfl H400))))))))))))))))))))))))))))))))))))))))))))))) rfl rfl rfl ?_
  refine s_ildn (p' := 1) rfl rfl rfl ?_
  refine s_istn (p' := 2) (ls' := [_, _, _, _, _]) rfl rfl rfl rfl ?_
  refine s_aldn (p' := 3) rfl rfl rfl ?_
  refine s_gf (p' := 6) rfl (rd_sn rfl (rd_sn rfl (rd_sn rfl (rd_sn rfl (rd_app (rd_sn rfl (rd_sn rfl (rd_sn rfl (rd_sn rfl (rd_app (rd_sn rfl (rd_sn rfl (rd_sn rfl (rd_sn rfl (rd_app (rd_sn rfl (rd_sn rfl (rd_sn rfl (rd_sn rfl (rd_app (rd_sn rfl (rd_sn rfl (rd_sn rfl (rd_sn rfl (rd_app (rd_sn rfl (rd_sn rfl (rd_sn rfl (rd_sn rfl (rd_app (rd_sn rfl (rd_sn rfl (rd_sn rfl (rd_sn rfl (rd_app (rd_app (rd_app (rd_sn rfl (rd_sn rfl (rd_sn rfl (rd_sn rfl (rd_sn rfl (rd_sn rfl (rd_sn rfl (rd_sn rfl (rd_sn rfl H400)))))))))))))))))))))))))))))))))))))))))))))) rfl rfl ?_
  refine c_call (p' := 11) (kc := 96) (ls0 := [_]) rfl rfl rfl rfl rfl (mj_rcv_is (rd_sn rfl (rd_sn rfl (rd_sn rfl (rd_sn rfl (rd_app (rd_sn rfl (rd_sn rfl (rd_sn rfl (rd_sn rfl (rd_app (rd_sn rfl (rd_sn rfl (rd_sn rfl (rd_sn rfl (rd_app (rd_sn rfl (rd_sn rfl (rd_sn rfl (rd_sn rfl (rd_app (rd_sn rfl (rd_sn rfl (rd_sn rfl (rd_sn rfl (rd_app (rd_sn rfl (rd_sn rfl (rd_sn rfl (rd_sn rfl (rd_app (rd_sn rfl (rd_sn rfl (rd_sn rfl (rd_sn rfl (rd_app (rd_app (rd_app (rd_sn rfl (rd_sn rfl (rd_sn rfl (rd_sn rfl (rd_sn rfl (rd_sn rfl (rd_sn rfl (rd_sn rfl (rd_sn rfl H410))))))))))))))))))))))))))))))))))))))))))))))) rfl rfl rfl ?_
  refine s_newz (p' := 3) (a := 423) rfl (len_s (len_s (len_s (len_s (len_a (len_s (len_s (len_s (len_s (len_a (len_s (len_s (len_s (len_s (len_a (len_s (len_s (len_s (len_s (len_a (len_s (len_s (len_s (len_s (len_a (len_s (len_s (len_s (len_s (len_a (len_s (len_s (len_s (len_s (len_a (len_a (len_a (len_s (len_s (len_s (len_s (len_s (len_s (len_s (len_s (len_s HL))))))))) rfl) rfl) rfl))))) rfl))))) rfl))))) rfl))))) rfl))))) rfl))))) rfl))))) rfl rfl ?_
  refine s_dupr (p' := 4) rfl rfl ?_
  refine s_aldn (p' := 5) rfl rfl rfl ?_
  refine c_call (p' := 8) (kc := 95) (ls0 := [_, _]) rfl rfl rfl rfl rfl (mj_rcv_is (rd_nw rfl (len_s (len_s (len_s (len_s (len_a (len_s (len_s (len_s (len_s (len_a (len_s (len_s (len_s (len_s (len_a (len_s (len_s (len_s (len_s (len_a (len_s (len_s (len_s (len_s (len_a (len_s (len_s (len_s (len_s (len_a (len_s (len_s (len_s (len_s (len_a (len_a (len_a (len_s (len_s (len_s (len_s (len_s (len_s (len_s (len_s (len_s HL))))))))) rfl) rfl) rfl))))) rfl))))) rfl))))) rfl))))) rfl))))) rfl))))) rfl))))))) rfl rfl rfl ?_
  refine s_aldn (p' := 1) rfl rfl rfl ?_
  refine s_aldn (p' := 2) rfl rfl rfl ?_
  refine s_pfz (p' := 5) (fs' := [_, _, _, _]) rfl rfl (rd_nw rfl (len_s (len_s (len_s (len_s (len_a (len_s (len_s (len_s (len_s (len_a (len_s (len_s (len_s (len_s (len_a (len_s (len_s (len_s (len_s (len_a (len_s (len_s (len_s (len_s (len_a (len_s (len_s (len_s (len_s (len_a (len_s (len_s (len_s (len_s (len_a (len_a (len_a (len_s (len_s (len_s (len_s (len_s (len_s (len_s (len_s (len_s HL))))))))) rfl) rfl) rfl))))) rfl))))) rfl))))) rfl))))) rfl))))) rfl))))) rfl)))))) rfl rfl rfl rfl ?_
  refine s_aldn (p' := 6) rfl rfl rfl ?_
  refine s_primN (p' := 9) (q := 3) rfl rfl rfl rfl rfl rfl rfl rfl ?_
  refine s_aldn (p' := 10) rfl rfl rfl ?_
  refine s_con (p' := 11) rfl rfl ?_
  refine s_pfz (p' := 14) (fs' := [_, _, _, _]) rfl rfl (rd_ss rfl (rd_nw rfl (len_s (len_s (len_s (len_s (len_a (len_s (len_s (len_s (len_s (len_a (len_s (len_s (len_s (len_s (len_a (len_s (len_s (len_s (len_s (len_a (len_s (len_s (len_s (len_s (len_a (len_s (len_s (len_s (len_s (len_a (len_s (len_s (len_s (len_s (len_a (len_a (len_a (len_s (len_s (len_s (len_s (len_s (len_s (len_s (len_s (len_s HL))))))))) rfl) rfl) rfl))))) rfl))))) rfl))))) rfl))))) rfl))))) rfl))))) rfl))))))) rfl rfl rfl rfl ?_
  refine s_aldn (p' := 15) rfl rfl rfl ?_
  refine s_aldn (p' := 16) rfl rfl rfl ?_
  refine s_gf (p' := 19) rfl (rd_ss rfl (rd_ss rfl (rd_nw rfl (len_s (len_s (len_s (len_s (len_a (len_s (len_s (len_s (len_s (len_a (len_s (len_s (len_s (len_s (len_a (len_s (len_s (len_s (len_s (len_a (len_s (len_s (len_s (len_s (len_a (len_s (len_s (len_s (len_s (len_a (len_s (len_s (len_s (len_s (len_a (len_a (len_a (len_s (len_s (len_s (len_s (len_s (len_s (len_s (len_s (len_s HL))))))))) rfl) rfl) rfl))))) rfl))))) rfl))))) rfl))))) rfl))))) rfl))))) rfl)))))))) rfl rfl ?_
  refine s_gf (p' := 22) rfl (rd_sn rfl (rd_sn rfl (rd_app (rd_sn rfl (rd_sn rfl (rd_sn rfl (rd_sn rfl (rd_app (rd_sn rfl (rd_sn rfl (rd_sn rfl (rd_sn rfl (rd_app (rd_sn rfl (rd_sn rfl (rd_sn rfl (rd_sn rfl (rd_app (rd_sn rfl (rd_sn rfl (rd_sn rfl (rd_sn rfl (rd_app (rd_sn rfl (rd_sn rfl (rd_sn rfl (rd_sn rfl (rd_app (rd_sn rfl (rd_sn rfl (rd_sn rfl (rd_sn rfl (rd_app (rd_sn rfl (rd_sn rfl (rd_sn rfl (rd_sn rfl (rd_app (rd_app (rd_app (rd_sn rfl (rd_sn rfl (rd_sn rfl (rd_sn rfl (rd_sn rfl (rd_sn rfl (rd_sn rfl (rd_sn rfl (rd_sn rfl H410))))))))))))))))))))))))))))))))))))))))))))))))) rfl rfl ?_
  refine s_pfz (p' := 25) (fs' := [_, _, _, _]) rfl rfl (rd_ss rfl (rd_ss rfl (rd_nw rfl (len_s (len_s (len_s (len_s (len_a (len_s (len_s (len_s (len_s (len_a (len_s (len_s (len_s (len_s (len_a (len_s (len_s (len_s (len_s (len_a (len_s (len_s (len_s (len_s (len_a (len_s (len_s (len_s (len_s (len_a (len_s (len_s (len_s (len_s (len_a (len_a (len_a (len_s (len_s (len_s (len_s (len_s (len_s (len_s (len_s (len_s HL))))))))) rfl) rfl) rfl))))) rfl))))) rfl))))) rfl))))) rfl))))) rfl))))) rfl)))))))) rfl rfl rfl rfl ?_
  refine c_ret rfl ?_
  refine c_aret rfl ?_
  refine s_astn (p' := 12) (ls' := [_, _, _, _, _]) rfl rfl rfl rfl ?_
  refine s_aldn (p' := 13) rfl rfl rfl ?_
  refine c_call (p' := 18) (kc := 96) (ls0 := [_]) rfl rfl rfl rfl rfl (mj_rcv_is (rd_ss rfl (rd_ss rfl (rd_ss rfl (rd_nw rfl (len_s (len_s (len_s (len_s (len_a (len_s (len_s (len_s (len_s (len_a (len_s (len_s (len_s (len_s (len_a (len_s (len_s (len_s (len_s (len_a (len_s (len_s (len_s (len_s (len_a (len_s (len_s (len_s (len_s (len_a (len_s (len_s (len_s (len_s (len_a (len_a (len_a (len_s (len_s (len_s (len_s (len_s (len_s (len_s (len_s (len_s HL))))))))) rfl) rfl) rfl))))) rfl))))) rfl))))) rfl))))) rfl))))) rfl))))) rfl)))))))))) rfl rfl rfl ?_
  refine s_aldn (p' := 1) rfl rfl rfl ?_
  refine s_gf (p' := 4) rfl (rd_ss rfl (rd_ss rfl (rd_ss rfl (rd_nw rfl (len_s (len_s (len_s (len_s (len_a (len_s (len_s (len_s (len_s (len_a (len_s (len_s (len_s (len_s (len_a (len_s (len_s (len_s (len_s (len_a (len_s (len_s (len_s (len_s (len_a (len_s (len_s (len_s (len_s (len_a (len_s (len_s (len_s (len_s (len_a (len_a (len_a (len_s (len_s (len_s (len_s (len_s (len_s (len_s (len_s (len_s HL))))))))) rfl) rfl) rfl))))) rfl))))) rfl))))) rfl))))) rfl))))) rfl))))) rfl))))))))) rfl rfl ?_
  refine s_aldn (p' := 5) rfl rfl rfl ?_
  refine s_gf (p' := 8) rfl (rd_ss rfl (rd_ss rfl (rd_ss rfl (rd_nw rfl (len_s (len_s (len_s (len_s (len_a (len_s (len_s (len_s (len_s (len_a (len_s (len_s (len_s (len_s (len_a (len_s (len_s (len_s (len_s (len_a (len_s (len_s (len_s (len_s (len_a (len_s (len_s (len_s (len_s (len_a (len_s (len_s (len_s (len_s (len_a (len_a (len_a (len_s (len_s (len_s (len_s (len_s (len_s (len_s (len_s (len_s HL))))))))) rfl) rfl) rfl))))) rfl))))) rfl))))) rfl))))) rfl))))) rfl))))) rfl))))))))) rfl rfl ?_
  refine s_gf (p' := 11) rfl (rd_sn rfl (rd_sn rfl (rd_sn rfl (rd_app (rd_sn rfl (rd_sn rfl (rd_sn rfl (rd_sn rfl (rd_app (rd_sn rfl (rd_sn rfl (rd_sn rfl (rd_sn rfl (rd_app (rd_sn rfl (rd_sn rfl (rd_sn rfl (rd_sn rfl (rd_app (rd_sn rfl (rd_sn rfl (rd_sn rfl (rd_sn rfl (rd_app (rd_sn rfl (rd_sn rfl (rd_sn rfl (rd_sn rfl (rd_app (rd_sn rfl (rd_sn rfl (rd_sn rfl (rd_sn rfl (rd_app (rd_sn rfl (rd_sn rfl (rd_sn rfl (rd_sn rfl (rd_app (rd_app (rd_app (rd_sn rfl (rd_sn rfl (rd_sn rfl (rd_sn rfl (rd_sn rfl (rd_sn rfl (rd_sn rfl (rd_sn rfl (rd_sn rfl H410)))))))))))))))))))))))))))))))))))))))))))))))))) rfl rfl ?_
  refine s_icmp (p' := 18) true rfl (by decide +kernel) rfl ?_
  refine s_con (p' := 19) rfl rfl ?_
  refine c_iret rfl (by decide +kernel) ?_
  refine s_if (p' := 45) true rfl (by decide +kernel) rfl ?_
  refine s_ildn (p' := 46) rfl rfl rfl ?_
  refine c_iret rfl rfl ?_
  refine s_iasz (p' := 21) (m := 7) rfl rfl (rd_sn rfl (rd_sn rfl (rd_sn rfl (rd_app (rd_ss rfl (rd_sn rfl (rd_sn rfl (rd_sn rfl (rd_app (rd_ss rfl (rd_sn rfl (rd_sn rfl (rd_sn rfl (rd_app (rd_ss rfl (rd_sn rfl (rd_sn rfl (rd_sn rfl (rd_app (rd_ss rfl (rd_sn rfl (rd_sn rfl (rd_sn rfl (rd_app (rd_ss rfl (rd_sn rfl (rd_sn rfl (rd_sn rfl (rd_app (rd_ss rfl (rd_sn rfl (rd_sn rfl (rd_sn rfl (rd_app (rd_ss rfl (rd_sn rfl (rd_sn rfl (rd_sn rfl (rd_app (rd_nw rfl (len_a (len_s (len_s (len_s (len_s (len_s (len_s (len_s (len_s (len_s HL))))))))) rfl))))))))))))))))))))))))))))))))))))))))) (by decide +kernel) rfl rfl rfl ?_
  refine s_incz (p' := 24) (w := (nI 8)) (ls' := [_, _, _, _, _, _, _, _]) rfl rfl rfl (by decide +kernel) rfl rfl ?_
  refine s_goto (p' := 7) rfl rfl ?_
  refine s_ildn (p' := 8) rfl rfl rfl ?_
  refine s_bip (p' := 10) rfl rfl ?_
  refine s_icmp (p' := 27) true rfl (by decide +kernel) rfl ?_
  refine s_newz (p' := 30) (a := 424) rfl (len_s (len_s (len_s (len_s (len_a (len_s (len_s (len_s (len_s (len_a (len_s (len_s (len_s (len_s (len_a (len_s (len_s (len_s (len_s (len_a (len_s (len_s (len_s (len_s (len_a (len_s (len_s (len_s (len_s (len_a (len_s (len_s (len_s (len_s (len_a (len_s (len_s (len_s (len_s (len_a (len_a (len_a (len_s (len_s (len_s (len_s (len_s (len_s (len_s (len_s (len_s HL))))))))) rfl) rfl) rfl))))) rfl))))) rfl))))) rfl))))) rfl))))) rfl))))) rfl))))) rfl))))) rfl rfl ?_
  refine s_dupr (p' := 31) rfl rfl ?_
  refine c_call (p' := 34) (kc := 97) (ls0 := [_]) rfl rfl rfl rfl rfl (mj_rcv_is (rd_nw rfl (len_s (len_s (len_s (len_s (len_a (len_s (len_s (len_s (len_s (len_a (len_s (len_s (len_s (len_s (len_a (len_s (len_s (len_s (len_s (len_a (len_s (len_s (len_s (len_s (len_a (len_s (len_s (len_s (len_s (len_a (len_s (len_s (len_s (len_s (len_a (len_s (len_s (len_s (len_s (len_a (len_a (len_a (len_s (len_s (len_s (len_s (len_s (len_s (len_s (len_s (len_s HL))))))))) rfl) rfl) rfl))))) rfl))))) rfl))))) rfl))))) rfl))))) rfl))))) rfl))))) rfl))))))) rfl rfl rfl ?_
  refine s_aldn (p' := 1) rfl rfl rfl ?_
  refine c_call (p' := 4) (kc := 96) (ls0 := [_]) rfl rfl rfl rfl rfl (mj_rcv_is (rd_nw rfl (len_s (len_s (len_s (len_s (len_a (len_s (len_s (len_s (len_s (len_a (len_s (len_s (len_s (len_s (len_a (len_s (len_s (len_s (len_s (len_a (len_s (len_s (len_s (len_s (len_a (len_s (len_s (len_s (len_s (len_a (len_s (len_s (len_s (len_s (len_a (len_s (len_s (len_s (len_s (len_a (len_a (len_a (len_s (len_s (len_s (len_s (len_s (len_s (len_s (len_s (len_s HL))))))))) rfl) rfl) rfl))))) rfl))))) rfl))))) rfl))))) rfl))))) rfl))))) rfl))))) rfl))))))) rfl rfl rfl ?_
  refine s_aldn (p' := 1) rfl rfl rfl ?_
  refine c_call (p' := 4) (kc := 95) (ls0 := [_]) rfl rfl rfl rfl rfl (mj_rcv_is (rd_nw rfl (len_s (len_s (len_s (len_s (len_a (len_s (len_s (len_s (len_s (len_a (len_s (len_s (len_s (len_s (len_a (len_s (len_s (len_s (len_s (len_a (len_s (len_s (len_s (len_s (len_a (len_s (len_s (len_s (len_s (len_a (len_s (len_s (len_s (len_s (len_a (len_s (len_s (len_s (len_s (len_a (len_a (len_a (len_s (len_s (len_s (len_s (len_s (len_s (len_s (len_s (len_s HL))))))))) rfl) rfl) rfl))))) rfl))))) rfl))))) rfl))))) rfl))))) rfl))))) rfl))))) rfl))))))) rfl rfl rfl ?_
  refine s_aldn (p' := 1) rfl rfl rfl ?_
  refine s_primN (p' := 4) (q := 3) rfl rfl rfl rfl rfl rfl rfl rfl ?_
  refine c_ret rfl ?_
  refine s_aldn (p' := 5) rfl rfl rfl ?_
  refine s_con (p' := 6) rfl rfl ?_
  refine s_pfz (p' := 9) (fs' := [_, _, _]) rfl rfl (rd_nw rfl (len_s (len_s (len_s (len_s (len_a (len_s (len_s (len_s (len_s (len_a (len_s (len_s (len_s (len_s (len_a (len_s (len_s (len_s (len_s (len_a (len_s (len_s (len_s (len_s (len_a (len_s (len_s (len_s (len_s (len_a (len_s (len_s (len_s (len_s (len_a (len_s (len_s (len_s (len_s (len_a (len_a (len_a (len_s (len_s (len_s (len_s (len_s (len_s (len_s (len_s (len_s HL))))))))) rfl) rfl) rfl))))) rfl))))) rfl))))) rfl))))) rfl))))) rfl))))) rfl))))) rfl)))))) rfl rfl rfl rfl ?_
  refine c_ret rfl ?_
  refine s_aldn (p' := 5) rfl rfl rfl ?_
  refine s_sh (p' := 8) (ls' := _) (st' := .ref 1000000 :: _) (h' := _) rfl rfl rfl rfl ?_
  refine s_pfz (p' := 11) (fs' := [_, _, _]) rfl rfl (rd_ss rfl (rd_nw rfl (len_s (len_s (len_s (len_s (len_a (len_s (len_s (len_s (len_s (len_a (len_s (len_s (len_s (len_s (len_a (len_s (len_s (len_s (len_s (len_a (len_s (len_s (len_s (len_s (len_a (len_s (len_s (len_s (len_s (len_a (len_s (len_s (len_s (len_s (len_a (len_s (len_s (len_s (len_s (len_a (len_a (len_a (len_s (len_s (len_s (len_s (len_s (len_s (len_s (len_s (len_s HL))))))))) rfl) rfl) rfl))))) rfl))))) rfl))))) rfl))))) rfl))))) rfl))))) rfl))))) rfl))))))) rfl rfl rfl rfl ?_
  refine c_ret rfl ?_
  refine s_astn (p' := 35) (ls' := [_, _, _, _, _, _, _, _]) rfl rfl rfl rfl ?_
  refine s_con (p' := 36) rfl rfl ?_
  refine s_istn (p' := 37) (ls' := [_, _, _, _, _, _, _, _]) rfl rfl rfl rfl ?_
  refine s_ildn (p' := 38) rfl rfl rfl ?_
  refine s_bip (p' := 40) rfl rfl ?_
  refine s_icmp (p' := 43) false rfl (by decide +kernel) rfl ?_
  refine s_aldn (p' := 44) rfl rfl rfl ?_
  refine s_ildn (p' := 45) rfl rfl rfl ?_
  refine s_ialz (p' := 46) (m := 0) (v := (nI 0)) rfl (rd_sn rfl (rd_sn rfl (rd_app (rd_ss rfl (rd_sn rfl (rd_sn rfl (rd_sn rfl (rd_app (rd_ss rfl (rd_sn rfl (rd_sn rfl (rd_sn rfl (rd_app (rd_ss rfl (rd_sn rfl (rd_sn rfl (rd_sn rfl (rd_app (rd_ss rfl (rd_sn rfl (rd_sn rfl (rd_sn rfl (rd_app (rd_ss rfl (rd_sn rfl (rd_sn rfl (rd_sn rfl (rd_app (rd_ss rfl (rd_sn rfl (rd_sn rfl (rd_sn rfl (rd_app (rd_ss rfl (rd_sn rfl (rd_sn rfl (rd_sn rfl (rd_app (rd_ss rfl (rd_sn rfl (rd_sn rfl (rd_sn rfl (rd_app (rd_nw rfl (len_a (len_s (len_s (len_s (len_s (len_s (len_s (len_s (len_s (len_s HL))))))))) rfl))))))))))))))))))))))))))))))))))))))))))))) (by decide +kernel) rfl (by decide +kernel) rfl ?_
  refine s_ildn (p' := 47) rfl rfl rfl ?_
  refine s_icmp (p' := 145) true rfl (by decide +kernel) rfl ?_
  refine s_incz (p' := 148) (w := (nI 1)) (ls' := [_, _, _, _, _, _, _, _]) rfl rfl rfl (by decide +kernel) rfl rfl ?_
  refine s_goto (p' := 37) rfl rfl ?_
  refine s_ildn (p' := 38) rfl rfl rfl ?_
  refine s_bip (p' := 40) rfl rfl ?_
  refine s_icmp (p' := 43) false rfl (by decide +kernel) rfl ?_
  refine s_aldn (p' := 44) rfl rfl rfl ?_
  refine s_ildn (p' := 45) rfl rfl rfl ?_
  refine s_ialz (p' := 46) (m := 1) (v := (nI 1)) rfl (rd_sn rfl (rd_sn rfl (rd_app (rd_ss rfl (rd_sn rfl (rd_sn rfl (rd_sn rfl (rd_app (rd_ss rfl (rd_sn rfl (rd_sn rfl (rd_sn rfl (rd_app (rd_ss rfl (rd_sn rfl (rd_sn rfl (rd_sn rfl (rd_app (rd_ss rfl (rd_sn rfl (rd_sn rfl (rd_sn rfl (rd_app (rd_ss rfl (rd_sn rfl (rd_sn rfl (rd_sn rfl (rd_app (rd_ss rfl (rd_sn rfl (rd_sn rfl (rd_sn rfl (rd_app (rd_ss rfl (rd_sn rfl (rd_sn rfl (rd_sn rfl (rd_app (rd_ss rfl (rd_sn rfl (rd_sn rfl (rd_sn rfl (rd_app (rd_nw rfl (len_a (len_s (len_s (len_s (len_s (len_s (len_s (len_s (len_s (len_s HL))))))))) rfl))))))))))))))))))))))))))))))))))))))))))))) (by decide +kernel) rfl (by decide +kernel) rfl ?_
  refine s_ildn (p' := 47) rfl rfl rfl ?_
  refine s_icmp (p' := 145) true rfl (by decide +kernel) rfl ?_
  refine s_incz (p' := 148) (w := (nI 2)) (ls' := [_, _, _, _, _, _, _, _]) rfl rfl rfl (by decide +kernel) rfl rfl ?_
  refine s_goto (p' := 37) rfl rfl ?_
  refine s_ildn (p' := 38) rfl rfl rfl ?_
  refine s_bip (p' := 40) rfl rfl ?_
  refine s_icmp (p' := 43) false rfl (by decide +kernel) rfl ?_
  refine s_aldn (p' := 44) rfl rfl rfl ?_
  refine s_ildn (p' := 45) rfl rfl rfl ?_
  refine s_ialz (p' := 46) (m := 2) (v := (nI 2)) rfl (rd_sn rfl (rd_sn rfl (rd_app (rd_ss rfl (rd_sn rfl (rd_sn rfl (rd_sn rfl (rd_app (rd_ss rfl (rd_sn rfl (rd_sn rfl (rd_sn rfl (rd_app (rd_ss rfl (rd_sn rfl (rd_sn rfl (rd_sn rfl (rd_app (rd_ss rfl (rd_sn rfl (rd_sn rfl (rd_sn rfl (rd_app (rd_ss rfl (rd_sn rfl (rd_sn rfl (rd_sn rfl (rd_app (rd_ss rfl (rd_sn rfl (rd_sn rfl (rd_sn rfl (rd_app (rd_ss rfl (rd_sn rfl (rd_sn rfl (rd_sn rfl (rd_app (rd_ss rfl (rd_sn rfl (rd_sn rfl (rd_sn rfl (rd_app (rd_nw rfl (len_a (len_s (len_s (len_s (len_s (len_s (len_s (len_s (len_s (len_s HL))))))))) rfl))))))))))))))))))))))))))))))))))))))))))))) (by decide +kernel) rfl (by decide +kernel) rfl ?_
  refine s_ildn (p' := 47) rfl rfl rfl ?_
  refine s_icmp (p' := 145) true rfl (by decide +kernel) rfl ?_
  refine s_incz (p' := 148) (w := (nI 3)) (ls' := [_, _, _, _, _, _, _, _]) rfl rfl rfl (by decide +kernel) rfl rfl ?_
  refine s_goto (p' := 37) rfl rfl ?_
  refine s_ildn (p' := 38) rfl rfl rfl ?_
  refine s_bip (p' := 40) rfl rfl ?_
  refine s_icmp (p' := 43) false rfl (by decide +kernel) rfl ?_
  refine s_aldn (p' := 44) rfl rfl rfl ?_
  refine s_ildn (p' := 45) rfl rfl rfl ?_
  refine s_ialz (p' := 46) (m := 3) (v := (nI 3)) rfl (rd_sn rfl (rd_sn rfl (rd_app (rd_ss rfl (rd_sn rfl (rd_sn rfl (rd_sn rfl (rd_app (rd_ss rfl (rd_sn rfl (rd_sn rfl (rd_sn rfl (rd_app (rd_ss rfl (rd_sn rfl (rd_sn rfl (rd_sn rfl (rd_app (rd_ss rfl (rd_sn rfl (rd_sn rfl (rd_sn rfl (rd_app (rd_ss rfl (rd_sn rfl (rd_sn rfl (rd_sn rfl (rd_app (rd_ss rfl (rd_sn rfl (rd_sn rfl (rd_sn rfl (rd_app (rd_ss rfl (rd_sn rfl (rd_sn rfl (rd_sn rfl (rd_app (rd_ss rfl (rd_sn rfl (rd_sn rfl (rd_sn rfl (rd_app (rd_nw rfl (len_a (len_s (len_s (len_s (len_s (len_s (len_s (len_s (len_s (len_s HL))))))))) rfl))))))))))))))))))))))))))))))))))))))))))))) (by decide +kernel) rfl (by decide +kernel) rfl ?_
  refine s_ildn (p' := 47) rfl rfl rfl ?_
  refine s_icmp (p' := 145) true rfl (by decide +kernel) rfl ?_
  refine s_incz (p' := 148) (w := (nI 4)) (ls' := [_, _, _, _, _, _, _, _]) rfl rfl rfl (by decide +kernel) rfl rfl ?_
  refine s_goto (p' := 37) rfl rfl ?_
  refine s_ildn (p' := 38) rfl rfl rfl ?_
  refine s_bip (p' := 40) rfl rfl ?_
  refine s_icmp (p' := 43) false rfl (by decide +kernel) rfl ?_
  refine s_aldn (p' := 44) rfl rfl rfl ?_
  refine s_ildn (p' := 45) rfl rfl rfl ?_
  refine s_ialz (p' := 46) (m := 4) (v := (nI 4)) rfl (rd_sn rfl (rd_sn rfl (rd_app (rd_ss rfl (rd_sn rfl (rd_sn rfl (rd_sn rfl (rd_app (rd_ss rfl (rd_sn rfl (rd_sn rfl (rd_sn rfl (rd_app (rd_ss rfl (rd_sn rfl (rd_sn rfl (rd_sn rfl (rd_app (rd_ss rfl (rd_sn rfl (rd_sn rfl (rd_sn rfl (rd_app (rd_ss rfl (rd_sn rfl (rd_sn rfl (rd_sn rfl (rd_app (rd_ss rfl (rd_sn rfl (rd_sn rfl (rd_sn rfl (rd_app (rd_ss rfl (rd_sn rfl (rd_sn rfl (rd_sn rfl (rd_app (rd_ss rfl (rd_sn rfl (rd_sn rfl (rd_sn rfl (rd_app (rd_nw rfl (len_a (len_s (len_s (len_s (len_s (len_s (len_s (len_s (len_s (len_s HL))))))))) rfl))))))))))))))))))))))))))))))))))))))))))))) (by decide +kernel) rfl (by decide +kernel) rfl ?_
  refine s_ildn (p' := 47) rfl rfl rfl ?_
  refine s_icmp (p' := 145) true rfl (by decide +kernel) rfl ?_
  refine s_incz (p' := 148) (w := (nI 5)) (ls' := [_, _, _, _, _, _, _, _]) rfl rfl rfl (by decide +kernel) rfl rfl ?_
  refine s_goto (p' := 37) rfl rfl ?_
  refine s_ildn (p' := 38) rfl rfl rfl ?_
  refine s_bip (p' := 40) rfl rfl ?_
  refine s_icmp (p' := 43) false rfl (by decide +kernel) rfl ?_
  refine s_aldn (p' := 44) rfl rfl rfl ?_
  refine s_ildn (p' := 45) rfl rfl rfl ?_
  refine s_ialz (p' := 46) (m := 5) (v := (nI 5)) rfl (rd_sn rfl (rd_sn rfl (rd_app (rd_ss rfl (rd_sn rfl (rd_sn rfl (rd_sn rfl (rd_app (rd_ss rfl (rd_sn rfl (rd_sn rfl (rd_sn rfl (rd_app (rd_ss rfl (rd_sn rfl (rd_sn rfl (rd_sn rfl (rd_app (rd_ss rfl (rd_sn rfl (rd_sn rfl (rd_sn rfl (rd_app (rd_ss rfl (rd_sn rfl (rd_sn rfl (rd_sn rfl (rd_app (rd_ss rfl (rd_sn rfl (rd_sn rfl (rd_sn rfl (rd_app (rd_ss rfl (rd_sn rfl (rd_sn rfl (rd_sn rfl (rd_app (rd_ss rfl (rd_sn rfl (rd_sn rfl (rd_sn rfl (rd_app (rd_nw rfl (len_a (len_s (len_s (len_s (len_s (len_s (len_s (len_s (len_s (len_s HL))))))))) rfl))))))))))))))))))))))))))))))))))))))))))))) (by decide +kernel) rfl (by decide +kernel) rfl ?_
  refine s_ildn (p' := 47) rfl rfl rfl ?_
  refine s_icmp (p' := 145) true rfl (by decide +kernel) rfl ?_
  refine s_incz (p' := 148) (w := (nI 6)) (ls' := [_, _, _, _, _, _, _, _]) rfl rfl rfl (by decide +kernel) rfl rfl ?_
  refine s_goto (p' := 37) rfl rfl ?_
  refine s_ildn (p' := 38) rfl rfl rfl ?_
  refine s_bip (p' := 40) rfl rfl ?_
  refine s_icmp (p' := 43) false rfl (by decide +kernel) rfl ?_
  refine s_aldn (p' := 44) rfl rfl rfl ?_
  refine s_ildn (p' := 45) rfl rfl rfl ?_
  refine s_ialz (p' := 46) (m := 6) (v := (nI 6)) rfl (rd_sn rfl (rd_sn rfl (rd_app (rd_ss rfl (rd_sn rfl (rd_sn rfl (rd_sn rfl (rd_app (rd_ss rfl (rd_sn rfl (rd_sn rfl (rd_sn rfl (rd_app (rd_ss rfl (rd_sn rfl (rd_sn rfl (rd_sn rfl (rd_app (rd_ss rfl (rd_sn rfl (rd_sn rfl (rd_sn rfl (rd_app (rd_ss rfl (rd_sn rfl (rd_sn rfl (rd_sn rfl (rd_app (rd_ss rfl (rd_sn rfl (rd_sn rfl (rd_sn rfl (rd_app (rd_ss rfl (rd_sn rfl (rd_sn rfl (rd_sn rfl (rd_app (rd_ss rfl (rd_sn rfl (rd_sn rfl (rd_sn rfl (rd_app (rd_nw rfl (len_a (len_s (len_s (len_s (len_s (len_s (len_s (len_s (len_s (len_s HL))))))))) rfl))))))))))))))))))))))))))))))))))))))))))))) (by decide +kernel) rfl (by decide +kernel) rfl ?_
  refine s_ildn (p' := 47) rfl rfl rfl ?_
  refine s_icmp (p' := 145) true rfl (by decide +kernel) rfl ?_
  refine s_incz (p' := 148) (w := (nI 7)) (ls' := [_, _, _, _, _, _, _, _]) rfl rfl rfl (by decide +kernel) rfl rfl ?_
  refine s_goto (p' := 37) rfl rfl ?_
  refine s_ildn (p' := 38) rfl rfl rfl ?_
  refine s_bip (p' := 40) rfl rfl ?_
  refine s_icmp (p' := 43) false rfl (by decide +kernel) rfl ?_
  refine s_aldn (p' := 44) rfl rfl rfl ?_
  refine s_ildn (p' := 45) rfl rfl rfl ?_
  refine s_ialz (p' := 46) (m := 7) (v := (nI 7)) rfl (rd_sn rfl (rd_sn rfl (rd_app (rd_ss rfl (rd_sn rfl (rd_sn rfl (rd_sn rfl (rd_app (rd_ss rfl (rd_sn rfl (rd_sn rfl (rd_sn rfl (rd_app (rd_ss rfl (rd_sn rfl (rd_sn rfl (rd_sn rfl (rd_app (rd_ss rfl (rd_sn rfl (rd_sn rfl (rd_sn rfl (rd_app (rd_ss rfl (rd_sn rfl (rd_sn rfl (rd_sn rfl (rd_app (rd_ss rfl (rd_sn rfl (rd_sn rfl (rd_sn rfl (rd_app (rd_ss rfl (rd_sn rfl (rd_sn rfl (rd_sn rfl (rd_app (rd_ss rfl (rd_sn rfl (rd_sn rfl (rd_sn rfl (rd_app (rd_nw rfl (len_a (len_s (len_s (len_s (len_s (len_s (len_s (len_s (len_s (len_s HL))))))))) rfl))))))))))))))))))))))))))))))))))))))))))))) (by decide +kernel) rfl (by decide +kernel) rfl ?_
  refine s_ildn (p' := 47) rfl rfl rfl ?_
  refine s_icmp (p' := 145) true rfl (by decide +kernel) rfl ?_
  refine s_incz (p' := 148) (w := (nI 8)) (ls' := [_, _, _, _, _, _, _, _]) rfl rfl rfl (by decide +kernel) rfl rfl ?_
  refine s_goto (p' := 37) rfl rfl ?_
  refine s_ildn (p' := 38) rfl rfl rfl ?_
  refine s_bip (p' := 40) rfl rfl ?_
  refine s_icmp (p' := 151) true rfl (by decide +kernel) rfl ?_
  refine s_aldn (p' := 152) rfl rfl rfl ?_
  refine c_aret rfl ?_
  refine s_astn (p' := 5) (ls' := [_, _, _]) rfl rfl rfl rfl ?_
  refine s_aldn (p' := 6) rfl rfl rfl ?_
  refine s_ildn (p' := 7) rfl rfl rfl ?_
  refine s_con (p' := 8) rfl rfl ?_
  refine s_aldn (p' := 9) rfl rfl rfl ?_
  refine c_call (p' := 14) (kc := 98) (ls0 := [_]) rfl rfl rfl rfl rfl (mj_rcv_is (rd_ss rfl (rd_ss rfl (rd_nw rfl (len_s (len_s (len_s (len_s (len_a (len_s (len_s (len_s (len_s (len_a (len_s (len_s (len_s (len_s (len_a (len_s (len_s (len_s (len_s (len_a (len_s (len_s (len_s (len_s (len_a (len_s (len_s (len_s (len_s (len_a (len_s (len_s (len_s (len_s (len_a (len_s (len_s (len_s (len_s (len_a (len_a (len_a (len_s (len_s (len_s (len_s (len_s (len_s (len_s (len_s (len_s HL))))))))) rfl) rfl) rfl))))) rfl))))) rfl))))) rfl))))) rfl))))) rfl))))) rfl))))) rfl))))))))) rfl rfl rfl ?_
  refine s_aldn (p' := 1) rfl rfl rfl ?_
  refine s_gf (p' := 4) rfl (rd_ss rfl (rd_ss rfl (rd_nw rfl (len_s (len_s (len_s (len_s (len_a (len_s (len_s (len_s (len_s (len_a (len_s (len_s (len_s (len_s (len_a (len_s (len_s (len_s (len_s (len_a (len_s (len_s (len_s (len_s (len_a (len_s (len_s (len_s (len_s (len_a (len_s (len_s (len_s (len_s (len_a (len_s (len_s (len_s (len_s (len_a (len_a (len_a (len_s (len_s (len_s (len_s (len_s (len_s (len_s (len_s (len_s HL))))))))) rfl) rfl) rfl))))) rfl))))) rfl))))) rfl))))) rfl))))) rfl))))) rfl))))) rfl)))))))) rfl rfl ?_
  refine c_iret rfl rfl ?_
  refine s_con (p' := 15) rfl rfl ?_
  refine s_bz (p' := 16) (z := (nI 4294967295)) rfl rfl rfl (by decide +kernel) ?_
  refine c_call (p' := 19) (kc := 98) (ls0 := [_, _, _]) rfl rfl rfl rfl rfl rfl rfl rfl rfl ?_
  refine s_ildn (p' := 1) rfl rfl rfl ?_
  refine s_ildn (p' := 2) rfl rfl rfl ?_
  refine s_icmp (p' := 5) false rfl ((ch_gt (w := 0) (by decide +kernel)).trans (decide_eq_false (by omega))) rfl ?_
  refine s_ildn (p' := 6) rfl rfl rfl ?_
  refine s_ildn (p' := 7) rfl rfl rfl ?_
  refine s_icmp (p' := 14) true rfl ((cg_gt (w := -1) (by decide +kernel)).trans (decide_eq_true (by omega))) rfl ?_
  refine s_con (p' := 15) rfl rfl ?_
  refine c_iret rfl (by decide +kernel) ?_
  refine s_if (p' := 26) true rfl (by decide +kernel) rfl ?_
  refine s_con (p' := 27) rfl rfl ?_
  refine c_call (p' := 30) (kc := 98) (ls0 := [_, _]) rfl rfl rfl rfl rfl (mj_rcv_is (rd_sn rfl (rd_sn rfl (rd_app (rd_sn rfl (rd_sn rfl (rd_sn rfl (rd_sn rfl (rd_app (rd_sn rfl (rd_sn rfl (rd_sn rfl (rd_sn rfl (rd_app (rd_sn rfl (rd_sn rfl (rd_sn rfl (rd_sn rfl (rd_app (rd_sn rfl (rd_sn rfl (rd_sn rfl (rd_sn rfl (rd_app (rd_sn rfl (rd_sn rfl (rd_sn rfl (rd_sn rfl (rd_app (rd_sn rfl (rd_sn rfl (rd_sn rfl (rd_sn rfl (rd_app (rd_sn rfl (rd_sn rfl (rd_sn rfl (rd_sn rfl (rd_app (rd_sn rfl (rd_sn rfl (rd_sn rfl (rd_sn rfl (rd_app (rd_app (rd_app (rd_sn rfl (rd_sn rfl (rd_sn rfl (rd_sn rfl (rd_sn rfl (rd_sn rfl (rd_sn rfl (rd_sn rfl (rd_sn rfl H400))))))))))))))))))))))))))))))))))))))))))))))))))))))) rfl rfl rfl ?_
  refine s_aldn (p' := 1) rfl rfl rfl ?_
  refine s_ildn (p' := 2) rfl rfl rfl ?_
  refine s_pfz (p' := 5) (fs' := [_, _, _, _, _, _, _, _, _, _, _]) rfl rfl (rd_sn rfl (rd_sn rfl (rd_app (rd_sn rfl (rd_sn rfl (rd_sn rfl (rd_sn rfl (rd_app (rd_sn rfl (rd_sn rfl (rd_sn rfl (rd_sn rfl (rd_app (rd_sn rfl (rd_sn rfl (rd_sn rfl (rd_sn rfl (rd_app (rd_sn rfl (rd_sn rfl (rd_sn rfl (rd_sn rfl (rd_app (rd_sn rfl (rd_sn rfl (rd_sn rfl (rd_sn rfl (rd_app (rd_sn rfl (rd_sn rfl (rd_sn rfl (rd_sn rfl (rd_app (rd_sn rfl (rd_sn rfl (rd_sn rfl (rd_sn rfl (rd_app (rd_sn rfl (rd_sn rfl (rd_sn rfl (rd_sn rfl (rd_app (rd_app (rd_app (rd_sn rfl (rd_sn rfl (rd_sn rfl (rd_sn rfl (rd_sn rfl (rd_sn rfl (rd_sn rfl (rd_sn rfl (rd_sn rfl H400)))))))))))))))))))))))))))))))))))))))))))))))))))))) rfl rfl rfl rfl ?_
  refine s_ildn (p' := 6) rfl rfl rfl ?_
  refine s_if (p' := 9) false rfl (by decide +kernel) rfl ?_
  refine s_con (p' := 10) rfl rfl ?_
  refine s_goto (p' := 14) rfl rfl ?_
  refine c_iret rfl (by decide +kernel) ?_
  refine s_if (p' := 33) false rfl (by decide +kernel) rfl ?_
  refine s_con (p' := 34) rfl rfl ?_
  refine s_goto (p' := 50) rfl rfl ?_
  refine k_iret rfl rfl ?_
  refine l_ist (p' := 2118) (ls' := [_, _, _, _, _, _, _, _, _, _]) rfl rfl rfl rfl rfl ?_
  refine l_aldn (p' := 2119) rfl rfl rfl rfl ?_
  refine l_call (p' := 2122) (kc := 99) (ls0 := [_]) rfl rfl rfl rfl rfl rfl (mj_rcv_is (rd_ss rfl (rd_sn rfl (rd_sn rfl (rd_app (rd_sn rfl (rd_sn rfl (rd_sn rfl (rd_sn rfl (rd_app (rd_sn rfl (rd_sn rfl (rd_sn rfl (rd_sn rfl (rd_app (rd_sn rfl (rd_sn rfl (rd_sn rfl (rd_sn rfl (rd_app (rd_sn rfl (rd_sn rfl (rd_sn rfl (rd_sn rfl (rd_app (rd_sn rfl (rd_sn rfl (rd_sn rfl (rd_sn rfl (rd_app (rd_sn rfl (rd_sn rfl (rd_sn rfl (rd_sn rfl (rd_app (rd_sn rfl (rd_sn rfl (rd_sn rfl (rd_sn rfl (rd_app (rd_sn rfl (rd_sn rfl (rd_sn rfl (rd_sn rfl (rd_app (rd_app (rd_app (rd_sn rfl (rd_sn rfl (rd_sn rfl (rd_sn rfl (rd_sn rfl (rd_sn rfl (rd_sn rfl (rd_sn rfl (rd_sn rfl H400)))))))))))))))))))))))))))))))))))))))))))))))))))))))) rfl rfl rfl ?_
  refine s_aldn (p' := 1) rfl rfl rfl ?_
  refine s_gf (p' := 4) rfl (rd_ss rfl (rd_sn rfl (rd_sn rfl (rd_app (rd_sn rfl (rd_sn rfl (rd_sn rfl (rd_sn rfl (rd_app (rd_sn rfl (rd_sn rfl (rd_sn rfl (rd_sn rfl (rd_app (rd_sn rfl (rd_sn rfl (rd_sn rfl (rd_sn rfl (rd_app (rd_sn rfl (rd_sn rfl (rd_sn rfl (rd_sn rfl (rd_app (rd_sn rfl (rd_sn rfl (rd_sn rfl (rd_sn rfl (rd_app (rd_sn rfl (rd_sn rfl (rd_sn rfl (rd_sn rfl (rd_app (rd_sn rfl (rd_sn rfl (rd_sn rfl (rd_sn rfl (rd_app (rd_sn rfl (rd_sn rfl (rd_sn rfl (rd_sn rfl (rd_app (rd_app (rd_app (rd_sn rfl (rd_sn rfl (rd_sn rfl (rd_sn rfl (rd_sn rfl (rd_sn rfl (rd_sn rfl (rd_sn rfl (rd_sn rfl H400))))))))))))))))))))))))))))))))))))))))))))))))))))))) rfl rfl ?_
  refine k_iret rfl rfl ?_
  refine l_ild (p' := 2124) rfl rfl rfl rfl ?_
  refine l_icmp (p' := 2129) true rfl rfl (by decide +kernel) rfl ?_
  refine l_ild (p' := 2131) rfl rfl rfl rfl ?_
  refine l_if (p' := 2146) true rfl rfl (by decide +kernel) rfl ?_
  refine l_goto (p' := 2541) rfl rfl rfl ?_
  refine l_incz (p' := 2544) (w := (nI 4)) (ls' := [_, _, _, _, _, _, _, _, _, _]) rfl rfl rfl rfl (by decide +kernel) rfl rfl ?_
  refine l_goto (p' := 28) rfl rfl rfl ?_
  refine l_ild (p' := 30) rfl rfl rfl rfl ?_
  refine l_alds (p' := 31) rfl rfl rfl rfl ?_
  refine l_lens (p' := 32) rfl rfl rfl ?_
  refine l_con (p' := 33) rfl rfl rfl ?_
  refine l_bz (p' := 34) (z := (nI 0)) rfl rfl rfl rfl rfl (by decide +kernel) ?_
  refine l_icmp (p' := 2547) true rfl rfl (by decide +kernel) rfl ?_
  refine l_con (p' := 2548) rfl rfl rfl ?_
  refine l_end rfl rfl ?_
  exact ⟨Nat.le_trans (Nat.le_of_eq (len_s (len_s (len_s (len_a (len_s (len_s (len_s (len_s (len_a (len_s (len_s (len_s (len_s (len_a (len_s (len_s (len_s (len_s (len_a (len_s (len_s (len_s (len_s (len_a (len_s (len_s (len_s (len_s (len_a (len_s (len_s (len_s (len_s (len_a (len_s (len_s (len_s (len_s (len_a (len_s (len_s (len_s (len_s (len_a (len_a (len_a (len_s (len_s (len_s (len_s (len_s (len_s (len_s (len_s (len_s HL))))))))) rfl) rfl) rfl))))) rfl))))) rfl))))) rfl))))) rfl))))) rfl))))) rfl))))) rfl))))) rfl))))) (Nat.le_of_ble_eq_true rfl), Nat.le_trans (sz_s rfl (rd_sn rfl (rd_sn rfl (rd_app (rd_sn rfl (rd_sn rfl (rd_sn rfl (rd_sn rfl (rd_app (rd_sn rfl (rd_sn rfl (rd_sn rfl (rd_sn rfl (rd_app (rd_sn rfl (rd_sn rfl (rd_sn rfl (rd_sn rfl (rd_app (rd_sn rfl (rd_sn rfl (rd_sn rfl (rd_sn rfl (rd_app (rd_sn rfl (rd_sn rfl (rd_sn rfl (rd_sn rfl (rd_app (rd_sn rfl (rd_sn rfl (rd_sn rfl (rd_sn rfl (rd_app (rd_sn rfl (rd_sn rfl (rd_sn rfl (rd_sn rfl (rd_app (rd_sn rfl (rd_sn rfl (rd_sn rfl (rd_sn rfl (rd_app (rd_app (rd_app (rd_sn rfl (rd_sn rfl (rd_sn rfl (rd_sn rfl (rd_sn rfl (rd_sn rfl (rd_sn rfl (rd_sn rfl (rd_sn rfl H400)))))))))))))))))))))))))))))))))))))))))))))))))))))) rfl (sz_s rfl (rd_ss rfl (rd_nw rfl (len_s (len_s (len_s (len_s (len_a (len_s (len_s (len_s (len_s (len_a (len_s (len_s (len_s (len_s (len_a (len_s (len_s (len_s (len_s (len_a (len_s (len_s (len_s (len_s (len_a (len_s (len_s (len_s (len_s (len_a (len_s (len_s (len_s (len_s (len_a (len_s (len_s (len_s (len_s (len_a (len_a (len_a (len_s (len_s (len_s (len_s (len_s (len_s (len_s (len_s (len_s HL))))))))) rfl) rfl) rfl))))) rfl))))) rfl))))) rfl))))) rfl))))) rfl))))) rfl))))) rfl))))))) rfl (sz_s rfl (rd_nw rfl (len_s (len_s (len_s (len_s (len_a (len_s (len_s (len_s (len_s (len_a (len_s (len_s (len_s (len_s (len_a (len_s (len_s (len_s (len_s (len_a (len_s (len_s (len_s (len_s (len_a (len_s (len_s (len_s (len_s (len_a (len_s (len_s (len_s (len_s (len_a (len_s (len_s (len_s (len_s (len_a (len_a (len_a (len_s (len_s (len_s (len_s (len_s (len_s (len_s (len_s (len_s HL))))))))) rfl) rfl) rfl))))) rfl))))) rfl))))) rfl))))) rfl))))) rfl))))) rfl))))) rfl)))))) rfl (sz_aa (k := 3) (m := 20049) rfl rfl (sz_sA rfl (rd_sn rfl (rd_sn rfl (rd_sn rfl (rd_app (rd_ss rfl (rd_sn rfl (rd_sn rfl (rd_sn rfl (rd_app (rd_ss rfl (rd_sn rfl (rd_sn rfl (rd_sn rfl (rd_app (rd_ss rfl (rd_sn rfl (rd_sn rfl (rd_sn rfl (rd_app (rd_ss rfl (rd_sn rfl (rd_sn rfl (rd_sn rfl (rd_app (rd_ss rfl (rd_sn rfl (rd_sn rfl (rd_sn rfl (rd_app (rd_ss rfl (rd_sn rfl (rd_sn rfl (rd_sn rfl (rd_app (rd_ss rfl (rd_sn rfl (rd_sn rfl (rd_sn rfl (rd_app (rd_nw rfl (len_a (len_s (len_s (len_s (len_s (len_s (len_s (len_s (len_s (len_s HL))))))))) rfl))))))))))))))))))))))))))))))))))))))))) (sz_s rfl (rd_ss rfl (rd_ss rfl (rd_nw rfl (len_s (len_s (len_s (len_s (len_a (len_s (len_s (len_s (len_s (len_a (len_s (len_s (len_s (len_s (len_a (len_s (len_s (len_s (len_s (len_a (len_s (len_s (len_s (len_s (len_a (len_s (len_s (len_s (len_s (len_a (len_s (len_s (len_s (len_s (len_a (len_a (len_a (len_s (len_s (len_s (len_s (len_s (len_s (len_s (len_s (len_s HL))))))))) rfl) rfl) rfl))))) rfl))))) rfl))))) rfl))))) rfl))))) rfl))))) rfl)))))))) rfl (sz_s rfl (rd_ss rfl (rd_nw rfl (len_s (len_s (len_s (len_s (len_a (len_s (len_s (len_s (len_s (len_a (len_s (len_s (len_s (len_s (len_a (len_s (len_s (len_s (len_s (len_a (len_s (len_s (len_s (len_s (len_a (len_s (len_s (len_s (len_s (len_a (len_s (len_s (len_s (len_s (len_a (len_a (len_a (len_s (len_s (len_s (len_s (len_s (len_s (len_s (len_s (len_s HL))))))))) rfl) rfl) rfl))))) rfl))))) rfl))))) rfl))))) rfl))))) rfl))))) rfl))))))) rfl (sz_s rfl (rd_nw rfl (len_s (len_s (len_s (len_s (len_a (len_s (len_s (len_s (len_s (len_a (len_s (len_s (len_s (len_s (len_a (len_s (len_s (len_s (len_s (len_a (len_s (len_s (len_s (len_s (len_a (len_s (len_s (len_s (len_s (len_a (len_s (len_s (len_s (len_s (len_a (len_a (len_a (len_s (len_s (len_s (len_s (len_s (len_s (len_s (len_s (len_s HL))))))))) rfl) rfl) rfl))))) rfl))))) rfl))))) rfl))))) rfl))))) rfl))))) rfl)))))) rfl (sz_aa (k := 4) (m := 20046) rfl rfl (sz_sA rfl (rd_sn rfl (rd_sn rfl (rd_sn rfl (rd_app (rd_ss rfl (rd_sn rfl (rd_sn rfl (rd_sn rfl (rd_app (rd_ss rfl (rd_sn rfl (rd_sn rfl (rd_sn rfl (rd_app (rd_ss rfl (rd_sn rfl (rd_sn rfl (rd_sn rfl (rd_app (rd_ss rfl (rd_sn rfl (rd_sn rfl (rd_sn rfl (rd_app (rd_ss rfl (rd_sn rfl (rd_sn rfl (rd_sn rfl (rd_app (rd_ss rfl (rd_sn rfl (rd_sn rfl (rd_sn rfl (rd_app (rd_nw rfl (len_a (len_s (len_s (len_s (len_s (len_s (len_s (len_s (len_s (len_s HL))))))))) rfl)))))))))))))))))))))))))))))))))))) (sz_s rfl (rd_ss rfl (rd_ss rfl (rd_nw rfl (len_s (len_s (len_s (len_s (len_a (len_s (len_s (len_s (len_s (len_a (len_s (len_s (len_s (len_s (len_a (len_s (len_s (len_s (len_s (len_a (len_s (len_s (len_s (len_s (len_a (len_s (len_s (len_s (len_s (len_a (len_a (len_a (len_s (len_s (len_s (len_s (len_s (len_s (len_s (len_s (len_s HL))))))))) rfl) rfl) rfl))))) rfl))))) rfl))))) rfl))))) rfl))))) rfl)))))))) rfl (sz_s rfl (rd_ss rfl (rd_nw rfl (len_s (len_s (len_s (len_s (len_a (len_s (len_s (len_s (len_s (len_a (len_s (len_s (len_s (len_s (len_a (len_s (len_s (len_s (len_s (len_a (len_s (len_s (len_s (len_s (len_a (len_s (len_s (len_s (len_s (len_a (len_a (len_a (len_s (len_s (len_s (len_s (len_s (len_s (len_s (len_s (len_s HL))))))))) rfl) rfl) rfl))))) rfl))))) rfl))))) rfl))))) rfl))))) rfl))))))) rfl (sz_s rfl (rd_nw rfl (len_s (len_s (len_s (len_s (len_a (len_s (len_s (len_s (len_s (len_a (len_s (len_s (len_s (len_s (len_a (len_s (len_s (len_s (len_s (len_a (len_s (len_s (len_s (len_s (len_a (len_s (len_s (len_s (len_s (len_a (len_a (len_a (len_s (len_s (len_s (len_s (len_s (len_s (len_s (len_s (len_s HL))))))))) rfl) rfl) rfl))))) rfl))))) rfl))))) rfl))))) rfl))))) rfl)))))) rfl (sz_aa (k := 4) (m := 20042) rfl rfl (sz_sA rfl (rd_sn rfl (rd_sn rfl (rd_sn rfl (rd_app (rd_ss rfl (rd_sn rfl (rd_sn rfl (rd_sn rfl (rd_app (rd_ss rfl (rd_sn rfl (rd_sn rfl (rd_sn rfl (rd_app (rd_ss rfl (rd_sn rfl (rd_sn rfl (rd_sn rfl (rd_app (rd_ss rfl (rd_sn rfl (rd_sn rfl (rd_sn rfl (rd_app (rd_ss rfl (rd_sn rfl (rd_sn rfl (rd_sn rfl (rd_app (rd_nw rfl (len_a (len_s (len_s (len_s (len_s (len_s (len_s (len_s (len_s (len_s HL))))))))) rfl))))))))))))))))))))))))))))))) (sz_s rfl (rd_ss rfl (rd_ss rfl (rd_nw rfl (len_s (len_s (len_s (len_s (len_a (len_s (len_s (len_s (len_s (len_a (len_s (len_s (len_s (len_s (len_a (len_s (len_s (len_s (len_s (len_a (len_s (len_s (len_s (len_s (len_a (len_a (len_a (len_s (len_s (len_s (len_s (len_s (len_s (len_s (len_s (len_s HL))))))))) rfl) rfl) rfl))))) rfl))))) rfl))))) rfl))))) rfl)))))))) rfl (sz_s rfl (rd_ss rfl (rd_nw rfl (len_s (len_s (len_s (len_s (len_a (len_s (len_s (len_s (len_s (len_a (len_s (len_s (len_s (len_s (len_a (len_s (len_s (len_s (len_s (len_a (len_s (len_s (len_s (len_s (len_a (len_a (len_a (len_s (len_s (len_s (len_s (len_s (len_s (len_s (len_s (len_s HL))))))))) rfl) rfl) rfl))))) rfl))))) rfl))))) rfl))))) rfl))))))) rfl (sz_s rfl (rd_nw rfl (len_s (len_s (len_s (len_s (len_a (len_s (len_s (len_s (len_s (len_a (len_s (len_s (len_s (len_s (len_a (len_s (len_s (len_s (len_s (len_a (len_s (len_s (len_s (len_s (len_a (len_a (len_a (len_s (len_s (len_s (len_s (len_s (len_s (len_s (len_s (len_s HL))))))))) rfl) rfl) rfl))))) rfl))))) rfl))))) rfl))))) rfl)))))) rfl (sz_aa (k := 4) (m := 20038) rfl rfl (sz_sA rfl (rd_sn rfl (rd_sn rfl (rd_sn rfl (rd_app (rd_ss rfl (rd_sn rfl (rd_sn rfl (rd_sn rfl (rd_app (rd_ss rfl (rd_sn rfl (rd_sn rfl (rd_sn rfl (rd_app (rd_ss rfl (rd_sn rfl (rd_sn rfl (rd_sn rfl (rd_app (rd_ss rfl (rd_sn rfl (rd_sn rfl (rd_sn rfl (rd_app (rd_nw rfl (len_a (len_s (len_s (len_s (len_s (len_s (len_s (len_s (len_s (len_s HL))))))))) rfl)))))))))))))))))))))))))) (sz_s rfl (rd_ss rfl (rd_ss rfl (rd_nw rfl (len_s (len_s (len_s (len_s (len_a (len_s (len_s (len_s (len_s (len_a (len_s (len_s (len_s (len_s (len_a (len_s (len_s (len_s (len_s (len_a (len_a (len_a (len_s (len_s (len_s (len_s (len_s (len_s (len_s (len_s (len_s HL))))))))) rfl) rfl) rfl))))) rfl))))) rfl))))) rfl)))))))) rfl (sz_s rfl (rd_ss rfl (rd_nw rfl (len_s (len_s (len_s (len_s (len_a (len_s (len_s (len_s (len_s (len_a (len_s (len_s (len_s (len_s (len_a (len_s (len_s (len_s (len_s (len_a (len_a (len_a (len_s (len_s (len_s (len_s (len_s (len_s (len_s (len_s (len_s HL))))))))) rfl) rfl) rfl))))) rfl))))) rfl))))) rfl))))))) rfl (sz_s rfl (rd_nw rfl (len_s (len_s (len_s (len_s (len_a (len_s (len_s (len_s (len_s (len_a (len_s (len_s (len_s (len_s (len_a (len_s (len_s (len_s (len_s (len_a (len_a (len_a (len_s (len_s (len_s (len_s (len_s (len_s (len_s (len_s (len_s HL))))))))) rfl) rfl) rfl))))) rfl))))) rfl))))) rfl)))))) rfl (sz_aa (k := 4) (m := 20034) rfl rfl (sz_sA rfl (rd_sn rfl (rd_sn rfl (rd_sn rfl (rd_app (rd_ss rfl (rd_sn rfl (rd_sn rfl (rd_sn rfl (rd_app (rd_ss rfl (rd_sn rfl (rd_sn rfl (rd_sn rfl (rd_app (rd_ss rfl (rd_sn rfl (rd_sn rfl (rd_sn rfl (rd_app (rd_nw rfl (len_a (len_s (len_s (len_s (len_s (len_s (len_s (len_s (len_s (len_s HL))))))))) rfl))))))))))))))))))))) (sz_s rfl (rd_ss rfl (rd_ss rfl (rd_nw rfl (len_s (len_s (len_s (len_s (len_a (len_s (len_s (len_s (len_s (len_a (len_s (len_s (len_s (len_s (len_a (len_a (len_a (len_s (len_s (len_s (len_s (len_s (len_s (len_s (len_s (len_s HL))))))))) rfl) rfl) rfl))))) rfl))))) rfl)))))))) rfl (sz_s rfl (rd_ss rfl (rd_nw rfl (len_s (len_s (len_s (len_s (len_a (len_s (len_s (len_s (len_s (len_a (len_s (len_s (len_s (len_s (len_a (len_a (len_a (len_s (len_s (len_s (len_s (len_s (len_s (len_s (len_s (len_s HL))))))))) rfl) rfl) rfl))))) rfl))))) rfl))))))) rfl (sz_s rfl (rd_nw rfl (len_s (len_s (len_s (len_s (len_a (len_s (len_s (len_s (len_s (len_a (len_s (len_s (len_s (len_s (len_a (len_a (len_a (len_s (len_s (len_s (len_s (len_s (len_s (len_s (len_s (len_s HL))))))))) rfl) rfl) rfl))))) rfl))))) rfl)))))) rfl (sz_aa (k := 4) (m := 20030) rfl rfl (sz_sA rfl (rd_sn rfl (rd_sn rfl (rd_sn rfl (rd_app (rd_ss rfl (rd_sn rfl (rd_sn rfl (rd_sn rfl (rd_app (rd_ss rfl (rd_sn rfl (rd_sn rfl (rd_sn rfl (rd_app (rd_nw rfl (len_a (len_s (len_s (len_s (len_s (len_s (len_s (len_s (len_s (len_s HL))))))))) rfl)))))))))))))))) (sz_s rfl (rd_ss rfl (rd_ss rfl (rd_nw rfl (len_s (len_s (len_s (len_s (len_a (len_s (len_s (len_s (len_s (len_a (len_a (len_a (len_s (len_s (len_s (len_s (len_s (len_s (len_s (len_s (len_s HL))))))))) rfl) rfl) rfl))))) rfl)))))))) rfl (sz_s rfl (rd_ss rfl (rd_nw rfl (len_s (len_s (len_s (len_s (len_a (len_s (len_s (len_s (len_s (len_a (len_a (len_a (len_s (len_s (len_s (len_s (len_s (len_s (len_s (len_s (len_s HL))))))))) rfl) rfl) rfl))))) rfl))))))) rfl (sz_s rfl (rd_nw rfl (len_s (len_s (len_s (len_s (len_a (len_s (len_s (len_s (len_s (len_a (len_a (len_a (len_s (len_s (len_s (len_s (len_s (len_s (len_s (len_s (len_s HL))))))))) rfl) rfl) rfl))))) rfl)))))) rfl (sz_aa (k := 4) (m := 20026) rfl rfl (sz_sA rfl (rd_sn rfl (rd_sn rfl (rd_sn rfl (rd_app (rd_ss rfl (rd_sn rfl (rd_sn rfl (rd_sn rfl (rd_app (rd_nw rfl (len_a (len_s (len_s (len_s (len_s (len_s (len_s (len_s (len_s (len_s HL))))))))) rfl))))))))))) (sz_s rfl (rd_ss rfl (rd_ss rfl (rd_nw rfl (len_s (len_s (len_s (len_s (len_a (len_a (len_a (len_s (len_s (len_s (len_s (len_s (len_s (len_s (len_s (len_s HL))))))))) rfl) rfl) rfl)))))))) rfl (sz_s rfl (rd_ss rfl (rd_nw rfl (len_s (len_s (len_s (len_s (len_a (len_a (len_a (len_s (len_s (len_s (len_s (len_s (len_s (len_s (len_s (len_s HL))))))))) rfl) rfl) rfl))))))) rfl (sz_s rfl (rd_nw rfl (len_s (len_s (len_s (len_s (len_a (len_a (len_a (len_s (len_s (len_s (len_s (len_s (len_s (len_s (len_s (len_s HL))))))))) rfl) rfl) rfl)))))) rfl (sz_aa (k := 4) (m := 20022) rfl rfl (sz_sA rfl (rd_sn rfl (rd_sn rfl (rd_sn rfl (rd_app (rd_nw rfl (len_a (len_s (len_s (len_s (len_s (len_s (len_s (len_s (len_s (len_s HL))))))))) rfl)))))) (sz_s rfl (rd_ss rfl (rd_ss rfl (rd_nw rfl (len_a (len_a (len_s (len_s (len_s (len_s (len_s (len_s (len_s (len_s (len_s HL))))))))) rfl) rfl)))) rfl (sz_s rfl (rd_ss rfl (rd_nw rfl (len_a (len_a (len_s (len_s (len_s (len_s (len_s (len_s (len_s (len_s (len_s HL))))))))) rfl) rfl))) rfl (sz_s rfl (rd_nw rfl (len_a (len_a (len_s (len_s (len_s (len_s (len_s (len_s (len_s (len_s (len_s HL))))))))) rfl) rfl)) rfl (sz_aa (k := 4) (m := 20018) rfl rfl (sz_aa (k := 8) (m := 20014) rfl rfl (sz_aa (k := 6) (m := 20006) rfl rfl (sz_s rfl (rd_sn rfl (rd_sn rfl (rd_sn rfl (rd_sn rfl (rd_sn rfl (rd_sn rfl (rd_sn rfl (rd_sn rfl H393)))))))) rfl (sz_sA rfl (rd_ss rfl (rd_ss rfl (rd_ss rfl (rd_ss rfl (rd_ss rfl (rd_ss rfl (rd_ss rfl H395))))))) (sz_sA rfl (rd_ss rfl (rd_ss rfl (rd_ss rfl (rd_ss rfl (rd_ss rfl (rd_ss rfl H395)))))) (sz_sA rfl (rd_ss rfl (rd_ss rfl (rd_ss rfl (rd_ss rfl (rd_ss rfl H395))))) (sz_sA rfl (rd_ss rfl (rd_ss rfl (rd_ss rfl (rd_ss rfl H395)))) (sz_sA rfl (rd_ss rfl (rd_ss rfl (rd_ss rfl H395))) (sz_sA rfl (rd_ss rfl (rd_ss rfl H395)) (sz_sA rfl (rd_ss rfl H395) (sz_sA rfl H395 HZ))))))))))))))))))))))))))))))))))))))))))))))))))))))) (Nat.le_of_ble_eq_true rfl)⟩
theorem p1_14_n0 {xs : Nat → Int32} {h : mj_H} (hk : xs 0 &&& nI 63 = nI 14) {p : Int32} (hx1 : xs 1 = p) {y : Int32} (hx2 : xs 2 = y) (hp : p.toInt < 0) (hy : y.toInt = 0) (HL : h.length = 414) (HZ : mj_sz h ≤ 20000) (H0 : mj_rd h 0 = some (.inr (0, [.ref 1, .ref 38, .ref 299, .ref 336, .ref 373, .ref 375, .ref 378, .ref 381, .ref 387, .ref 393, .null, .null, .ref 397, .ref 398, .ref 399, .long (lN 0), .long (lN 0)]))) (H38 : mj_rd h 38 = some (.inr (6, [.ref 39, .ref 40, .int (nI 0)]))) (H400 : mj_rd h 400 = some (.inr (17, [.int (nI 0), .ref 401, .ref 402, .ref 1000300, .long (lN 0), .long (lN 0), .ref 410, .null, .null, .null, .ref 411]))) (H401 : mj_rd h 401 = some (.inr (18, [.ref 1000000, .int (nI 0), .int (nI 0)]))) : mj_fin 4 xs h := by
  unfold mj_fin
  refine l_ild (p' := 30) rfl rfl rfl rfl ?_
  refine l_alds (p' := 31) rfl rfl rfl rfl ?_
  refine l_lens (p' := 32) rfl rfl rfl ?_
  refine l_con (p' := 33) rfl rfl rfl ?_
  refine l_bz (p' := 34) (z := (nI 0)) rfl rfl rfl rfl rfl (by decide +kernel) ?_
  refine l_icmp (p' := 37) false rfl rfl (by decide +kernel) rfl ?_
  refine l_alds (p' := 38) rfl rfl rfl rfl ?_
  refine l_ild (p' := 40) rfl rfl rfl rfl ?_
  refine l_ialz (p' := 41) (m := 0) (z := (xs 0)) rfl rfl (by decide +kernel) rfl rfl rfl ?_
  refine l_bip (p' := 43) rfl rfl rfl ?_
  refine l_bz (p' := 44) (z := (nI 14)) rfl rfl rfl rfl rfl hk ?_
  refine l_sp (p' := 964) (ls' := _) rfl rfl rfl rfl rfl ?_
  refine l_aldn (p' := 965) rfl rfl rfl rfl ?_
  refine l_alds (p' := 966) rfl rfl rfl rfl ?_
  refine l_ild (p' := 968) rfl rfl rfl rfl ?_
  refine l_con (p' := 969) rfl rfl rfl ?_
  refine l_bz (p' := 970) (z := (nI 1)) rfl rfl rfl rfl rfl (by decide +kernel) ?_
  refine l_ialz (p' := 971) (m := 1) (z := p) rfl rfl (by decide +kernel) rfl hx1 rfl ?_
  refine l_alds (p' := 972) rfl rfl rfl rfl ?_
  refine l_ild (p' := 974) rfl rfl rfl rfl ?_
  refine l_con (p' := 975) rfl rfl rfl ?_
  refine l_bz (p' := 976) (z := (nI 2)) rfl rfl rfl rfl rfl (by decide +kernel) ?_
  refine l_ialz (p' := 977) (m := 2) (z := y) rfl rfl (by decide +kernel) rfl hx2 rfl ?_
  refine l_if (p' := 984) true rfl rfl ((cg_eq (w := 0) (by decide +kernel)).trans (decide_eq_true (by omega))) rfl ?_
  refine l_con (p' := 985) rfl rfl rfl ?_
  refine l_aldn (p' := 986) rfl rfl rfl rfl ?_
  refine l_call (p' := 989) (kc := 99) (ls0 := [_, _, _, _, _]) rfl rfl rfl rfl rfl rfl rfl rfl rfl rfl ?_
  refine s_aldn (p' := 1) rfl rfl rfl ?_
  refine s_con (p' := 2) rfl rfl ?_
  refine s_aldn (p' := 3) rfl rfl rfl ?_
  refine s_ildn (p' := 4) rfl rfl rfl ?_
  refine s_ildn (p' := 5) rfl rfl rfl ?_
  refine c_call (p' := 8) (kc := 98) (ls0 := [_, _, _]) rfl rfl rfl rfl rfl (mj_rcv_is H0) rfl rfl rfl ?_
  refine s_aldn (p' := 1) rfl rfl rfl ?_
  refine s_gf (p' := 4) rfl H0 rfl rfl ?_
  refine s_ildn (p' := 5) rfl rfl rfl ?_
  refine c_call (p' := 8) (kc := 97) (ls0 := [_, _]) rfl rfl rfl rfl rfl (mj_rcv_is H38) rfl rfl rfl ?_
  refine s_ildn (p' := 1) rfl rfl rfl ?_
  refine s_if (p' := 16) true rfl ((cg_lt (w := 0) (by decide +kernel)).trans (decide_eq_true (by omega))) rfl ?_
  refine s_con (p' := 17) rfl rfl ?_
  refine c_iret rfl (by decide +kernel) ?_
  refine s_if (p' := 11) false rfl (by decide +kernel) rfl ?_
  refine s_thrz (q := 414) rfl HL rfl ?_
  refine K_c (hp := 13) rfl (mj_ocl_is (rd_nw rfl HL)) rfl ?_
  refine s_ast (p' := 15) (ls' := [_, _, _, _, _]) rfl rfl rfl rfl ?_
  refine s_con (p' := 16) rfl rfl ?_
  refine k_iret rfl rfl ?_
  refine l_ist (p' := 991) (ls' := [_, _, _, _, _, _, _, _, _, _]) rfl rfl rfl rfl rfl ?_
  refine l_aldn (p' := 992) rfl rfl rfl rfl ?_
  refine l_alds (p' := 993) rfl rfl rfl rfl ?_
  refine l_ild (p' := 995) rfl rfl rfl rfl ?_
  refine l_con (p' := 996) rfl rfl rfl ?_
  refine l_bz (p' := 997) (z := (nI 1)) rfl rfl rfl rfl rfl (by decide +kernel) ?_
  refine l_ialz (p' := 998) (m := 1) (z := p) rfl rfl (by decide +kernel) rfl hx1 rfl ?_
  refine l_alds (p' := 999) rfl rfl rfl rfl ?_
  refine l_ild (p' := 1001) rfl rfl rfl rfl ?_
  refine l_con (p' := 1002) rfl rfl rfl ?_
  refine l_bz (p' := 1003) (z := (nI 2)) rfl rfl rfl rfl rfl (by decide +kernel) ?_
  refine l_ialz (p' := 1004) (m := 2) (z := y) rfl rfl (by decide +kernel) rfl hx2 rfl ?_
  refine l_if (p' := 1011) true rfl rfl ((cg_eq (w := 0) (by decide +kernel)).trans (decide_eq_true (by omega))) rfl ?_
  refine l_con (p' := 1012) rfl rfl rfl ?_
  refine l_call (p' := 1015) (kc := 99) (ls0 := [_, _, _]) rfl rfl rfl rfl rfl rfl (mj_rcv_is (rd_app H400)) rfl rfl rfl ?_
  refine s_aldn (p' := 1) rfl rfl rfl ?_
  refine s_aldn (p' := 2) rfl rfl rfl ?_
  refine s_ildn (p' := 3) rfl rfl rfl ?_
  refine c_call (p' := 6) (kc := 98) (ls0 := [_, _]) rfl rfl rfl rfl rfl (mj_rcv_is (rd_app H400)) rfl rfl rfl ?_
  refine s_ildn (p' := 1) rfl rfl rfl ?_
  refine s_con (p' := 2) rfl rfl ?_
  refine s_aldn (p' := 3) rfl rfl rfl ?_
  refine s_gf (p' := 6) rfl (rd_app H400) rfl rfl ?_
  refine c_call (p' := 11) (kc := 97) (ls0 := [_]) rfl rfl rfl rfl rfl (mj_rcv_is (rd_app H401)) rfl rfl rfl ?_
  refine s_aldn (p' := 1) rfl rfl rfl ?_
  refine s_gf (p' := 4) rfl (rd_app H401) rfl rfl ?_
  refine c_iret rfl rfl ?_
  refine s_con (p' := 12) rfl rfl ?_
  refine s_bz (p' := 13) (z := (nI 4294967295)) rfl rfl rfl (by decide +kernel) ?_
  refine c_call (p' := 16) (kc := 97) (ls0 := [_, _, _]) rfl rfl rfl rfl rfl rfl rfl rfl rfl ?_
  refine s_ildn (p' := 1) rfl rfl rfl ?_
  refine s_ildn (p' := 2) rfl rfl rfl ?_
  refine s_icmp (p' := 14) true rfl ((ch_gt (w := 0) (by decide +kernel)).trans (decide_eq_true (by omega))) rfl ?_
  refine s_con (p' := 15) rfl rfl ?_
  refine c_iret rfl (by decide +kernel) ?_
  refine c_iret rfl (by decide +kernel) ?_
  refine s_if (p' := 13) true rfl (by decide +kernel) rfl ?_
  refine s_con (p' := 14) rfl rfl ?_
  refine c_call (p' := 17) (kc := 98) (ls0 := [_, _]) rfl rfl rfl rfl rfl (mj_rcv_is (rd_app H400)) rfl rfl rfl ?_
  refine s_aldn (p' := 1) rfl rfl rfl ?_
  refine s_ildn (p' := 2) rfl rfl rfl ?_
  refine s_pfz (p' := 5) (fs' := [_, _, _, _, _, _, _, _, _, _, _]) rfl rfl (rd_app H400) rfl rfl rfl rfl ?_
  refine s_ildn (p' := 6) rfl rfl rfl ?_
  refine s_if (p' := 9) false rfl (by decide +kernel) rfl ?_
  refine s_con (p' := 10) rfl rfl ?_
  refine s_goto (p' := 14) rfl rfl ?_
  refine c_iret rfl (by decide +kernel) ?_
  refine s_if (p' := 20) false rfl (by decide +kernel) rfl ?_
  refine s_con (p' := 21) rfl rfl ?_
  refine k_iret rfl rfl ?_
  refine l_ist (p' := 1017) (ls' := [_, _, _, _, _, _, _, _, _, _]) rfl rfl rfl rfl rfl ?_
  refine l_aldn (p' := 1018) rfl rfl rfl rfl ?_
  refine l_call (p' := 1021) (kc := 99) (ls0 := [_]) rfl rfl rfl rfl rfl rfl (mj_rcv_is (rd_ss rfl (rd_app H400))) rfl rfl rfl ?_
  refine s_aldn (p' := 1) rfl rfl rfl ?_
  refine s_gf (p' := 4) rfl (rd_ss rfl (rd_app H400)) rfl rfl ?_
  refine k_iret rfl rfl ?_
  refine l_ild (p' := 1023) rfl rfl rfl rfl ?_
  refine l_icmp (p' := 1028) true rfl rfl (by decide +kernel) rfl ?_
  refine l_ild (p' := 1030) rfl rfl rfl rfl ?_
  refine l_if (p' := 1045) true rfl rfl (by decide +kernel) rfl ?_
  refine l_goto (p' := 2541) rfl rfl rfl ?_
  refine l_incz (p' := 2544) (w := (nI 4)) (ls' := [_, _, _, _, _, _, _, _, _, _]) rfl rfl rfl rfl (by decide +kernel) rfl rfl ?_
  refine l_goto (p' := 28) rfl rfl rfl ?_
  refine l_ild (p' := 30) rfl rfl rfl rfl ?_
  refine l_alds (p' := 31) rfl rfl rfl rfl ?_
  refine l_lens (p' := 32) rfl rfl rfl ?_
  refine l_con (p' := 33) rfl rfl rfl ?_
  refine l_bz (p' := 34) (z := (nI 0)) rfl rfl rfl rfl rfl (by decide +kernel) ?_
  refine l_icmp (p' := 2547) true rfl rfl (by decide +kernel) rfl ?_
  refine l_con (p' := 2548) rfl rfl rfl ?_
  refine l_end rfl rfl ?_
  exact ⟨Nat.le_trans (Nat.le_of_eq (len_s (len_a HL rfl))) (Nat.le_of_ble_eq_true rfl), Nat.le_trans (sz_s rfl (rd_app H400) rfl (sz_aa (k := 6) (m := 20006) rfl rfl HZ)) (Nat.le_of_ble_eq_true rfl)⟩
theorem p1_14_p0 {xs : Nat → Int32} {h : mj_H} (hk : xs 0 &&& nI 63 = nI 14) {p : Int32} (hx1 : xs 1 = p) {y : Int32} (hx2 : xs 2 = y) (hp : 0 ≤ p.toInt) (hy : y.toInt = 0) (HL : h.length = 414) (HZ : mj_sz h ≤ 20000) (H0 : mj_rd h 0 = some (.inr (0, [.ref 1, .ref 38, .ref 299, .ref 336, .ref 373, .ref 375, .ref 378, .ref 381, .ref 387, .ref 393, .null, .null, .ref 397, .ref 398, .ref 399, .long (lN 0), .long (lN 0)]))) (H38 : mj_rd h 38 = some (.inr (6, [.ref 39, .ref 40, .int (nI 0)]))) (H400 : mj_rd h 400 = some (.inr (17, [.int (nI 0), .ref 401, .ref 402, .ref 1000300, .long (lN 0), .long (lN 0), .ref 410, .null, .null, .null, .ref 411]))) (H401 : mj_rd h 401 = some (.inr (18, [.ref 1000000, .int (nI 0), .int (nI 0)]))) : mj_fin 4 xs h := by
  unfold mj_fin
  refine l_ild (p' := 30) rfl rfl rfl rfl ?_
  refine l_alds (p' := 31) rfl rfl rfl rfl ?_
  refine l_lens (p' := 32) rfl rfl rfl ?_
  refine l_con (p' := 33) rfl rfl rfl ?_
  refine l_bz (p' := 34) (z := (nI 0)) rfl rfl rfl rfl rfl (by decide +kernel) ?_
  refine l_icmp (p' := 37) false rfl rfl (by decide +kernel) rfl ?_
  refine l_alds (p' := 38) rfl rfl rfl rfl ?_
  refine l_ild (p' := 40) rfl rfl rfl rfl ?_
  refine l_ialz (p' := 41) (m := 0) (z := (xs 0)) rfl rfl (by decide +kernel) rfl rfl rfl ?_
  refine l_bip (p' := 43) rfl rfl rfl ?_
  refine l_bz (p' := 44) (z := (nI 14)) rfl rfl rfl rfl rfl hk ?_
  refine l_sp (p' := 964) (ls' := _) rfl rfl rfl rfl rfl ?_
  refine l_aldn (p' := 965) rfl rfl rfl rfl ?_
  refine l_alds (p' := 966) rfl rfl rfl rfl ?_
  refine l_ild (p' := 968) rfl rfl rfl rfl ?_
  refine l_con (p' := 969) rfl rfl rfl ?_
  refine l_bz (p' := 970) (z := (nI 1)) rfl rfl rfl rfl rfl (by decide +kernel) ?_
  refine l_ialz (p' := 971) (m := 1) (z := p) rfl rfl (by decide +kernel) rfl hx1 rfl ?_
  refine l_alds (p' := 972) rfl rfl rfl rfl ?_
  refine l_ild (p' := 974) rfl rfl rfl rfl ?_
  refine l_con (p' := 975) rfl rfl rfl ?_
  refine l_bz (p' := 976) (z := (nI 2)) rfl rfl rfl rfl rfl (by decide +kernel) ?_
  refine l_ialz (p' := 977) (m := 2) (z := y) rfl rfl (by decide +kernel) rfl hx2 rfl ?_
  refine l_if (p' := 984) true rfl rfl ((cg_eq (w := 0) (by decide +kernel)).trans (decide_eq_true (by omega))) rfl ?_
  refine l_con (p' := 985) rfl rfl rfl ?_
  refine l_aldn (p' := 986) rfl rfl rfl rfl ?_
  refine l_call (p' := 989) (kc := 99) (ls0 := [_, _, _, _, _]) rfl rfl rfl rfl rfl rfl rfl rfl rfl rfl ?_
  refine s_aldn (p' := 1) rfl rfl rfl ?_
  refine s_con (p' := 2) rfl rfl ?_
  refine s_aldn (p' := 3) rfl rfl rfl ?_
  refine s_ildn (p' := 4) rfl rfl rfl ?_
  refine s_ildn (p' := 5) rfl rfl rfl ?_
  refine c_call (p' := 8) (kc := 98) (ls0 := [_, _, _]) rfl rfl rfl rfl rfl (mj_rcv_is H0) rfl rfl rfl ?_
  refine s_aldn (p' := 1) rfl rfl rfl ?_
  refine s_gf (p' := 4) rfl H0 rfl rfl ?_
  refine s_ildn (p' := 5) rfl rfl rfl ?_
  refine c_call (p' := 8) (kc := 97) (ls0 := [_, _]) rfl rfl rfl rfl rfl (mj_rcv_is H38) rfl rfl rfl ?_
  refine s_ildn (p' := 1) rfl rfl rfl ?_
  refine s_if (p' := 4) false rfl ((cg_lt (w := 0) (by decide +kernel)).trans (decide_eq_false (by omega))) rfl ?_
  refine s_ildn (p' := 5) rfl rfl rfl ?_
  refine s_aldn (p' := 6) rfl rfl rfl ?_
  refine s_gf (p' := 9) rfl H38 rfl rfl ?_
  refine s_icmp (p' := 16) true rfl ((cg_ge (w := 0) (by decide +kernel)).trans (decide_eq_true (by omega))) rfl ?_
  refine s_con (p' := 17) rfl rfl ?_
  refine c_iret rfl (by decide +kernel) ?_
  refine s_if (p' := 11) false rfl (by decide +kernel) rfl ?_
  refine s_thrz (q := 414) rfl HL rfl ?_
  refine K_c (hp := 13) rfl (mj_ocl_is (rd_nw rfl HL)) rfl ?_
  refine s_ast (p' := 15) (ls' := [_, _, _, _, _]) rfl rfl rfl rfl ?_
  refine s_con (p' := 16) rfl rfl ?_
  refine k_iret rfl rfl ?_
  refine l_ist (p' := 991) (ls' := [_, _, _, _, _, _, _, _, _, _]) rfl rfl rfl rfl rfl ?_
  refine l_aldn (p' := 992) rfl rfl rfl rfl ?_
  refine l_alds (p' := 993) rfl rfl rfl rfl ?_
  refine l_ild (p' := 995) rfl rfl rfl rfl ?_
  refine l_con (p' := 996) rfl rfl rfl ?_
  refine l_bz (p' := 997) (z := (nI 1)) rfl rfl rfl rfl rfl (by decide +kernel) ?_
  refine l_ialz (p' := 998) (m := 1) (z := p) rfl rfl (by decide +kernel) rfl hx1 rfl ?_
  refine l_alds (p' := 999) rfl rfl rfl rfl ?_
  refine l_ild (p' := 1001) rfl rfl rfl rfl ?_
  refine l_con (p' := 1002) rfl rfl rfl ?_
  refine l_bz (p' := 1003) (z := (nI 2)) rfl rfl rfl rfl rfl (by decide +kernel) ?_
  refine l_ialz (p' := 1004) (m := 2) (z := y) rfl rfl (by decide +kernel) rfl hx2 rfl ?_
  refine l_if (p' := 1011) true rfl rfl ((cg_eq (w := 0) (by decide +kernel)).trans (decide_eq_true (by omega))) rfl ?_
  refine l_con (p' := 1012) rfl rfl rfl ?_
  refine l_call (p' := 1015) (kc := 99) (ls0 := [_, _, _]) rfl rfl rfl rfl rfl rfl (mj_rcv_is (rd_app H400)) rfl rfl rfl ?_
  refine s_aldn (p' := 1) rfl rfl rfl ?_
  refine s_aldn (p' := 2) rfl rfl rfl ?_
  refine s_ildn (p' := 3) rfl rfl rfl ?_
  refine c_call (p' := 6) (kc := 98) (ls0 := [_, _]) rfl rfl rfl rfl rfl (mj_rcv_is (rd_app H400)) rfl rfl rfl ?_
  refine s_ildn (p' := 1) rfl rfl rfl ?_
  refine s_con (p' := 2) rfl rfl ?_
  refine s_aldn (p' := 3) rfl rfl rfl ?_
  refine s_gf (p' := 6) rfl (rd_app H400) rfl rfl ?_
  refine c_call (p' := 11) (kc := 97) (ls0 := [_]) rfl rfl rfl rfl rfl (mj_rcv_is (rd_app H401)) rfl rfl rfl ?_
  refine s_aldn (p' := 1) rfl rfl rfl ?_
  refine s_gf (p' := 4) rfl (rd_app H401) rfl rfl ?_
  refine c_iret rfl rfl ?_
  refine s_con (p' := 12) rfl rfl ?_
  refine s_bz (p' := 13) (z := (nI 4294967295)) rfl rfl rfl (by decide +kernel) ?_
  refine c_call (p' := 16) (kc := 97) (ls0 := [_, _, _]) rfl rfl rfl rfl rfl rfl rfl rfl rfl ?_
  refine s_ildn (p' := 1) rfl rfl rfl ?_
  refine s_ildn (p' := 2) rfl rfl rfl ?_
  refine s_icmp (p' := 5) false rfl ((ch_gt (w := 0) (by decide +kernel)).trans (decide_eq_false (by omega))) rfl ?_
  refine s_ildn (p' := 6) rfl rfl rfl ?_
  refine s_ildn (p' := 7) rfl rfl rfl ?_
  refine s_icmp (p' := 14) true rfl ((cg_gt (w := -1) (by decide +kernel)).trans (decide_eq_true (by omega))) rfl ?_
  refine s_con (p' := 15) rfl rfl ?_
  refine c_iret rfl (by decide +kernel) ?_
  refine c_iret rfl (by decide +kernel) ?_
  refine s_if (p' := 13) true rfl (by decide +kernel) rfl ?_
  refine s_con (p' := 14) rfl rfl ?_
  refine c_call (p' := 17) (kc := 98) (ls0 := [_, _]) rfl rfl rfl rfl rfl (mj_rcv_is (rd_app H400)) rfl rfl rfl ?_
  refine s_aldn (p' := 1) rfl rfl rfl ?_
  refine s_ildn (p' := 2) rfl rfl rfl ?_
  refine s_pfz (p' := 5) (fs' := [_, _, _, _, _, _, _, _, _, _, _]) rfl rfl (rd_app H400) rfl rfl rfl rfl ?_
  refine s_ildn (p' := 6) rfl rfl rfl ?_
  refine s_if (p' := 9) false rfl (by decide +kernel) rfl ?_
  refine s_con (p' := 10) rfl rfl ?_
  refine s_goto (p' := 14) rfl rfl ?_
  refine c_iret rfl (by decide +kernel) ?_
  refine s_if (p' := 20) false rfl (by decide +kernel) rfl ?_
  refine s_con (p' := 21) rfl rfl ?_
  refine k_iret rfl rfl ?_
  refine l_ist (p' := 1017) (ls' := [_, _, _, _, _, _, _, _, _, _]) rfl rfl rfl rfl rfl ?_
  refine l_aldn (p' := 1018) rfl rfl rfl rfl ?_
  refine l_call (p' := 1021) (kc := 99) (ls0 := [_]) rfl rfl rfl rfl rfl rfl (mj_rcv_is (rd_ss rfl (rd_app H400))) rfl rfl rfl ?_
  refine s_aldn (p' := 1) rfl rfl rfl ?_
  refine s_gf (p' := 4) rfl (rd_ss rfl (rd_app H400)) rfl rfl ?_
  refine k_iret rfl rfl ?_
  refine l_ild (p' := 1023) rfl rfl rfl rfl ?_
  refine l_icmp (p' := 1028) true rfl rfl (by decide +kernel) rfl ?_
  refine l_ild (p' := 1030) rfl rfl rfl rfl ?_
  refine l_if (p' := 1045) true rfl rfl (by decide +kernel) rfl ?_
  refine l_goto (p' := 2541) rfl rfl rfl ?_
  refine l_incz (p' := 2544) (w := (nI 4)) (ls' := [_, _, _, _, _, _, _, _, _, _]) rfl rfl rfl rfl (by decide +kernel) rfl rfl ?_
  refine l_goto (p' := 28) rfl rfl rfl ?_
  refine l_ild (p' := 30) rfl rfl rfl rfl ?_
  refine l_alds (p' := 31) rfl rfl rfl rfl ?_
  refine l_lens (p' := 32) rfl rfl rfl ?_
  refine l_con (p' := 33) rfl rfl rfl ?_
  refine l_bz (p' := 34) (z := (nI 0)) rfl rfl rfl rfl rfl (by decide +kernel) ?_
  refine l_icmp (p' := 2547) true rfl rfl (by decide +kernel) rfl ?_
  refine l_con (p' := 2548) rfl rfl rfl ?_
  refine l_end rfl rfl ?_
  exact ⟨Nat.le_trans (Nat.le_of_eq (len_s (len_a HL rfl))) (Nat.le_of_ble_eq_true rfl), Nat.le_trans (sz_s rfl (rd_app H400) rfl (sz_aa (k := 6) (m := 20006) rfl rfl HZ)) (Nat.le_of_ble_eq_true rfl)⟩
theorem p1_14_n1 {xs : Nat → Int32} {h : mj_H} (hk : xs 0 &&& nI 63 = nI 14) {p : Int32} (hx1 : xs 1 = p) {y : Int32} (hx2 : xs 2 = y) (hp : p.toInt < 0) (hy : ¬ y.toInt = 0) (HL : h.length = 414) (HZ : mj_sz h ≤ 20000) (H0 : mj_rd h 0 = some (.inr (0, [.ref 1, .ref 38, .ref 299, .ref 336, .ref 373, .ref 375, .ref 378, .ref 381, .ref 387, .ref 393, .null, .null, .ref 397, .ref 398, .ref 399, .long (lN 0), .long (lN 0)]))) (H38 : mj_rd h 38 = some (.inr (6, [.ref 39, .ref 40, .int (nI 0)]))) (H400 : mj_rd h 400 = some (.inr (17, [.int (nI 0), .ref 401, .ref 402, .ref 1000300, .long (lN 0), .long (lN 0), .ref 410, .null, .null, .null, .ref 411]))) (H401 : mj_rd h 401 = some (.inr (18, [.ref 1000000, .int (nI 0), .int (nI 0)]))) : mj_fin 4 xs h := by
  unfold mj_fin
  refine l_ild (p' := 30) rfl rfl rfl rfl ?_
  refine l_alds (p' := 31) rfl rfl rfl rfl ?_
  refine l_lens (p' := 32) rfl rfl rfl ?_
  refine l_con (p' := 33) rfl rfl rfl ?_
  refine l_bz (p' := 34) (z := (nI 0)) rfl rfl rfl rfl rfl (by decide +kernel) ?_
  refine l_icmp (p' := 37) false rfl rfl (by decide +kernel) rfl ?_
  refine l_alds (p' := 38) rfl rfl rfl rfl ?_
  refine l_ild (p' := 40) rfl rfl rfl rfl ?_
  refine l_ialz (p' := 41) (m := 0) (z := (xs 0)) rfl rfl (by decide +kernel) rfl rfl rfl ?_
  refine l_bip (p' := 43) rfl rfl rfl ?_
  refine l_bz (p' := 44) (z := (nI 14)) rfl rfl rfl rfl rfl hk ?_
  refine l_sp (p' := 964) (ls' := _) rfl rfl rfl rfl rfl ?_
  refine l_aldn (p' := 965) rfl rfl rfl rfl ?_
  refine l_alds (p' := 966) rfl rfl rfl rfl ?_
  refine l_ild (p' := 968) rfl rfl rfl rfl ?_
  refine l_con (p' := 969) rfl rfl rfl ?_
  refine l_bz (p' := 970) (z := (nI 1)) rfl rfl rfl rfl rfl (by decide +kernel) ?_
  refine l_ialz (p' := 971) (m := 1) (z := p) rfl rfl (by decide +kernel) rfl hx1 rfl ?_
  refine l_alds (p' := 972) rfl rfl rfl rfl ?_
  refine l_ild (p' := 974) rfl rfl rfl rfl ?_
  refine l_con (p' := 975) rfl rfl rfl ?_
  refine l_bz (p' := 976) (z := (nI 2)) rfl rfl rfl rfl rfl (by decide +kernel) ?_
  refine l_ialz (p' := 977) (m := 2) (z := y) rfl rfl (by decide +kernel) rfl hx2 rfl ?_
  refine l_if (p' := 980) false rfl rfl ((cg_eq (w := 0) (by decide +kernel)).trans (decide_eq_false (by omega))) rfl ?_
  refine l_con (p' := 981) rfl rfl rfl ?_
  refine l_goto (p' := 985) rfl rfl rfl ?_
  refine l_aldn (p' := 986) rfl rfl rfl rfl ?_
  refine l_call (p' := 989) (kc := 99) (ls0 := [_, _, _, _, _]) rfl rfl rfl rfl rfl rfl rfl rfl rfl rfl ?_
  refine s_aldn (p' := 1) rfl rfl rfl ?_
  refine s_con (p' := 2) rfl rfl ?_
  refine s_aldn (p' := 3) rfl rfl rfl ?_
  refine s_ildn (p' := 4) rfl rfl rfl ?_
  refine s_ildn (p' := 5) rfl rfl rfl ?_
  refine c_call (p' := 8) (kc := 98) (ls0 := [_, _, _]) rfl rfl rfl rfl rfl (mj_rcv_is H0) rfl rfl rfl ?_
  refine s_aldn (p' := 1) rfl rfl rfl ?_
  refine s_gf (p' := 4) rfl H0 rfl rfl ?_
  refine s_ildn (p' := 5) rfl rfl rfl ?_
  refine c_call (p' := 8) (kc := 97) (ls0 := [_, _]) rfl rfl rfl rfl rfl (mj_rcv_is H38) rfl rfl rfl ?_
  refine s_ildn (p' := 1) rfl rfl rfl ?_
  refine s_if (p' := 16) true rfl ((cg_lt (w := 0) (by decide +kernel)).trans (decide_eq_true (by omega))) rfl ?_
  refine s_con (p' := 17) rfl rfl ?_
  refine c_iret rfl (by decide +kernel) ?_
  refine s_if (p' := 11) false rfl (by decide +kernel) rfl ?_
  refine s_thrz (q := 414) rfl HL rfl ?_
  refine K_c (hp := 13) rfl (mj_ocl_is (rd_nw rfl HL)) rfl ?_
  refine s_ast (p' := 15) (ls' := [_, _, _, _, _]) rfl rfl rfl rfl ?_
  refine s_con (p' := 16) rfl rfl ?_
  refine k_iret rfl rfl ?_
  refine l_ist (p' := 991) (ls' := [_, _, _, _, _, _, _, _, _, _]) rfl rfl rfl rfl rfl ?_
  refine l_aldn (p' := 992) rfl rfl rfl rfl ?_
  refine l_alds (p' := 993) rfl rfl rfl rfl ?_
  refine l_ild (p' := 995) rfl rfl rfl rfl ?_
  refine l_con (p' := 996) rfl rfl rfl ?_
  refine l_bz (p' := 997) (z := (nI 1)) rfl rfl rfl rfl rfl (by decide +kernel) ?_
  refine l_ialz (p' := 998) (m := 1) (z := p) rfl rfl (by decide +kernel) rfl hx1 rfl ?_
  refine l_alds (p' := 999) rfl rfl rfl rfl ?_
  refine l_ild (p' := 1001) rfl rfl rfl rfl ?_
  refine l_con (p' := 1002) rfl rfl rfl ?_
  refine l_bz (p' := 1003) (z := (nI 2)) rfl rfl rfl rfl rfl (by decide +kernel) ?_
  refine l_ialz (p' := 1004) (m := 2) (z := y) rfl rfl (by decide +kernel) rfl hx2 rfl ?_
  refine l_if (p' := 1007) false rfl rfl ((cg_eq (w := 0) (by decide +kernel)).trans (decide_eq_false (by omega))) rfl ?_
  refine l_con (p' := 1008) rfl rfl rfl ?_
  refine l_goto (p' := 1012) rfl rfl rfl ?_
  refine l_call (p' := 1015) (kc := 99) (ls0 := [_, _, _]) rfl rfl rfl rfl rfl rfl (mj_rcv_is (rd_app H400)) rfl rfl rfl ?_
  refine s_aldn (p' := 1) rfl rfl rfl ?_
  refine s_aldn (p' := 2) rfl rfl rfl ?_
  refine s_ildn (p' := 3) rfl rfl rfl ?_
  refine c_call (p' := 6) (kc := 98) (ls0 := [_, _]) rfl rfl rfl rfl rfl (mj_rcv_is (rd_app H400)) rfl rfl rfl ?_
  refine s_ildn (p' := 1) rfl rfl rfl ?_
  refine s_con (p' := 2) rfl rfl ?_
  refine s_aldn (p' := 3) rfl rfl rfl ?_
  refine s_gf (p' := 6) rfl (rd_app H400) rfl rfl ?_
  refine c_call (p' := 11) (kc := 97) (ls0 := [_]) rfl rfl rfl rfl rfl (mj_rcv_is (rd_app H401)) rfl rfl rfl ?_
  refine s_aldn (p' := 1) rfl rfl rfl ?_
  refine s_gf (p' := 4) rfl (rd_app H401) rfl rfl ?_
  refine c_iret rfl rfl ?_
  refine s_con (p' := 12) rfl rfl ?_
  refine s_bz (p' := 13) (z := (nI 4294967295)) rfl rfl rfl (by decide +kernel) ?_
  refine c_call (p' := 16) (kc := 97) (ls0 := [_, _, _]) rfl rfl rfl rfl rfl rfl rfl rfl rfl ?_
  refine s_ildn (p' := 1) rfl rfl rfl ?_
  refine s_ildn (p' := 2) rfl rfl rfl ?_
  refine s_icmp (p' := 14) true rfl ((ch_gt (w := 0) (by decide +kernel)).trans (decide_eq_true (by omega))) rfl ?_
  refine s_con (p' := 15) rfl rfl ?_
  refine c_iret rfl (by decide +kernel) ?_
  refine c_iret rfl (by decide +kernel) ?_
  refine s_if (p' := 13) true rfl (by decide +kernel) rfl ?_
  refine s_con (p' := 14) rfl rfl ?_
  refine c_call (p' := 17) (kc := 98) (ls0 := [_, _]) rfl rfl rfl rfl rfl (mj_rcv_is (rd_app H400)) rfl rfl rfl ?_
  refine s_aldn (p' := 1) rfl rfl rfl ?_
  refine s_ildn (p' := 2) rfl rfl rfl ?_
  refine s_pfz (p' := 5) (fs' := [_, _, _, _, _, _, _, _, _, _, _]) rfl rfl (rd_app H400) rfl rfl rfl rfl ?_
  refine s_ildn (p' := 6) rfl rfl rfl ?_
  refine s_if (p' := 9) false rfl (by decide +kernel) rfl ?_
  refine s_con (p' := 10) rfl rfl ?_
  refine s_goto (p' := 14) rfl rfl ?_
  refine c_iret rfl (by decide +kernel) ?_
  refine s_if (p' := 20) false rfl (by decide +kernel) rfl ?_
  refine s_con (p' := 21) rfl rfl ?_
  refine k_iret rfl rfl ?_
  refine l_ist (p' := 1017) (ls' := [_, _, _, _, _, _, _, _, _, _]) rfl rfl rfl rfl rfl ?_
  refine l_aldn (p' := 1018) rfl rfl rfl rfl ?_
  refine l_call (p' := 1021) (kc := 99) (ls0 := [_]) rfl rfl rfl rfl rfl rfl (mj_rcv_is (rd_ss rfl (rd_app H400))) rfl rfl rfl ?_
  refine s_aldn (p' := 1) rfl rfl rfl ?_
  refine s_gf (p' := 4) rfl (rd_ss rfl (rd_app H400)) rfl rfl ?_
  refine k_iret rfl rfl ?_
  refine l_ild (p' := 1023) rfl rfl rfl rfl ?_
  refine l_icmp (p' := 1028) true rfl rfl (by decide +kernel) rfl ?_
  refine l_ild (p' := 1030) rfl rfl rfl rfl ?_
  refine l_if (p' := 1045) true rfl rfl (by decide +kernel) rfl ?_
  refine l_goto (p' := 2541) rfl rfl rfl ?_
  refine l_incz (p' := 2544) (w := (nI 4)) (ls' := [_, _, _, _, _, _, _, _, _, _]) rfl rfl rfl rfl (by decide +kernel) rfl rfl ?_
  refine l_goto (p' := 28) rfl rfl rfl ?_
  refine l_ild (p' := 30) rfl rfl rfl rfl ?_
  refine l_alds (p' := 31) rfl rfl rfl rfl ?_
  refine l_lens (p' := 32) rfl rfl rfl ?_
  refine l_con (p' := 33) rfl rfl rfl ?_
  refine l_bz (p' := 34) (z := (nI 0)) rfl rfl rfl rfl rfl (by decide +kernel) ?_
  refine l_icmp (p' := 2547) true rfl rfl (by decide +kernel) rfl ?_
  refine l_con (p' := 2548) rfl rfl rfl ?_
  refine l_end rfl rfl ?_
  exact ⟨Nat.le_trans (Nat.le_of_eq (len_s (len_a HL rfl))) (Nat.le_of_ble_eq_true rfl), Nat.le_trans (sz_s rfl (rd_app H400) rfl (sz_aa (k := 6) (m := 20006) rfl rfl HZ)) (Nat.le_of_ble_eq_true rfl)⟩
theorem p1_14_p1 {xs : Nat → Int32} {h : mj_H} (hk : xs 0 &&& nI 63 = nI 14) {p : Int32} (hx1 : xs 1 = p) {y : Int32} (hx2 : xs 2 = y) (hp : 0 ≤ p.toInt) (hy : ¬ y.toInt = 0) (HL : h.length = 414) (HZ : mj_sz h ≤ 20000) (H0 : mj_rd h 0 = some (.inr (0, [.ref 1, .ref 38, .ref 299, .ref 336, .ref 373, .ref 375, .ref 378, .ref 381, .ref 387, .ref 393, .null, .null, .ref 397, .ref 398, .ref 399, .long (lN 0), .long (lN 0)]))) (H38 : mj_rd h 38 = some (.inr (6, [.ref 39, .ref 40, .int (nI 0)]))) (H400 : mj_rd h 400 = some (.inr (17, [.int (nI 0), .ref 401, .ref 402, .ref 1000300, .long (lN 0), .long (lN 0), .ref 410, .null, .null, .null, .ref 411]))) (H401 : mj_rd h 401 = some (.inr (18, [.ref 1000000, .int (nI 0), .int (nI 0)]))) : mj_fin 4 xs h := by
  unfold mj_fin
  refine l_ild (p' := 30) rfl rfl rfl rfl ?_
  refine l_alds (p' := 31) rfl rfl rfl rfl ?_
  refine l_lens (p' := 32) rfl rfl rfl ?_
  refine l_con (p' := 33) rfl rfl rfl ?_
  refine l_bz (p' := 34) (z := (nI 0)) rfl rfl rfl rfl rfl (by decide +kernel) ?_
  refine l_icmp (p' := 37) false rfl rfl (by decide +kernel) rfl ?_
  refine l_alds (p' := 38) rfl rfl rfl rfl ?_
  refine l_ild (p' := 40) rfl rfl rfl rfl ?_
  refine l_ialz (p' := 41) (m := 0) (z := (xs 0)) rfl rfl (by decide +kernel) rfl rfl rfl ?_
  refine l_bip (p' := 43) rfl rfl rfl ?_
  refine l_bz (p' := 44) (z := (nI 14)) rfl rfl rfl rfl rfl hk ?_
  refine l_sp (p' := 964) (ls' := _) rfl rfl rfl rfl rfl ?_
  refine l_aldn (p' := 965) rfl rfl rfl rfl ?_
  refine l_alds (p' := 966) rfl rfl rfl rfl ?_
  refine l_ild (p' := 968) rfl rfl rfl rfl ?_
  refine l_con (p' := 969) rfl rfl rfl ?_
  refine l_bz (p' := 970) (z := (nI 1)) rfl rfl rfl rfl rfl (by decide +kernel) ?_
  refine l_ialz (p' := 971) (m := 1) (z := p) rfl rfl (by decide +kernel) rfl hx1 rfl ?_
  refine l_alds (p' := 972) rfl rfl rfl rfl ?_
  refine l_ild (p' := 974) rfl rfl rfl rfl ?_
  refine l_con (p' := 975) rfl rfl rfl ?_
  refine l_bz (p' := 976) (z := (nI 2)) rfl rfl rfl rfl rfl (by decide +kernel) ?_
  refine l_ialz (p' := 977) (m := 2) (z := y) rfl rfl (by decide +kernel) rfl hx2 rfl ?_
  refine l_if (p' := 980) false rfl rfl ((cg_eq (w := 0) (by decide +kernel)).trans (decide_eq_false (by omega))) rfl ?_
  refine l_con (p' := 981) rfl rfl rfl ?_
  refine l_goto (p' := 985) rfl rfl rfl ?_
  refine l_aldn (p' := 986) rfl rfl rfl rfl ?_
  refine l_call (p' := 989) (kc := 99) (ls0 := [_, _, _, _, _]) rfl rfl rfl rfl rfl rfl rfl rfl rfl rfl ?_
  refine s_aldn (p' := 1) rfl rfl rfl ?_
  refine s_con (p' := 2) rfl rfl ?_
  refine s_aldn (p' := 3) rfl rfl rfl ?_
  refine s_ildn (p' := 4) rfl rfl rfl ?_
  refine s_ildn (p' := 5) rfl rfl rfl ?_
  refine c_call (p' := 8) (kc := 98) (ls0 := [_, _, _]) rfl rfl rfl rfl rfl (mj_rcv_is H0) rfl rfl rfl ?_
  refine s_aldn (p' := 1) rfl rfl rfl ?_
  refine s_gf (p' := 4) rfl H0 rfl rfl ?_
  refine s_ildn (p' := 5) rfl rfl rfl ?_
  refine c_call (p' := 8) (kc := 97) (ls0 := [_, _]) rfl rfl rfl rfl rfl (mj_rcv_is H38) rfl rfl rfl ?_
  refine s_ildn (p' := 1) rfl rfl rfl ?_
  refine s_if (p' := 4) false rfl ((cg_lt (w := 0) (by decide +kernel)).trans (decide_eq_false (by omega))) rfl ?_
  refine s_ildn (p' := 5) rfl rfl rfl ?_
  refine s_aldn (p' := 6) rfl rfl rfl ?_
  refine s_gf (p' := 9) rfl H38 rfl rfl ?_
  refine s_icmp (p' := 16) true rfl ((cg_ge (w := 0) (by decide +kernel)).trans (decide_eq_true (by omega))) rfl ?_
  refine s_con (p' := 17) rfl rfl ?_
  refine c_iret rfl (by decide +kernel) ?_
  refine s_if (p' := 11) false rfl (by decide +kernel) rfl ?_
  refine s_thrz (q := 414) rfl HL rfl ?_
  refine K_c (hp := 13) rfl (mj_ocl_is (rd_nw rfl HL)) rfl ?_
  refine s_ast (p' := 15) (ls' := [_, _, _, _, _]) rfl rfl rfl rfl ?_
  refine s_con (p' := 16) rfl rfl ?_
  refine k_iret rfl rfl ?_
  refine l_ist (p' := 991) (ls' := [_, _, _, _, _, _, _, _, _, _]) rfl rfl rfl rfl rfl ?_
  refine l_aldn (p' := 992) rfl rfl rfl rfl ?_
  refine l_alds (p' := 993) rfl rfl rfl rfl ?_
  refine l_ild (p' := 995) rfl rfl rfl rfl ?_
  refine l_con (p' := 996) rfl rfl rfl ?_
  refine l_bz (p' := 997) (z := (nI 1)) rfl rfl rfl rfl rfl (by decide +kernel) ?_
  refine l_ialz (p' := 998) (m := 1) (z := p) rfl rfl (by decide +kernel) rfl hx1 rfl ?_
  refine l_alds (p' := 999) rfl rfl rfl rfl ?_
  refine l_ild (p' := 1001) rfl rfl rfl rfl ?_
  refine l_con (p' := 1002) rfl rfl rfl ?_
  refine l_bz (p' := 1003) (z := (nI 2)) rfl rfl rfl rfl rfl (by decide +kernel) ?_
  refine l_ialz (p' := 1004) (m := 2) (z := y) rfl rfl (by decide +kernel) rfl hx2 rfl ?_
  refine l_if (p' := 1007) false rfl rfl ((cg_eq (w := 0) (by decide +kernel)).trans (decide_eq_false (by omega))) rfl ?_
  refine l_con (p' := 1008) rfl rfl rfl ?_
  refine l_goto (p' := 1012) rfl rfl rfl ?_
  refine l_call (p' := 1015) (kc := 99) (ls0 := [_, _, _]) rfl rfl rfl rfl rfl rfl (mj_rcv_is (rd_app H400)) rfl rfl rfl ?_
  refine s_aldn (p' := 1) rfl rfl rfl ?_
  refine s_aldn (p' := 2) rfl rfl rfl ?_
  refine s_ildn (p' := 3) rfl rfl rfl ?_
  refine c_call (p' := 6) (kc := 98) (ls0 := [_, _]) rfl rfl rfl rfl rfl (mj_rcv_is (rd_app H400)) rfl rfl rfl ?_
  refine s_ildn (p' := 1) rfl rfl rfl ?_
  refine s_con (p' := 2) rfl rfl ?_
  refine s_aldn (p' := 3) rfl rfl rfl ?_
  refine s_gf (p' := 6) rfl (rd_app H400) rfl rfl ?_
  refine c_call (p' := 11) (kc := 97) (ls0 := [_]) rfl rfl rfl rfl rfl (mj_rcv_is (rd_app H401)) rfl rfl rfl ?_
  refine s_aldn (p' := 1) rfl rfl rfl ?_
  refine s_gf (p' := 4) rfl (rd_app H401) rfl rfl ?_
  refine c_iret rfl rfl ?_
  refine s_con (p' := 12) rfl rfl ?_
  refine s_bz (p' := 13) (z := (nI 4294967295)) rfl rfl rfl (by decide +kernel) ?_
  refine c_call (p' := 16) (kc := 97) (ls0 := [_, _, _]) rfl rfl rfl rfl rfl rfl rfl rfl rfl ?_
  refine s_ildn (p' := 1) rfl rfl rfl ?_
  refine s_ildn (p' := 2) rfl rfl rfl ?_
  refine s_icmp (p' := 5) false rfl ((ch_gt (w := 0) (by decide +kernel)).trans (decide_eq_false (by omega))) rfl ?_
  refine s_ildn (p' := 6) rfl rfl rfl ?_
  refine s_ildn (p' := 7) rfl rfl rfl ?_
  refine s_icmp (p' := 14) true rfl ((cg_gt (w := -1) (by decide +kernel)).trans (decide_eq_true (by omega))) rfl ?_
  refine s_con (p' := 15) rfl rfl ?_
  refine c_iret rfl (by decide +kernel) ?_
  refine c_iret rfl (by decide +kernel) ?_
  refine s_if (p' := 13) true rfl (by decide +kernel) rfl ?_
  refine s_con (p' := 14) rfl rfl ?_
  refine c_call (p' := 17) (kc := 98) (ls0 := [_, _]) rfl rfl rfl rfl rfl (mj_rcv_is (rd_app H400)) rfl rfl rfl ?_
  refine s_aldn (p' := 1) rfl rfl rfl ?_
  refine s_ildn (p' := 2) rfl rfl rfl ?_
  refine s_pfz (p' := 5) (fs' := [_, _, _, _, _, _, _, _, _, _, _]) rfl rfl (rd_app H400) rfl rfl rfl rfl ?_
  refine s_ildn (p' := 6) rfl rfl rfl ?_
  refine s_if (p' := 9) false rfl (by decide +kernel) rfl ?_
  refine s_con (p' := 10) rfl rfl ?_
  refine s_goto (p' := 14) rfl rfl ?_
  refine c_iret rfl (by decide +kernel) ?_
  refine s_if (p' := 20) false rfl (by decide +kernel) rfl ?_
  refine s_con (p' := 21) rfl rfl ?_
  refine k_iret rfl rfl ?_
  refine l_ist (p' := 1017) (ls' := [_, _, _, _, _, _, _, _, _, _]) rfl rfl rfl rfl rfl ?_
  refine l_aldn (p' := 1018) rfl rfl rfl rfl ?_
  refine l_call (p' := 1021) (kc := 99) (ls0 := [_]) rfl rfl rfl rfl rfl rfl (mj_rcv_is (rd_ss rfl (rd_app H400))) rfl rfl rfl ?_
  refine s_aldn (p' := 1) rfl rfl rfl ?_
  refine s_gf (p' := 4) rfl (rd_ss rfl (rd_app H400)) rfl rfl ?_
  refine k_iret rfl rfl ?_
  refine l_ild (p' := 1023) rfl rfl rfl rfl ?_
  refine l_icmp (p' := 1028) true rfl rfl (by decide +kernel) rfl ?_
  refine l_ild (p' := 1030) rfl rfl rfl rfl ?_
  refine l_if (p' := 1045) true rfl rfl (by decide +kernel) rfl ?_
  refine l_goto (p' := 2541) rfl rfl rfl ?_
  refine l_incz (p' := 2544) (w := (nI 4)) (ls' := [_, _, _, _, _, _, _, _, _, _]) rfl rfl rfl rfl (by decide +kernel) rfl rfl ?_
  refine l_goto (p' := 28) rfl rfl rfl ?_
  refine l_ild (p' := 30) rfl rfl rfl rfl ?_
  refine l_alds (p' := 31) rfl rfl rfl rfl ?_
  refine l_lens (p' := 32) rfl rfl rfl ?_
  refine l_con (p' := 33) rfl rfl rfl ?_
  refine l_bz (p' := 34) (z := (nI 0)) rfl rfl rfl rfl rfl (by decide +kernel) ?_
  refine l_icmp (p' := 2547) true rfl rfl (by decide +kernel) rfl ?_
  refine l_con (p' := 2548) rfl rfl rfl ?_
  refine l_end rfl rfl ?_
  exact ⟨Nat.le_trans (Nat.le_of_eq (len_s (len_a HL rfl))) (Nat.le_of_ble_eq_true rfl), Nat.le_trans (sz_s rfl (rd_app H400) rfl (sz_aa (k := 6) (m := 20006) rfl rfl HZ)) (Nat.le_of_ble_eq_true rfl)⟩
theorem p1_23_n0 {xs : Nat → Int32} {h : mj_H} (hk : xs 0 &&& nI 63 = nI 23) {p : Int32} (hx1 : xs 1 = p) {y : Int32} (hx2 : xs 2 = y) (hp : p.toInt < 0) (hy : y.toInt = 0) (HL : h.length = 414) (HZ : mj_sz h ≤ 20000) (H0 : mj_rd h 0 = some (.inr (0, [.ref 1, .ref 38, .ref 299, .ref 336, .ref 373, .ref 375, .ref 378, .ref 381, .ref 387, .ref 393, .null, .null, .ref 397, .ref 398, .ref 399, .long (lN 0), .long (lN 0)]))) (H38 : mj_rd h 38 = some (.inr (6, [.ref 39, .ref 40, .int (nI 0)]))) (H400 : mj_rd h 400 = some (.inr (17, [.int (nI 0), .ref 401, .ref 402, .ref 1000300, .long (lN 0), .long (lN 0), .ref 410, .null, .null, .null, .ref 411]))) (H401 : mj_rd h 401 = some (.inr (18, [.ref 1000000, .int (nI 0), .int (nI 0)]))) : mj_fin 4 xs h := by
  unfold mj_fin
  refine l_ild (p' := 30) rfl rfl rfl rfl ?_
  refine l_alds (p' := 31) rfl rfl rfl rfl ?_
  refine l_lens (p' := 32) rfl rfl rfl ?_
  refine l_con (p' := 33) rfl rfl rfl ?_
  refine l_bz (p' := 34) (z := (nI 0)) rfl rfl rfl rfl rfl (by decide +kernel) ?_
  refine l_icmp (p' := 37) false rfl rfl (by decide +kernel) rfl ?_
  refine l_alds (p' := 38) rfl rfl rfl rfl ?_
  refine l_ild (p' := 40) rfl rfl rfl rfl ?_
  refine l_ialz (p' := 41) (m := 0) (z := (xs 0)) rfl rfl (by decide +kernel) rfl rfl rfl ?_
  refine l_bip (p' := 43) rfl rfl rfl ?_
  refine l_bz (p' := 44) (z := (nI 23)) rfl rfl rfl rfl rfl hk ?_
  refine l_sp (p' := 1440) (ls' := _) rfl rfl rfl rfl rfl ?_
  refine l_aldn (p' := 1441) rfl rfl rfl rfl ?_
  refine l_alds (p' := 1442) rfl rfl rfl rfl ?_
  refine l_ild (p' := 1444) rfl rfl rfl rfl ?_
  refine l_con (p' := 1445) rfl rfl rfl ?_
  refine l_bz (p' := 1446) (z := (nI 1)) rfl rfl rfl rfl rfl (by decide +kernel) ?_
  refine l_ialz (p' := 1447) (m := 1) (z := p) rfl rfl (by decide +kernel) rfl hx1 rfl ?_
  refine l_alds (p' := 1448) rfl rfl rfl rfl ?_
  refine l_ild (p' := 1450) rfl rfl rfl rfl ?_
  refine l_con (p' := 1451) rfl rfl rfl ?_
  refine l_bz (p' := 1452) (z := (nI 2)) rfl rfl rfl rfl rfl (by decide +kernel) ?_
  refine l_ialz (p' := 1453) (m := 2) (z := y) rfl rfl (by decide +kernel) rfl hx2 rfl ?_
  refine l_if (p' := 1460) true rfl rfl ((cg_eq (w := 0) (by decide +kernel)).trans (decide_eq_true (by omega))) rfl ?_
  refine l_con (p' := 1461) rfl rfl rfl ?_
  refine l_aldn (p' := 1462) rfl rfl rfl rfl ?_
  refine l_call (p' := 1465) (kc := 99) (ls0 := [_, _, _, _, _]) rfl rfl rfl rfl rfl rfl rfl rfl rfl rfl ?_
  refine s_aldn (p' := 1) rfl rfl rfl ?_
  refine s_con (p' := 2) rfl rfl ?_
  refine s_aldn (p' := 3) rfl rfl rfl ?_
  refine s_ildn (p' := 4) rfl rfl rfl ?_
  refine s_ildn (p' := 5) rfl rfl rfl ?_
  refine c_call (p' := 8) (kc := 98) (ls0 := [_, _, _, _]) rfl rfl rfl rfl rfl (mj_rcv_is H0) rfl rfl rfl ?_
  refine s_aldn (p' := 1) rfl rfl rfl ?_
  refine s_gf (p' := 4) rfl H0 rfl rfl ?_
  refine s_ildn (p' := 5) rfl rfl rfl ?_
  refine c_call (p' := 8) (kc := 97) (ls0 := [_, _]) rfl rfl rfl rfl rfl (mj_rcv_is H38) rfl rfl rfl ?_
  refine s_ildn (p' := 1) rfl rfl rfl ?_
  refine s_if (p' := 16) true rfl ((cg_lt (w := 0) (by decide +kernel)).trans (decide_eq_true (by omega))) rfl ?_
  refine s_con (p' := 17) rfl rfl ?_
  refine c_iret rfl (by decide +kernel) ?_
  refine s_if (p' := 11) false rfl (by decide +kernel) rfl ?_
  refine s_thrz (q := 414) rfl HL rfl ?_
  refine K_c (hp := 13) rfl (mj_ocl_is (rd_nw rfl HL)) rfl ?_
  refine s_ast (p' := 15) (ls' := [_, _, _, _, _]) rfl rfl rfl rfl ?_
  refine s_con (p' := 16) rfl rfl ?_
  refine k_iret rfl rfl ?_
  refine l_ist (p' := 1467) (ls' := [_, _, _, _, _, _, _, _, _, _]) rfl rfl rfl rfl rfl ?_
  refine l_aldn (p' := 1468) rfl rfl rfl rfl ?_
  refine l_alds (p' := 1469) rfl rfl rfl rfl ?_
  refine l_ild (p' := 1471) rfl rfl rfl rfl ?_
  refine l_con (p' := 1472) rfl rfl rfl ?_
  refine l_bz (p' := 1473) (z := (nI 1)) rfl rfl rfl rfl rfl (by decide +kernel) ?_
  refine l_ialz (p' := 1474) (m := 1) (z := p) rfl rfl (by decide +kernel) rfl hx1 rfl ?_
  refine l_alds (p' := 1475) rfl rfl rfl rfl ?_
  refine l_ild (p' := 1477) rfl rfl rfl rfl ?_
  refine l_con (p' := 1478) rfl rfl rfl ?_
  refine l_bz (p' := 1479) (z := (nI 2)) rfl rfl rfl rfl rfl (by decide +kernel) ?_
  refine l_ialz (p' := 1480) (m := 2) (z := y) rfl rfl (by decide +kernel) rfl hx2 rfl ?_
  refine l_if (p' := 1487) true rfl rfl ((cg_eq (w := 0) (by decide +kernel)).trans (decide_eq_true (by omega))) rfl ?_
  refine l_con (p' := 1488) rfl rfl rfl ?_
  refine l_call (p' := 1491) (kc := 99) (ls0 := [_, _, _, _, _]) rfl rfl rfl rfl rfl rfl (mj_rcv_is (rd_app H400)) rfl rfl rfl ?_
  refine s_aldn (p' := 1) rfl rfl rfl ?_
  refine s_aldn (p' := 2) rfl rfl rfl ?_
  refine s_ildn (p' := 3) rfl rfl rfl ?_
  refine c_call (p' := 6) (kc := 98) (ls0 := [_, _]) rfl rfl rfl rfl rfl (mj_rcv_is (rd_app H400)) rfl rfl rfl ?_
  refine s_ildn (p' := 1) rfl rfl rfl ?_
  refine s_con (p' := 2) rfl rfl ?_
  refine s_aldn (p' := 3) rfl rfl rfl ?_
  refine s_gf (p' := 6) rfl (rd_app H400) rfl rfl ?_
  refine c_call (p' := 11) (kc := 97) (ls0 := [_]) rfl rfl rfl rfl rfl (mj_rcv_is (rd_app H401)) rfl rfl rfl ?_
  refine s_aldn (p' := 1) rfl rfl rfl ?_
  refine s_gf (p' := 4) rfl (rd_app H401) rfl rfl ?_
  refine c_iret rfl rfl ?_
  refine s_con (p' := 12) rfl rfl ?_
  refine s_bz (p' := 13) (z := (nI 4294967295)) rfl rfl rfl (by decide +kernel) ?_
  refine c_call (p' := 16) (kc := 97) (ls0 := [_, _, _]) rfl rfl rfl rfl rfl rfl rfl rfl rfl ?_
  refine s_ildn (p' := 1) rfl rfl rfl ?_
  refine s_ildn (p' := 2) rfl rfl rfl ?_
  refine s_icmp (p' := 14) true rfl ((ch_gt (w := 0) (by decide +kernel)).trans (decide_eq_true (by omega))) rfl ?_
  refine s_con (p' := 15) rfl rfl ?_
  refine c_iret rfl (by decide +kernel) ?_
  refine c_iret rfl (by decide +kernel) ?_
  refine s_if (p' := 13) true rfl (by decide +kernel) rfl ?_
  refine s_con (p' := 14) rfl rfl ?_
  refine c_call (p' := 17) (kc := 98) (ls0 := [_, _]) rfl rfl rfl rfl rfl (mj_rcv_is (rd_app H400)) rfl rfl rfl ?_
  refine s_aldn (p' := 1) rfl rfl rfl ?_
  refine s_ildn (p' := 2) rfl rfl rfl ?_
  refine s_pfz (p' := 5) (fs' := [_, _, _, _, _, _, _, _, _, _, _]) rfl rfl (rd_app H400) rfl rfl rfl rfl ?_
  refine s_ildn (p' := 6) rfl rfl rfl ?_
  refine s_if (p' := 9) false rfl (by decide +kernel) rfl ?_
  refine s_con (p' := 10) rfl rfl ?_
  refine s_goto (p' := 14) rfl rfl ?_
  refine c_iret rfl (by decide +kernel) ?_
  refine s_if (p' := 20) false rfl (by decide +kernel) rfl ?_
  refine s_con (p' := 21) rfl rfl ?_
  refine k_iret rfl rfl ?_
  refine l_ist (p' := 1493) (ls' := [_, _, _, _, _, _, _, _, _, _]) rfl rfl rfl rfl rfl ?_
  refine l_aldn (p' := 1494) rfl rfl rfl rfl ?_
  refine l_call (p' := 1497) (kc := 99) (ls0 := [_]) rfl rfl rfl rfl rfl rfl (mj_rcv_is (rd_ss rfl (rd_app H400))) rfl rfl rfl ?_
  refine s_aldn (p' := 1) rfl rfl rfl ?_
  refine s_gf (p' := 4) rfl (rd_ss rfl (rd_app H400)) rfl rfl ?_
  refine k_iret rfl rfl ?_
  refine l_ild (p' := 1499) rfl rfl rfl rfl ?_
  refine l_icmp (p' := 1504) true rfl rfl (by decide +kernel) rfl ?_
  refine l_ild (p' := 1506) rfl rfl rfl rfl ?_
  refine l_if (p' := 1521) true rfl rfl (by decide +kernel) rfl ?_
  refine l_goto (p' := 2541) rfl rfl rfl ?_
  refine l_incz (p' := 2544) (w := (nI 4)) (ls' := [_, _, _, _, _, _, _, _, _, _]) rfl rfl rfl rfl (by decide +kernel) rfl rfl ?_
  refine l_goto (p' := 28) rfl rfl rfl ?_
  refine l_ild (p' := 30) rfl rfl rfl rfl ?_
  refine l_alds (p' := 31) rfl rfl rfl rfl ?_
  refine l_lens (p' := 32) rfl rfl rfl ?_
  refine l_con (p' := 33) rfl rfl rfl ?_
  refine l_bz (p' := 34) (z := (nI 0)) rfl rfl rfl rfl rfl (by decide +kernel) ?_
  refine l_icmp (p' := 2547) true rfl rfl (by decide +kernel) rfl ?_
  refine l_con (p' := 2548) rfl rfl rfl ?_
  refine l_end rfl rfl ?_
  exact ⟨Nat.le_trans (Nat.le_of_eq (len_s (len_a HL rfl))) (Nat.le_of_ble_eq_true rfl), Nat.le_trans (sz_s rfl (rd_app H400) rfl (sz_aa (k := 6) (m := 20006) rfl rfl HZ)) (Nat.le_of_ble_eq_true rfl)⟩
theorem p1_23_p0 {xs : Nat → Int32} {h : mj_H} (hk : xs 0 &&& nI 63 = nI 23) {p : Int32} (hx1 : xs 1 = p) {y : Int32} (hx2 : xs 2 = y) (hp : 0 ≤ p.toInt) (hy : y.toInt = 0) (HL : h.length = 414) (HZ : mj_sz h ≤ 20000) (H0 : mj_rd h 0 = some (.inr (0, [.ref 1, .ref 38, .ref 299, .ref 336, .ref 373, .ref 375, .ref 378, .ref 381, .ref 387, .ref 393, .null, .null, .ref 397, .ref 398, .ref 399, .long (lN 0), .long (lN 0)]))) (H38 : mj_rd h 38 = some (.inr (6, [.ref 39, .ref 40, .int (nI 0)]))) (H400 : mj_rd h 400 = some (.inr (17, [.int (nI 0), .ref 401, .ref 402, .ref 1000300, .long (lN 0), .long (lN 0), .ref 410, .null, .null, .null, .ref 411]))) (H401 : mj_rd h 401 = some (.inr (18, [.ref 1000000, .int (nI 0), .int (nI 0)]))) : mj_fin 4 xs h := by
  unfold mj_fin
  refine l_ild (p' := 30) rfl rfl rfl rfl ?_
  refine l_alds (p' := 31) rfl rfl rfl rfl ?_
  refine l_lens (p' := 32) rfl rfl rfl ?_
  refine l_con (p' := 33) rfl rfl rfl ?_
  refine l_bz (p' := 34) (z := (nI 0)) rfl rfl rfl rfl rfl (by decide +kernel) ?_
  refine l_icmp (p' := 37) false rfl rfl (by decide +kernel) rfl ?_
  refine l_alds (p' := 38) rfl rfl rfl rfl ?_
  refine l_ild (p' := 40) rfl rfl rfl rfl ?_
  refine l_ialz (p' := 41) (m := 0) (z := (xs 0)) rfl rfl (by decide +kernel) rfl rfl rfl ?_
  refine l_bip (p' := 43) rfl rfl rfl ?_
  refine l_bz (p' := 44) (z := (nI 23)) rfl rfl rfl rfl rfl hk ?_
  refine l_sp (p' := 1440) (ls' := _) rfl rfl rfl rfl rfl ?_
  refine l_aldn (p' := 1441) rfl rfl rfl rfl ?_
  refine l_alds (p' := 1442) rfl rfl rfl rfl ?_
  refine l_ild (p' := 1444) rfl rfl rfl rfl ?_
  refine l_con (p' := 1445) rfl rfl rfl ?_
  refine l_bz (p' := 1446) (z := (nI 1)) rfl rfl rfl rfl rfl (by decide +kernel) ?_
  refine l_ialz (p' := 1447) (m := 1) (z := p) rfl rfl (by decide +kernel) rfl hx1 rfl ?_
  refine l_alds (p' := 1448) rfl rfl rfl rfl ?_
  refine l_ild (p' := 1450) rfl rfl rfl rfl ?_
  refine l_con (p' := 1451) rfl rfl rfl ?_
  refine l_bz (p' := 1452) (z := (nI 2)) rfl rfl rfl rfl rfl (by decide +kernel) ?_
  refine l_ialz (p' := 1453) (m := 2) (z := y) rfl rfl (by decide +kernel) rfl hx2 rfl ?_
  refine l_if (p' := 1460) true rfl rfl ((cg_eq (w := 0) (by decide +kernel)).trans (decide_eq_true (by omega))) rfl ?_
  refine l_con (p' := 1461) rfl rfl rfl ?_
  refine l_aldn (p' := 1462) rfl rfl rfl rfl ?_
  refine l_call (p' := 1465) (kc := 99) (ls0 := [_, _, _, _, _]) rfl rfl rfl rfl rfl rfl rfl rfl rfl rfl ?_
  refine s_aldn (p' := 1) rfl rfl rfl ?_
  refine s_con (p' := 2) rfl rfl ?_
  refine s_aldn (p' := 3) rfl rfl rfl ?_
  refine s_ildn (p' := 4) rfl rfl rfl ?_
  refine s_ildn (p' := 5) rfl rfl rfl ?_
  refine c_call (p' := 8) (kc := 98) (ls0 := [_, _, _, _]) rfl rfl rfl rfl rfl (mj_rcv_is H0) rfl rfl rfl ?_
  refine s_aldn (p' := 1) rfl rfl rfl ?_
  refine s_gf (p' := 4) rfl H0 rfl rfl ?_
  refine s_ildn (p' := 5) rfl rfl rfl ?_
  refine c_call (p' := 8) (kc := 97) (ls0 := [_, _]) rfl rfl rfl rfl rfl (mj_rcv_is H38) rfl rfl rfl ?_
  refine s_ildn (p' := 1) rfl rfl rfl ?_
  refine s_if (p' := 4) false rfl ((cg_lt (w := 0) (by decide +kernel)).trans (decide_eq_false (by omega))) rfl ?_
  refine s_ildn (p' := 5) rfl rfl rfl ?_
  refine s_aldn (p' := 6) rfl rfl rfl ?_
  refine s_gf (p' := 9) rfl H38 rfl rfl ?_
  refine s_icmp (p' := 16) true rfl ((cg_ge (w := 0) (by decide +kernel)).trans (decide_eq_true (by omega))) rfl ?_
  refine s_con (p' := 17) rfl rfl ?_
  refine c_iret rfl (by decide +kernel) ?_
  refine s_if (p' := 11) false rfl (by decide +kernel) rfl ?_
  refine s_thrz (q := 414) rfl HL rfl ?_
  refine K_c (hp := 13) rfl (mj_ocl_is (rd_nw rfl HL)) rfl ?_
  refine s_ast (p' := 15) (ls' := [_, _, _, _, _]) rfl rfl rfl rfl ?_
  refine s_con (p' := 16) rfl rfl ?_
  refine k_iret rfl rfl ?_
  refine l_ist (p' := 1467) (ls' := [_, _, _, _, _, _, _, _, _, _]) rfl rfl rfl rfl rfl ?_
  refine l_aldn (p' := 1468) rfl rfl rfl rfl ?_
  refine l_alds (p' := 1469) rfl rfl rfl rfl ?_
  refine l_ild (p' := 1471) rfl rfl rfl rfl ?_
  refine l_con (p' := 1472) rfl rfl rfl ?_
  refine l_bz (p' := 1473) (z := (nI 1)) rfl rfl rfl rfl rfl (by decide +kernel) ?_
  refine l_ialz (p' := 1474) (m := 1) (z := p) rfl rfl (by decide +kernel) rfl hx1 rfl ?_
  refine l_alds (p' := 1475) rfl rfl rfl rfl ?_
  refine l_ild (p' := 1477) rfl rfl rfl rfl ?_
  refine l_con (p' := 1478) rfl rfl rfl ?_
  refine l_bz (p' := 1479) (z := (nI 2)) rfl rfl rfl rfl rfl (by decide +kernel) ?_
  refine l_ialz (p' := 1480) (m := 2) (z := y) rfl rfl (by decide +kernel) rfl hx2 rfl ?_
  refine l_if (p' := 1487) true rfl rfl ((cg_eq (w := 0) (by decide +kernel)).trans (decide_eq_true (by omega))) rfl ?_
  refine l_con (p' := 1488) rfl rfl rfl ?_
  refine l_call (p' := 1491) (kc := 99) (ls0 := [_, _, _, _, _]) rfl rfl rfl rfl rfl rfl (mj_rcv_is (rd_app H400)) rfl rfl rfl ?_
  refine s_aldn (p' := 1) rfl rfl rfl ?_
  refine s_aldn (p' := 2) rfl rfl rfl ?_
  refine s_ildn (p' := 3) rfl rfl rfl ?_
  refine c_call (p' := 6) (kc := 98) (ls0 := [_, _]) rfl rfl rfl rfl rfl (mj_rcv_is (rd_app H400)) rfl rfl rfl ?_
  refine s_ildn (p' := 1) rfl rfl rfl ?_
  refine s_con (p' := 2) rfl rfl ?_
  refine s_aldn (p' := 3) rfl rfl rfl ?_
  refine s_gf (p' := 6) rfl (rd_app H400) rfl rfl ?_
  refine c_call (p' := 11) (kc := 97) (ls0 := [_]) rfl rfl rfl rfl rfl (mj_rcv_is (rd_app H401)) rfl rfl rfl ?_
  refine s_aldn (p' := 1) rfl rfl rfl ?_
  refine s_gf (p' := 4) rfl (rd_app H401) rfl rfl ?_
  refine c_iret rfl rfl ?_
  refine s_con (p' := 12) rfl rfl ?_
  refine s_bz (p' := 13) (z := (nI 4294967295)) rfl rfl rfl (by decide +kernel) ?_
  refine c_call (p' := 16) (kc := 97) (ls0 := [_, _, _]) rfl rfl rfl rfl rfl rfl rfl rfl rfl ?_
  refine s_ildn (p' := 1) rfl rfl rfl ?_
  refine s_ildn (p' := 2) rfl rfl rfl ?_
  refine s_icmp (p' := 5) false rfl ((ch_gt (w := 0) (by decide +kernel)).trans (decide_eq_false (by omega))) rfl ?_
  refine s_ildn (p' := 6) rfl rfl rfl ?_
  refine s_ildn (p' := 7) rfl rfl rfl ?_
  refine s_icmp (p' := 14) true rfl ((cg_gt (w := -1) (by decide +kernel)).trans (decide_eq_true (by omega))) rfl ?_
  refine s_con (p' := 15) rfl rfl ?_
  refine c_iret rfl (by decide +kernel) ?_
  refine c_iret rfl (by decide +kernel) ?_
  refine s_if (p' := 13) true rfl (by decide +kernel) rfl ?_
  refine s_con (p' := 14) rfl rfl ?_
  refine c_call (p' := 17) (kc := 98) (ls0 := [_, _]) rfl rfl rfl rfl rfl (mj_rcv_is (rd_app H400)) rfl rfl rfl ?_
  refine s_aldn (p' := 1) rfl rfl rfl ?_
  refine s_ildn (p' := 2) rfl rfl rfl ?_
  refine s_pfz (p' := 5) (fs' := [_, _, _, _, _, _, _, _, _, _, _]) rfl rfl (rd_app H400) rfl rfl rfl rfl ?_
  refine s_ildn (p' := 6) rfl rfl rfl ?_
  refine s_if (p' := 9) false rfl (by decide +kernel) rfl ?_
  refine s_con (p' := 10) rfl rfl ?_
  refine s_goto (p' := 14) rfl rfl ?_
  refine c_iret rfl (by decide +kernel) ?_
  refine s_if (p' := 20) false rfl (by decide +kernel) rfl ?_
  refine s_con (p' := 21) rfl rfl ?_
  refine k_iret rfl rfl ?_
  refine l_ist (p' := 1493) (ls' := [_, _, _, _, _, _, _, _, _, _]) rfl rfl rfl rfl rfl ?_
  refine l_aldn (p' := 1494) rfl rfl rfl rfl ?_
  refine l_call (p' := 1497) (kc := 99) (ls0 := [_]) rfl rfl rfl rfl rfl rfl (mj_rcv_is (rd_ss rfl (rd_app H400))) rfl rfl rfl ?_
  refine s_aldn (p' := 1) rfl rfl rfl ?_
  refine s_gf (p' := 4) rfl (rd_ss rfl (rd_app H400)) rfl rfl ?_
  refine k_iret rfl rfl ?_
  refine l_ild (p' := 1499) rfl rfl rfl rfl ?_
  refine l_icmp (p' := 1504) true rfl rfl (by decide +kernel) rfl ?_
  refine l_ild (p' := 1506) rfl rfl rfl rfl ?_
  refine l_if (p' := 1521) true rfl rfl (by decide +kernel) rfl ?_
  refine l_goto (p' := 2541) rfl rfl rfl ?_
  refine l_incz (p' := 2544) (w := (nI 4)) (ls' := [_, _, _, _, _, _, _, _, _, _]) rfl rfl rfl rfl (by decide +kernel) rfl rfl ?_
  refine l_goto (p' := 28) rfl rfl rfl ?_
  refine l_ild (p' := 30) rfl rfl rfl rfl ?_
  refine l_alds (p' := 31) rfl rfl rfl rfl ?_
  refine l_lens (p' := 32) rfl rfl rfl ?_
  refine l_con (p' := 33) rfl rfl rfl ?_
  refine l_bz (p' := 34) (z := (nI 0)) rfl rfl rfl rfl rfl (by decide +kernel) ?_
  refine l_icmp (p' := 2547) true rfl rfl (by decide +kernel) rfl ?_
  refine l_con (p' := 2548) rfl rfl rfl ?_
  refine l_end rfl rfl ?_
  exact ⟨Nat.le_trans (Nat.le_of_eq (len_s (len_a HL rfl))) (Nat.le_of_ble_eq_true rfl), Nat.le_trans (sz_s rfl (rd_app H400) rfl (sz_aa (k := 6) (m := 20006) rfl rfl HZ)) (Nat.le_of_ble_eq_true rfl)⟩
theorem p1_23_n1 {xs : Nat → Int32} {h : mj_H} (hk : xs 0 &&& nI 63 = nI 23) {p : Int32} (hx1 : xs 1 = p) {y : Int32} (hx2 : xs 2 = y) (hp : p.toInt < 0) (hy : ¬ y.toInt = 0) (HL : h.length = 414) (HZ : mj_sz h ≤ 20000) (H0 : mj_rd h 0 = some (.inr (0, [.ref 1, .ref 38, .ref 299, .ref 336, .ref 373, .ref 375, .ref 378, .ref 381, .ref 387, .ref 393, .null, .null, .ref 397, .ref 398, .ref 399, .long (lN 0), .long (lN 0)]))) (H38 : mj_rd h 38 = some (.inr (6, [.ref 39, .ref 40, .int (nI 0)]))) (H400 : mj_rd h 400 = some (.inr (17, [.int (nI 0), .ref 401, .ref 402, .ref 1000300, .long (lN 0), .long (lN 0), .ref 410, .null, .null, .null, .ref 411]))) (H401 : mj_rd h 401 = some (.inr (18, [.ref 1000000, .int (nI 0), .int (nI 0)]))) : mj_fin 4 xs h := by
  unfold mj_fin
  refine l_ild (p' := 30) rfl rfl rfl rfl ?_
  refine l_alds (p' := 31) rfl rfl rfl rfl ?_
  refine l_lens (p' := 32) rfl rfl rfl ?_
  refine l_con (p' := 33) rfl rfl rfl ?_
  refine l_bz (p' := 34) (z := (nI 0)) rfl rfl rfl rfl rfl (by decide +kernel) ?_
  refine l_icmp (p' := 37) false rfl rfl (by decide +kernel) rfl ?_
  refine l_alds (p' := 38) rfl rfl rfl rfl ?_
  refine l_ild (p' := 40) rfl rfl rfl rfl ?_
  refine l_ialz (p' := 41) (m := 0) (z := (xs 0)) rfl rfl (by decide +kernel) rfl rfl rfl ?_
  refine l_bip (p' := 43) rfl rfl rfl ?_
  refine l_bz (p' := 44) (z := (nI 23)) rfl rfl rfl rfl rfl hk ?_
  refine l_sp (p' := 1440) (ls' := _) rfl rfl rfl rfl rfl ?_
  refine l_aldn (p' := 1441) rfl rfl rfl rfl ?_
  refine l_alds (p' := 1442) rfl rfl rfl rfl ?_
  refine l_ild (p' := 1444) rfl rfl rfl rfl ?_
  refine l_con (p' := 1445) rfl rfl rfl ?_
  refine l_bz (p' := 1446) (z := (nI 1)) rfl rfl rfl rfl rfl (by decide +kernel) ?_
  refine l_ialz (p' := 1447) (m := 1) (z := p) rfl rfl (by decide +kernel) rfl hx1 rfl ?_
  refine l_alds (p' := 1448) rfl rfl rfl rfl ?_
  refine l_ild (p' := 1450) rfl rfl rfl rfl ?_
  refine l_con (p' := 1451) rfl rfl rfl ?_
  refine l_bz (p' := 1452) (z := (nI 2)) rfl rfl rfl rfl rfl (by decide +kernel) ?_
  refine l_ialz (p' := 1453) (m := 2) (z := y) rfl rfl (by decide +kernel) rfl hx2 rfl ?_
  refine l_if (p' := 1456) false rfl rfl ((cg_eq (w := 0) (by decide +kernel)).trans (decide_eq_false (by omega))) rfl ?_
  refine l_con (p' := 1457) rfl rfl rfl ?_
  refine l_goto (p' := 1461) rfl rfl rfl ?_
  refine l_aldn (p' := 1462) rfl rfl rfl rfl ?_
  refine l_call (p' := 1465) (kc := 99) (ls0 := [_, _, _, _, _]) rfl rfl rfl rfl rfl rfl rfl rfl rfl rfl ?_
  refine s_aldn (p' := 1) rfl rfl rfl ?_
  refine s_con (p' := 2) rfl rfl ?_
  refine s_aldn (p' := 3) rfl rfl rfl ?_
  refine s_ildn (p' := 4) rfl rfl rfl ?_
  refine s_ildn (p' := 5) rfl rfl rfl ?_
  refine c_call (p' := 8) (kc := 98) (ls0 := [_, _, _, _]) rfl rfl rfl rfl rfl (mj_rcv_is H0) rfl rfl rfl ?_
  refine s_aldn (p' := 1) rfl rfl rfl ?_
  refine s_gf (p' := 4) rfl H0 rfl rfl ?_
  refine s_ildn (p' := 5) rfl rfl rfl ?_
  refine c_call (p' := 8) (kc := 97) (ls0 := [_, _]) rfl rfl rfl rfl rfl (mj_rcv_is H38) rfl rfl rfl ?_
  refine s_ildn (p' := 1) rfl rfl rfl ?_
  refine s_if (p' := 16) true rfl ((cg_lt (w := 0) (by decide +kernel)).trans (decide_eq_true (by omega))) rfl ?_
  refine s_con (p' := 17) rfl rfl ?_
  refine c_iret rfl (by decide +kernel) ?_
  refine s_if (p' := 11) false rfl (by decide +kernel) rfl ?_
  refine s_thrz (q := 414) rfl HL rfl ?_
  refine K_c (hp := 13) rfl (mj_ocl_is (rd_nw rfl HL)) rfl ?_
  refine s_ast (p' := 15) (ls' := [_, _, _, _, _]) rfl rfl rfl rfl ?_
  refine s_con (p' := 16) rfl rfl ?_
  refine k_iret rfl rfl ?_
  refine l_ist (p' := 1467) (ls' := [_, _, _, _, _, _, _, _, _, _]) rfl rfl rfl rfl rfl ?_
  refine l_aldn (p' := 1468) rfl rfl rfl rfl ?_
  refine l_alds (p' := 1469) rfl rfl rfl rfl ?_
  refine l_ild (p' := 1471) rfl rfl rfl rfl ?_
  refine l_con (p' := 1472) rfl rfl rfl ?_
  refine l_bz (p' := 1473) (z := (nI 1)) rfl rfl rfl rfl rfl (by decide +kernel) ?_
  refine l_ialz (p' := 1474) (m := 1) (z := p) rfl rfl (by decide +kernel) rfl hx1 rfl ?_
  refine l_alds (p' := 1475) rfl rfl rfl rfl ?_
  refine l_ild (p' := 1477) rfl rfl rfl rfl ?_
  refine l_con (p' := 1478) rfl rfl rfl ?_
  refine l_bz (p' := 1479) (z := (nI 2)) rfl rfl rfl rfl rfl (by decide +kernel) ?_
  refine l_ialz (p' := 1480) (m := 2) (z := y) rfl rfl (by decide +kernel) rfl hx2 rfl ?_
  refine l_if (p' := 1483) false rfl rfl ((cg_eq (w := 0) (by decide +kernel)).trans (decide_eq_false (by omega))) rfl ?_
  refine l_con (p' := 1484) rfl rfl rfl ?_
  refine l_goto (p' := 1488) rfl rfl rfl ?_
  refine l_call (p' := 1491) (kc := 99) (ls0 := [_, _, _, _, _]) rfl rfl rfl rfl rfl rfl (mj_rcv_is (rd_app H400)) rfl rfl rfl ?_
  refine s_aldn (p' := 1) rfl rfl rfl ?_
  refine s_aldn (p' := 2) rfl rfl rfl ?_
  refine s_ildn (p' := 3) rfl rfl rfl ?_
  refine c_call (p' := 6) (kc := 98) (ls0 := [_, _]) rfl rfl rfl rfl rfl (mj_rcv_is (rd_app H400)) rfl rfl rfl ?_
  refine s_ildn (p' := 1) rfl rfl rfl ?_
  refine s_con (p' := 2) rfl rfl ?_
  refine s_aldn (p' := 3) rfl rfl rfl ?_
  refine s_gf (p' := 6) rfl (rd_app H400) rfl rfl ?_
  refine c_call (p' := 11) (kc := 97) (ls0 := [_]) rfl rfl rfl rfl rfl (mj_rcv_is (rd_app H401)) rfl rfl rfl ?_
  refine s_aldn (p' := 1) rfl rfl rfl ?_
  refine s_gf (p' := 4) rfl (rd_app H401) rfl rfl ?_
  refine c_iret rfl rfl ?_
  refine s_con (p' := 12) rfl rfl ?_
  refine s_bz (p' := 13) (z := (nI 4294967295)) rfl rfl rfl (by decide +kernel) ?_
  refine c_call (p' := 16) (kc := 97) (ls0 := [_, _, _]) rfl rfl rfl rfl rfl rfl rfl rfl rfl ?_
  refine s_ildn (p' := 1) rfl rfl rfl ?_
  refine s_ildn (p' := 2) rfl rfl rfl ?_
  refine s_icmp (p' := 14) true rfl ((ch_gt (w := 0) (by decide +kernel)).trans (decide_eq_true (by omega))) rfl ?_
  refine s_con (p' := 15) rfl rfl ?_
  refine c_iret rfl (by decide +kernel) ?_
  refine c_iret rfl (by decide +kernel) ?_
  refine s_if (p' := 13) true rfl (by decide +kernel) rfl ?_
  refine s_con (p' := 14) rfl rfl ?_
  refine c_call (p' := 17) (kc := 98) (ls0 := [_, _]) rfl rfl rfl rfl rfl (mj_rcv_is (rd_app H400)) rfl rfl rfl ?_
  refine s_aldn (p' := 1) rfl rfl rfl ?_
  refine s_ildn (p' := 2) rfl rfl rfl ?_
  refine s_pfz (p' := 5) (fs' := [_, _, _, _, _, _, _, _, _, _, _]) rfl rfl (rd_app H400) rfl rfl rfl rfl ?_
  refine s_ildn (p' := 6) rfl rfl rfl ?_
  refine s_if (p' := 9) false rfl (by decide +kernel) rfl ?_
  refine s_con (p' := 10) rfl rfl ?_
  refine s_goto (p' := 14) rfl rfl ?_
  refine c_iret rfl (by decide +kernel) ?_
  refine s_if (p' := 20) false rfl (by decide +kernel) rfl ?_
  refine s_con (p' := 21) rfl rfl ?_
  refine k_iret rfl rfl ?_
  refine l_ist (p' := 1493) (ls' := [_, _, _, _, _, _, _, _, _, _]) rfl rfl rfl rfl rfl ?_
  refine l_aldn (p' := 1494) rfl rfl rfl rfl ?_
  refine l_call (p' := 1497) (kc := 99) (ls0 := [_]) rfl rfl rfl rfl rfl rfl (mj_rcv_is (rd_ss rfl (rd_app H400))) rfl rfl rfl ?_
  refine s_aldn (p' := 1) rfl rfl rfl ?_
  refine s_gf (p' := 4) rfl (rd_ss rfl (rd_app H400)) rfl rfl ?_
  refine k_iret rfl rfl ?_
  refine l_ild (p' := 1499) rfl rfl rfl rfl ?_
  refine l_icmp (p' := 1504) true rfl rfl (by decide +kernel) rfl ?_
  refine l_ild (p' := 1506) rfl rfl rfl rfl ?_
  refine l_if (p' := 1521) true rfl rfl (by decide +kernel) rfl ?_
  refine l_goto (p' := 2541) rfl rfl rfl ?_
  refine l_incz (p' := 2544) (w := (nI 4)) (ls' := [_, _, _, _, _, _, _, _, _, _]) rfl rfl rfl rfl (by decide +kernel) rfl rfl ?_
  refine l_goto (p' := 28) rfl rfl rfl ?_
  refine l_ild (p' := 30) rfl rfl rfl rfl ?_
  refine l_alds (p' := 31) rfl rfl rfl rfl ?_
  refine l_lens (p' := 32) rfl rfl rfl ?_
  refine l_con (p' := 33) rfl rfl rfl ?_
  refine l_bz (p' := 34) (z := (nI 0)) rfl rfl rfl rfl rfl (by decide +kernel) ?_
  refine l_icmp (p' := 2547) true rfl rfl (by decide +kernel) rfl ?_
  refine l_con (p' := 2548) rfl rfl rfl ?_
  refine l_end rfl rfl ?_
  exact ⟨Nat.le_trans (Nat.le_of_eq (len_s (len_a HL rfl))) (Nat.le_of_ble_eq_true rfl), Nat.le_trans (sz_s rfl (rd_app H400) rfl (sz_aa (k := 6) (m := 20006) rfl rfl HZ)) (Nat.le_of_ble_eq_true rfl)⟩
theorem p1_23_p1 {xs : Nat → Int32} {h : mj_H} (hk : xs 0 &&& nI 63 = nI 23) {p : Int32} (hx1 : xs 1 = p) {y : Int32} (hx2 : xs 2 = y) (hp : 0 ≤ p.toInt) (hy : ¬ y.toInt = 0) (HL : h.length = 414) (HZ : mj_sz h ≤ 20000) (H0 : mj_rd h 0 = some (.inr (0, [.ref 1, .ref 38, .ref 299, .ref 336, .ref 373, .ref 375, .ref 378, .ref 381, .ref 387, .ref 393, .null, .null, .ref 397, .ref 398, .ref 399, .long (lN 0), .long (lN 0)]))) (H38 : mj_rd h 38 = some (.inr (6, [.ref 39, .ref 40, .int (nI 0)]))) (H400 : mj_rd h 400 = some (.inr (17, [.int (nI 0), .ref 401, .ref 402, .ref 1000300, .long (lN 0), .long (lN 0), .ref 410, .null, .null, .null, .ref 411]))) (H401 : mj_rd h 401 = some (.inr (18, [.ref 1000000, .int (nI 0), .int (nI 0)]))) : mj_fin 4 xs h := by
  unfold mj_fin
  refine l_ild (p' := 30) rfl rfl rfl rfl ?_
  refine l_alds (p' := 31) rfl rfl rfl rfl ?_
  refine l_lens (p' := 32) rfl rfl rfl ?_
  refine l_con (p' := 33) rfl rfl rfl ?_
  refine l_bz (p' := 34) (z := (nI 0)) rfl rfl rfl rfl rfl (by decide +kernel) ?_
  refine l_icmp (p' := 37) false rfl rfl (by decide +kernel) rfl ?_
  refine l_alds (p' := 38) rfl rfl rfl rfl ?_
  refine l_ild (p' := 40) rfl rfl rfl rfl ?_
  refine l_ialz (p' := 41) (m := 0) (z := (xs 0)) rfl rfl (by decide +kernel) rfl rfl rfl ?_
  refine l_bip (p' := 43) rfl rfl rfl ?_
  refine l_bz (p' := 44) (z := (nI 23)) rfl rfl rfl rfl rfl hk ?_
  refine l_sp (p' := 1440) (ls' := _) rfl rfl rfl rfl rfl ?_
  refine l_aldn (p' := 1441) rfl rfl rfl rfl ?_
  refine l_alds (p' := 1442) rfl rfl rfl rfl ?_
  refine l_ild (p' := 1444) rfl rfl rfl rfl ?_
  refine l_con (p' := 1445) rfl rfl rfl ?_
  refine l_bz (p' := 1446) (z := (nI 1)) rfl rfl rfl rfl rfl (by decide +kernel) ?_
  refine l_ialz (p' := 1447) (m := 1) (z := p) rfl rfl (by decide +kernel) rfl hx1 rfl ?_
  refine l_alds (p' := 1448) rfl rfl rfl rfl ?_
  refine l_ild (p' := 1450) rfl rfl rfl rfl ?_
  refine l_con (p' := 1451) rfl rfl rfl ?_
  refine l_bz (p' := 1452) (z := (nI 2)) rfl rfl rfl rfl rfl (by decide +kernel) ?_
  refine l_ialz (p' := 1453) (m := 2) (z := y) rfl rfl (by decide +kernel) rfl hx2 rfl ?_
  refine l_if (p' := 1456) false rfl rfl ((cg_eq (w := 0) (by decide +kernel)).trans (decide_eq_false (by omega))) rfl ?_
  refine l_con (p' := 1457) rfl rfl rfl ?_
  refine l_goto (p' := 1461) rfl rfl rfl ?_
  refine l_aldn (p' := 1462) rfl rfl rfl rfl ?_
  refine l_call (p' := 1465) (kc := 99) (ls0 := [_, _, _, _, _]) rfl rfl rfl rfl rfl rfl rfl rfl rfl rfl ?_
  refine s_aldn (p' := 1) rfl rfl rfl ?_
  refine s_con (p' := 2) rfl rfl ?_
  refine s_aldn (p' := 3) rfl rfl rfl ?_
  refine s_ildn (p' := 4) rfl rfl rfl ?_
  refine s_ildn (p' := 5) rfl rfl rfl ?_
  refine c_call (p' := 8) (kc := 98) (ls0 := [_, _, _, _]) rfl rfl rfl rfl rfl (mj_rcv_is H0) rfl rfl rfl ?_
  refine s_aldn (p' := 1) rfl rfl rfl ?_
  refine s_gf (p' := 4) rfl H0 rfl rfl ?_
  refine s_ildn (p' := 5) rfl rfl rfl ?_
  refine c_call (p' := 8) (kc := 97) (ls0 := [_, _]) rfl rfl rfl rfl rfl (mj_rcv_is H38) rfl rfl rfl ?_
  refine s_ildn (p' := 1) rfl rfl rfl ?_
  refine s_if (p' := 4) false rfl ((cg_lt (w := 0) (by decide +kernel)).trans (decide_eq_false (by omega))) rfl ?_
  refine s_ildn (p' := 5) rfl rfl rfl ?_
  refine s_aldn (p' := 6) rfl rfl rfl ?_
  refine s_gf (p' := 9) rfl H38 rfl rfl ?_
  refine s_icmp (p' := 16) true rfl ((cg_ge (w := 0) (by decide +kernel)).trans (decide_eq_true (by omega))) rfl ?_
  refine s_con (p' := 17) rfl rfl ?_
  refine c_iret rfl (by decide +kernel) ?_
  refine s_if (p' := 11) false rfl (by decide +kernel) rfl ?_
  refine s_thrz (q := 414) rfl HL rfl ?_
  refine K_c (hp := 13) rfl (mj_ocl_is (rd_nw rfl HL)) rfl ?_
  refine s_ast (p' := 15) (ls' := [_, _, _, _, _]) rfl rfl rfl rfl ?_
  refine s_con (p' := 16) rfl rfl ?_
  refine k_iret rfl rfl ?_
  refine l_ist (p' := 1467) (ls' := [_, _, _, _, _, _, _, _, _, _]) rfl rfl rfl rfl rfl ?_
  refine l_aldn (p' := 1468) rfl rfl rfl rfl ?_
  refine l_alds (p' := 1469) rfl rfl rfl rfl ?_
  refine l_ild (p' := 1471) rfl rfl rfl rfl ?_
  refine l_con (p' := 1472) rfl rfl rfl ?_
  refine l_bz (p' := 1473) (z := (nI 1)) rfl rfl rfl rfl rfl (by decide +kernel) ?_
  refine l_ialz (p' := 1474) (m := 1) (z := p) rfl rfl (by decide +kernel) rfl hx1 rfl ?_
  refine l_alds (p' := 1475) rfl rfl rfl rfl ?_
  refine l_ild (p' := 1477) rfl rfl rfl rfl ?_
  refine l_con (p' := 1478) rfl rfl rfl ?_
  refine l_bz (p' := 1479) (z := (nI 2)) rfl rfl rfl rfl rfl (by decide +kernel) ?_
  refine l_ialz (p' := 1480) (m := 2) (z := y) rfl rfl (by decide +kernel) rfl hx2 rfl ?_
  refine l_if (p' := 1483) false rfl rfl ((cg_eq (w := 0) (by decide +kernel)).trans (decide_eq_false (by omega))) rfl ?_
  refine l_con (p' := 1484) rfl rfl rfl ?_
  refine l_goto (p' := 1488) rfl rfl rfl ?_
  refine l_call (p' := 1491) (kc := 99) (ls0 := [_, _, _, _, _]) rfl rfl rfl rfl rfl rfl (mj_rcv_is (rd_app H400)) rfl rfl rfl ?_
  refine s_aldn (p' := 1) rfl rfl rfl ?_
  refine s_aldn (p' := 2) rfl rfl rfl ?_
  refine s_ildn (p' := 3) rfl rfl rfl ?_
  refine c_call (p' := 6) (kc := 98) (ls0 := [_, _]) rfl rfl rfl rfl rfl (mj_rcv_is (rd_app H400)) rfl rfl rfl ?_
  refine s_ildn (p' := 1) rfl rfl rfl ?_
  refine s_con (p' := 2) rfl rfl ?_
  refine s_aldn (p' := 3) rfl rfl rfl ?_
  refine s_gf (p' := 6) rfl (rd_app H400) rfl rfl ?_
  refine c_call (p' := 11) (kc := 97) (ls0 := [_]) rfl rfl rfl rfl rfl (mj_rcv_is (rd_app H401)) rfl rfl rfl ?_
  refine s_aldn (p' := 1) rfl rfl rfl ?_
  refine s_gf (p' := 4) rfl (rd_app H401) rfl rfl ?_
  refine c_iret rfl rfl ?_
  refine s_con (p' := 12) rfl rfl ?_
  refine s_bz (p' := 13) (z := (nI 4294967295)) rfl rfl rfl (by decide +kernel) ?_
  refine c_call (p' := 16) (kc := 97) (ls0 := [_, _, _]) rfl rfl rfl rfl rfl rfl rfl rfl rfl ?_
  refine s_ildn (p' := 1) rfl rfl rfl ?_
  refine s_ildn (p' := 2) rfl rfl rfl ?_
  refine s_icmp (p' := 5) false rfl ((ch_gt (w := 0) (by decide +kernel)).trans (decide_eq_false (by omega))) rfl ?_
  refine s_ildn (p' := 6) rfl rfl rfl ?_
  refine s_ildn (p' := 7) rfl rfl rfl ?_
  refine s_icmp (p' := 14) true rfl ((cg_gt (w := -1) (by decide +kernel)).trans (decide_eq_true (by omega))) rfl ?_
  refine s_con (p' := 15) rfl rfl ?_
  refine c_iret rfl (by decide +kernel) ?_
  refine c_iret rfl (by decide +kernel) ?_
  refine s_if (p' := 13) true rfl (by decide +kernel) rfl ?_
  refine s_con (p' := 14) rfl rfl ?_
  refine c_call (p' := 17) (kc := 98) (ls0 := [_, _]) rfl rfl rfl rfl rfl (mj_rcv_is (rd_app H400)) rfl rfl rfl ?_
  refine s_aldn (p' := 1) rfl rfl rfl ?_
  refine s_ildn (p' := 2) rfl rfl rfl ?_
  refine s_pfz (p' := 5) (fs' := [_, _, _, _, _, _, _, _, _, _, _]) rfl rfl (rd_app H400) rfl rfl rfl rfl ?_
  refine s_ildn (p' := 6) rfl rfl rfl ?_
  refine s_if (p' := 9) false rfl (by decide +kernel) rfl ?_
  refine s_con (p' := 10) rfl rfl ?_
  refine s_goto (p' := 14) rfl rfl ?_
  refine c_iret rfl (by decide +kernel) ?_
  refine s_if (p' := 20) false rfl (by decide +kernel) rfl ?_
  refine s_con (p' := 21) rfl rfl ?_
  refine k_iret rfl rfl ?_
  refine l_ist (p' := 1493) (ls' := [_, _, _, _, _, _, _, _, _, _]) rfl rfl rfl rfl rfl ?_
  refine l_aldn (p' := 1494) rfl rfl rfl rfl ?_
  refine l_call (p' := 1497) (kc := 99) (ls0 := [_]) rfl rfl rfl rfl rfl rfl (mj_rcv_is (rd_ss rfl (rd_app H400))) rfl rfl rfl ?_
  refine s_aldn (p' := 1) rfl rfl rfl ?_
  refine s_gf (p' := 4) rfl (rd_ss rfl (rd_app H400)) rfl rfl ?_
  refine k_iret rfl rfl ?_
  refine l_ild (p' := 1499) rfl rfl rfl rfl ?_
  refine l_icmp (p' := 1504) true rfl rfl (by decide +kernel) rfl ?_
  refine l_ild (p' := 1506) rfl rfl rfl rfl ?_
  refine l_if (p' := 1521) true rfl rfl (by decide +kernel) rfl ?_
  refine l_goto (p' := 2541) rfl rfl rfl ?_
  refine l_incz (p' := 2544) (w := (nI 4)) (ls' := [_, _, _, _, _, _, _, _, _, _]) rfl rfl rfl rfl (by decide +kernel) rfl rfl ?_
  refine l_goto (p' := 28) rfl rfl rfl ?_
  refine l_ild (p' := 30) rfl rfl rfl rfl ?_
  refine l_alds (p' := 31) rfl rfl rfl rfl ?_
  refine l_lens (p' := 32) rfl rfl rfl ?_
  refine l_con (p' := 33) rfl rfl rfl ?_
  refine l_bz (p' := 34) (z := (nI 0)) rfl rfl rfl rfl rfl (by decide +kernel) ?_
  refine l_icmp (p' := 2547) true rfl rfl (by decide +kernel) rfl ?_
  refine l_con (p' := 2548) rfl rfl rfl ?_
  refine l_end rfl rfl ?_
  exact ⟨Nat.le_trans (Nat.le_of_eq (len_s (len_a HL rfl))) (Nat.le_of_ble_eq_true rfl), Nat.le_trans (sz_s rfl (rd_app H400) rfl (sz_aa (k := 6) (m := 20006) rfl rfl HZ)) (Nat.le_of_ble_eq_true rfl)⟩
theorem p1_15_n0 {xs : Nat → Int32} {h : mj_H} (hk : xs 0 &&& nI 63 = nI 15) {p : Int32} (hx1 : xs 1 = p) {y : Int32} (hx2 : xs 2 = y) (hp : p.toInt < 1) (hy : y.toInt = 0) (HL : h.length = 414) (HZ : mj_sz h ≤ 20000) (H0 : mj_rd h 0 = some (.inr (0, [.ref 1, .ref 38, .ref 299, .ref 336, .ref 373, .ref 375, .ref 378, .ref 381, .ref 387, .ref 393, .null, .null, .ref 397, .ref 398, .ref 399, .long (lN 0), .long (lN 0)]))) (H400 : mj_rd h 400 = some (.inr (17, [.int (nI 0), .ref 401, .ref 402, .ref 1000300, .long (lN 0), .long (lN 0), .ref 410, .null, .null, .null, .ref 411]))) : mj_fin 4 xs h := by
  unfold mj_fin
  refine l_ild (p' := 30) rfl rfl rfl rfl ?_
  refine l_alds (p' := 31) rfl rfl rfl rfl ?_
  refine l_lens (p' := 32) rfl rfl rfl ?_
  refine l_con (p' := 33) rfl rfl rfl ?_
  refine l_bz (p' := 34) (z := (nI 0)) rfl rfl rfl rfl rfl (by decide +kernel) ?_
  refine l_icmp (p' := 37) false rfl rfl (by decide +kernel) rfl ?_
  refine l_alds (p' := 38) rfl rfl rfl rfl ?_
  refine l_ild (p' := 40) rfl rfl rfl rfl ?_
  refine l_ialz (p' := 41) (m := 0) (z := (xs 0)) rfl rfl (by decide +kernel) rfl rfl rfl ?_
  refine l_bip (p' := 43) rfl rfl rfl ?_
  refine l_bz (p' := 44) (z := (nI 15)) rfl rfl rfl rfl rfl hk ?_
  refine l_sp (p' := 1048) (ls' := _) rfl rfl rfl rfl rfl ?_
  refine l_aldn (p' := 1049) rfl rfl rfl rfl ?_
  refine l_alds (p' := 1050) rfl rfl rfl rfl ?_
  refine l_ild (p' := 1052) rfl rfl rfl rfl ?_
  refine l_con (p' := 1053) rfl rfl rfl ?_
  refine l_bz (p' := 1054) (z := (nI 1)) rfl rfl rfl rfl rfl (by decide +kernel) ?_
  refine l_ialz (p' := 1055) (m := 1) (z := p) rfl rfl (by decide +kernel) rfl hx1 rfl ?_
  refine l_alds (p' := 1056) rfl rfl rfl rfl ?_
  refine l_ild (p' := 1058) rfl rfl rfl rfl ?_
  refine l_con (p' := 1059) rfl rfl rfl ?_
  refine l_bz (p' := 1060) (z := (nI 2)) rfl rfl rfl rfl rfl (by decide +kernel) ?_
  refine l_ialz (p' := 1061) (m := 2) (z := y) rfl rfl (by decide +kernel) rfl hx2 rfl ?_
  refine l_if (p' := 1068) true rfl rfl ((cg_eq (w := 0) (by decide +kernel)).trans (decide_eq_true (by omega))) rfl ?_
  refine l_con (p' := 1069) rfl rfl rfl ?_
  refine l_aldn (p' := 1070) rfl rfl rfl rfl ?_
  refine l_call (p' := 1073) (kc := 99) (ls0 := [_, _, _, _, _]) rfl rfl rfl rfl rfl rfl rfl rfl rfl rfl ?_
  refine s_aldn (p' := 1) rfl rfl rfl ?_
  refine s_con (p' := 2) rfl rfl ?_
  refine s_aldn (p' := 3) rfl rfl rfl ?_
  refine s_ildn (p' := 4) rfl rfl rfl ?_
  refine s_ildn (p' := 5) rfl rfl rfl ?_
  refine c_call (p' := 8) (kc := 98) (ls0 := [_, _, _, _]) rfl rfl rfl rfl rfl (mj_rcv_is H0) rfl rfl rfl ?_
  refine s_ildn (p' := 1) rfl rfl rfl ?_
  refine s_con (p' := 2) rfl rfl ?_
  refine s_icmp (p' := 12) true rfl ((cg_lt (w := 1) (by decide +kernel)).trans (decide_eq_true (by omega))) rfl ?_
  refine s_thrz (q := 414) rfl HL rfl ?_
  refine K_c (hp := 13) rfl (mj_ocl_is (rd_nw rfl HL)) rfl ?_
  refine s_ast (p' := 15) (ls' := [_, _, _, _, _]) rfl rfl rfl rfl ?_
  refine s_con (p' := 16) rfl rfl ?_
  refine k_iret rfl rfl ?_
  refine l_ist (p' := 1075) (ls' := [_, _, _, _, _, _, _, _, _, _]) rfl rfl rfl rfl rfl ?_
  refine l_aldn (p' := 1076) rfl rfl rfl rfl ?_
  refine l_alds (p' := 1077) rfl rfl rfl rfl ?_
  refine l_ild (p' := 1079) rfl rfl rfl rfl ?_
  refine l_con (p' := 1080) rfl rfl rfl ?_
  refine l_bz (p' := 1081) (z := (nI 1)) rfl rfl rfl rfl rfl (by decide +kernel) ?_
  refine l_ialz (p' := 1082) (m := 1) (z := p) rfl rfl (by decide +kernel) rfl hx1 rfl ?_
  refine l_alds (p' := 1083) rfl rfl rfl rfl ?_
  refine l_ild (p' := 1085) rfl rfl rfl rfl ?_
  refine l_con (p' := 1086) rfl rfl rfl ?_
  refine l_bz (p' := 1087) (z := (nI 2)) rfl rfl rfl rfl rfl (by decide +kernel) ?_
  refine l_ialz (p' := 1088) (m := 2) (z := y) rfl rfl (by decide +kernel) rfl hx2 rfl ?_
  refine l_if (p' := 1095) true rfl rfl ((cg_eq (w := 0) (by decide +kernel)).trans (decide_eq_true (by omega))) rfl ?_
  refine l_con (p' := 1096) rfl rfl rfl ?_
  refine l_call (p' := 1099) (kc := 99) (ls0 := [_, _, _, _]) rfl rfl rfl rfl rfl rfl (mj_rcv_is (rd_app H400)) rfl rfl rfl ?_
  refine s_aldn (p' := 1) rfl rfl rfl ?_
  refine s_ildn (p' := 2) rfl rfl rfl ?_
  refine s_con (p' := 3) rfl rfl ?_
  refine s_sip (p' := 6) rfl rfl ?_
  refine c_call (p' := 9) (kc := 98) (ls0 := [_, _, _]) rfl rfl rfl rfl rfl rfl rfl rfl rfl ?_
  refine s_ildn (p' := 1) rfl rfl rfl ?_
  refine s_ildn (p' := 2) rfl rfl rfl ?_
  refine s_icmp (p' := 14) true rfl ((ch_gt (w := 1) (by decide +kernel)).trans (decide_eq_true (by omega))) rfl ?_
  refine s_con (p' := 15) rfl rfl ?_
  refine c_iret rfl (by decide +kernel) ?_
  refine s_if (p' := 12) false rfl (by decide +kernel) rfl ?_
  refine s_con (p' := 13) rfl rfl ?_
  refine s_goto (p' := 32) rfl rfl ?_
  refine c_call (p' := 35) (kc := 98) (ls0 := [_, _]) rfl rfl rfl rfl rfl (mj_rcv_is (rd_app H400)) rfl rfl rfl ?_
  refine s_aldn (p' := 1) rfl rfl rfl ?_
  refine s_ildn (p' := 2) rfl rfl rfl ?_
  refine s_pfz (p' := 5) (fs' := [_, _, _, _, _, _, _, _, _, _, _]) rfl rfl (rd_app H400) rfl rfl rfl rfl ?_
  refine s_ildn (p' := 6) rfl rfl rfl ?_
  refine s_if (p' := 9) false rfl (by decide +kernel) rfl ?_
  refine s_con (p' := 10) rfl rfl ?_
  refine s_goto (p' := 14) rfl rfl ?_
  refine c_iret rfl (by decide +kernel) ?_
  refine s_if (p' := 38) false rfl (by decide +kernel) rfl ?_
  refine s_con (p' := 39) rfl rfl ?_
  refine k_iret rfl rfl ?_
  refine l_ist (p' := 1101) (ls' := [_, _, _, _, _, _, _, _, _, _]) rfl rfl rfl rfl rfl ?_
  refine l_aldn (p' := 1102) rfl rfl rfl rfl ?_
  refine l_call (p' := 1105) (kc := 99) (ls0 := [_]) rfl rfl rfl rfl rfl rfl (mj_rcv_is (rd_ss rfl (rd_app H400))) rfl rfl rfl ?_
  refine s_aldn (p' := 1) rfl rfl rfl ?_
  refine s_gf (p' := 4) rfl (rd_ss rfl (rd_app H400)) rfl rfl ?_
  refine k_iret rfl rfl ?_
  refine l_ild (p' := 1107) rfl rfl rfl rfl ?_
  refine l_icmp (p' := 1112) true rfl rfl (by decide +kernel) rfl ?_
  refine l_ild (p' := 1114) rfl rfl rfl rfl ?_
  refine l_if (p' := 1129) true rfl rfl (by decide +kernel) rfl ?_
  refine l_goto (p' := 2541) rfl rfl rfl ?_
  refine l_incz (p' := 2544) (w := (nI 4)) (ls' := [_, _, _, _, _, _, _, _, _, _]) rfl rfl rfl rfl (by decide +kernel) rfl rfl ?_
  refine l_goto (p' := 28) rfl rfl rfl ?_
  refine l_ild (p' := 30) rfl rfl rfl rfl ?_
  refine l_alds (p' := 31) rfl rfl rfl rfl ?_
  refine l_lens (p' := 32) rfl rfl rfl ?_
  refine l_con (p' := 33) rfl rfl rfl ?_
  refine l_bz (p' := 34) (z := (nI 0)) rfl rfl rfl rfl rfl (by decide +kernel) ?_
  refine l_icmp (p' := 2547) true rfl rfl (by decide +kernel) rfl ?_
  refine l_con (p' := 2548) rfl rfl rfl ?_
  refine l_end rfl rfl ?_
  exact ⟨Nat.le_trans (Nat.le_of_eq (len_s (len_a HL rfl))) (Nat.le_of_ble_eq_true rfl), Nat.le_trans (sz_s rfl (rd_app H400) rfl (sz_aa (k := 6) (m := 20006) rfl rfl HZ)) (Nat.le_of_ble_eq_true rfl)⟩
theorem p1_15_m0 {xs : Nat → Int32} {h : mj_H} (hk : xs 0 &&& nI 63 = nI 15) {p : Int32} (hx1 : xs 1 = p) {y : Int32} (hx2 : xs 2 = y) (hp : 500 < p.toInt) (hy : y.toInt = 0) (HL : h.length = 414) (HZ : mj_sz h ≤ 20000) (H0 : mj_rd h 0 = some (.inr (0, [.ref 1, .ref 38, .ref 299, .ref 336, .ref 373, .ref 375, .ref 378, .ref 381, .ref 387, .ref 393, .null, .null, .ref 397, .ref 398, .ref 399, .long (lN 0), .long (lN 0)]))) (H400 : mj_rd h 400 = some (.inr (17, [.int (nI 0), .ref 401, .ref 402, .ref 1000300, .long (lN 0), .long (lN 0), .ref 410, .null, .null, .null, .ref 411]))) : mj_fin 4 xs h := by
  unfold mj_fin
  refine l_ild (p' := 30) rfl rfl rfl rfl ?_
  refine l_alds (p' := 31) rfl rfl rfl rfl ?_
  refine l_lens (p' := 32) rfl rfl rfl ?_
  refine l_con (p' := 33) rfl rfl rfl ?_
  refine l_bz (p' := 34) (z := (nI 0)) rfl rfl rfl rfl rfl (by decide +kernel) ?_
  refine l_icmp (p' := 37) false rfl rfl (by decide +kernel) rfl ?_
  refine l_alds (p' := 38) rfl rfl rfl rfl ?_
  refine l_ild (p' := 40) rfl rfl rfl rfl ?_
  refine l_ialz (p' := 41) (m := 0) (z := (xs 0)) rfl rfl (by decide +kernel) rfl rfl rfl ?_
  refine l_bip (p' := 43) rfl rfl rfl ?_
  refine l_bz (p' := 44) (z := (nI 15)) rfl rfl rfl rfl rfl hk ?_
  refine l_sp (p' := 1048) (ls' := _) rfl rfl rfl rfl rfl ?_
  refine l_aldn (p' := 1049) rfl rfl rfl rfl ?_
  refine l_alds (p' := 1050) rfl rfl rfl rfl ?_
  refine l_ild (p' := 1052) rfl rfl rfl rfl ?_
  refine l_con (p' := 1053) rfl rfl rfl ?_
  refine l_bz (p' := 1054) (z := (nI 1)) rfl rfl rfl rfl rfl (by decide +kernel) ?_
  refine l_ialz (p' := 1055) (m := 1) (z := p) rfl rfl (by decide +kernel) rfl hx1 rfl ?_
  refine l_alds (p' := 1056) rfl rfl rfl rfl ?_
  refine l_ild (p' := 1058) rfl rfl rfl rfl ?_
  refine l_con (p' := 1059) rfl rfl rfl ?_
  refine l_bz (p' := 1060) (z := (nI 2)) rfl rfl rfl rfl rfl (by decide +kernel) ?_
  refine l_ialz (p' := 1061) (m := 2) (z := y) rfl rfl (by decide +kernel) rfl hx2 rfl ?_
  refine l_if (p' := 1068) true rfl rfl ((cg_eq (w := 0) (by decide +kernel)).trans (decide_eq_true (by omega))) rfl ?_
  refine l_con (p' := 1069) rfl rfl rfl ?_
  refine l_aldn (p' := 1070) rfl rfl rfl rfl ?_
  refine l_call (p' := 1073) (kc := 99) (ls0 := [_, _, _, _, _]) rfl rfl rfl rfl rfl rfl rfl rfl rfl rfl ?_
  refine s_aldn (p' := 1) rfl rfl rfl ?_
  refine s_con (p' := 2) rfl rfl ?_
  refine s_aldn (p' := 3) rfl rfl rfl ?_
  refine s_ildn (p' := 4) rfl rfl rfl ?_
  refine s_ildn (p' := 5) rfl rfl rfl ?_
  refine c_call (p' := 8) (kc := 98) (ls0 := [_, _, _, _]) rfl rfl rfl rfl rfl (mj_rcv_is H0) rfl rfl rfl ?_
  refine s_ildn (p' := 1) rfl rfl rfl ?_
  refine s_con (p' := 2) rfl rfl ?_
  refine s_icmp (p' := 5) false rfl ((cg_lt (w := 1) (by decide +kernel)).trans (decide_eq_false (by omega))) rfl ?_
  refine s_ildn (p' := 6) rfl rfl rfl ?_
  refine s_sip (p' := 9) rfl rfl ?_
  refine s_icmp (p' := 12) false rfl ((cg_le (w := 500) (by decide +kernel)).trans (decide_eq_false (by omega))) rfl ?_
  refine s_thrz (q := 414) rfl HL rfl ?_
  refine K_c (hp := 13) rfl (mj_ocl_is (rd_nw rfl HL)) rfl ?_
  refine s_ast (p' := 15) (ls' := [_, _, _, _, _]) rfl rfl rfl rfl ?_
  refine s_con (p' := 16) rfl rfl ?_
  refine k_iret rfl rfl ?_
  refine l_ist (p' := 1075) (ls' := [_, _, _, _, _, _, _, _, _, _]) rfl rfl rfl rfl rfl ?_
  refine l_aldn (p' := 1076) rfl rfl rfl rfl ?_
  refine l_alds (p' := 1077) rfl rfl rfl rfl ?_
  refine l_ild (p' := 1079) rfl rfl rfl rfl ?_
  refine l_con (p' := 1080) rfl rfl rfl ?_
  refine l_bz (p' := 1081) (z := (nI 1)) rfl rfl rfl rfl rfl (by decide +kernel) ?_
  refine l_ialz (p' := 1082) (m := 1) (z := p) rfl rfl (by decide +kernel) rfl hx1 rfl ?_
  refine l_alds (p' := 1083) rfl rfl rfl rfl ?_
  refine l_ild (p' := 1085) rfl rfl rfl rfl ?_
  refine l_con (p' := 1086) rfl rfl rfl ?_
  refine l_bz (p' := 1087) (z := (nI 2)) rfl rfl rfl rfl rfl (by decide +kernel) ?_
  refine l_ialz (p' := 1088) (m := 2) (z := y) rfl rfl (by decide +kernel) rfl hx2 rfl ?_
  refine l_if (p' := 1095) true rfl rfl ((cg_eq (w := 0) (by decide +kernel)).trans (decide_eq_true (by omega))) rfl ?_
  refine l_con (p' := 1096) rfl rfl rfl ?_
  refine l_call (p' := 1099) (kc := 99) (ls0 := [_, _, _, _]) rfl rfl rfl rfl rfl rfl (mj_rcv_is (rd_app H400)) rfl rfl rfl ?_
  refine s_aldn (p' := 1) rfl rfl rfl ?_
  refine s_ildn (p' := 2) rfl rfl rfl ?_
  refine s_con (p' := 3) rfl rfl ?_
  refine s_sip (p' := 6) rfl rfl ?_
  refine c_call (p' := 9) (kc := 98) (ls0 := [_, _, _]) rfl rfl rfl rfl rfl rfl rfl rfl rfl ?_
  refine s_ildn (p' := 1) rfl rfl rfl ?_
  refine s_ildn (p' := 2) rfl rfl rfl ?_
  refine s_icmp (p' := 5) false rfl ((ch_gt (w := 1) (by decide +kernel)).trans (decide_eq_false (by omega))) rfl ?_
  refine s_ildn (p' := 6) rfl rfl rfl ?_
  refine s_ildn (p' := 7) rfl rfl rfl ?_
  refine s_icmp (p' := 14) true rfl ((cg_gt (w := 500) (by decide +kernel)).trans (decide_eq_true (by omega))) rfl ?_
  refine s_con (p' := 15) rfl rfl ?_
  refine c_iret rfl (by decide +kernel) ?_
  refine s_if (p' := 12) false rfl (by decide +kernel) rfl ?_
  refine s_con (p' := 13) rfl rfl ?_
  refine s_goto (p' := 32) rfl rfl ?_
  refine c_call (p' := 35) (kc := 98) (ls0 := [_, _]) rfl rfl rfl rfl rfl (mj_rcv_is (rd_app H400)) rfl rfl rfl ?_
  refine s_aldn (p' := 1) rfl rfl rfl ?_
  refine s_ildn (p' := 2) rfl rfl rfl ?_
  refine s_pfz (p' := 5) (fs' := [_, _, _, _, _, _, _, _, _, _, _]) rfl rfl (rd_app H400) rfl rfl rfl rfl ?_
  refine s_ildn (p' := 6) rfl rfl rfl ?_
  refine s_if (p' := 9) false rfl (by decide +kernel) rfl ?_
  refine s_con (p' := 10) rfl rfl ?_
  refine s_goto (p' := 14) rfl rfl ?_
  refine c_iret rfl (by decide +kernel) ?_
  refine s_if (p' := 38) false rfl (by decide +kernel) rfl ?_
  refine s_con (p' := 39) rfl rfl ?_
  refine k_iret rfl rfl ?_
  refine l_ist (p' := 1101) (ls' := [_, _, _, _, _, _, _, _, _, _]) rfl rfl rfl rfl rfl ?_
  refine l_aldn (p' := 1102) rfl rfl rfl rfl ?_
  refine l_call (p' := 1105) (kc := 99) (ls0 := [_]) rfl rfl rfl rfl rfl rfl (mj_rcv_is (rd_ss rfl (rd_app H400))) rfl rfl rfl ?_
  refine s_aldn (p' := 1) rfl rfl rfl ?_
  refine s_gf (p' := 4) rfl (rd_ss rfl (rd_app H400)) rfl rfl ?_
  refine k_iret rfl rfl ?_
  refine l_ild (p' := 1107) rfl rfl rfl rfl ?_
  refine l_icmp (p' := 1112) true rfl rfl (by decide +kernel) rfl ?_
  refine l_ild (p' := 1114) rfl rfl rfl rfl ?_
  refine l_if (p' := 1129) true rfl rfl (by decide +kernel) rfl ?_
  refine l_goto (p' := 2541) rfl rfl rfl ?_
  refine l_incz (p' := 2544) (w := (nI 4)) (ls' := [_, _, _, _, _, _, _, _, _, _]) rfl rfl rfl rfl (by decide +kernel) rfl rfl ?_
  refine l_goto (p' := 28) rfl rfl rfl ?_
  refine l_ild (p' := 30) rfl rfl rfl rfl ?_
  refine l_alds (p' := 31) rfl rfl rfl rfl ?_
  refine l_lens (p' := 32) rfl rfl rfl ?_
  refine l_con (p' := 33) rfl rfl rfl ?_
  refine l_bz (p' := 34) (z := (nI 0)) rfl rfl rfl rfl rfl (by decide +kernel) ?_
  refine l_icmp (p' := 2547) true rfl rfl (by decide +kernel) rfl ?_
  refine l_con (p' := 2548) rfl rfl rfl ?_
  refine l_end rfl rfl ?_
  exact ⟨Nat.le_trans (Nat.le_of_eq (len_s (len_a HL rfl))) (Nat.le_of_ble_eq_true rfl), Nat.le_trans (sz_s rfl (rd_app H400) rfl (sz_aa (k := 6) (m := 20006) rfl rfl HZ)) (Nat.le_of_ble_eq_true rfl)⟩
theorem p1_15_o0 {xs : Nat → Int32} {h : mj_H} (hk : xs 0 &&& nI 63 = nI 15) {p : Int32} (hx1 : xs 1 = p) {y : Int32} (hx2 : xs 2 = y) (hp : 1 ≤ p.toInt ∧ p.toInt ≤ 500) (hy : y.toInt = 0) (HL : h.length = 414) (HZ : mj_sz h ≤ 20000) (H0 : mj_rd h 0 = some (.inr (0, [.ref 1, .ref 38, .ref 299, .ref 336, .ref 373, .ref 375, .ref 378, .ref 381, .ref 387, .ref 393, .null, .null, .ref 397, .ref 398, .ref 399, .long (lN 0), .long (lN 0)]))) (H381 : mj_rd h 381 = some (.inr (8, [.ref 38, .ref 375, .ref 382, .ref 383, .ref 384, .ref 385, .ref 386, .int (nI 0), .int (nI 0), .int (nI 0), .int (nI 0), .int (nI 0), .int (nI 0)]))) (H400 : mj_rd h 400 = some (.inr (17, [.int (nI 0), .ref 401, .ref 402, .ref 1000300, .long (lN 0), .long (lN 0), .ref 410, .null, .null, .null, .ref 411]))) (H402 : mj_rd h 402 = some (.inr (19, [.ref 403, .ref 404, .ref 405, .ref 406, .ref 407, .ref 408, .ref 409, .int (nI 0), .int (nI 4294967295), .int (nI 0), .ref 400]))) : mj_fin 4 xs h := by
  unfold mj_fin
  refine l_ild (p' := 30) rfl rfl rfl rfl ?_
  refine l_alds (p' := 31) rfl rfl rfl rfl ?_
  refine l_lens (p' := 32) rfl rfl rfl ?_
  refine l_con (p' := 33) rfl rfl rfl ?_
  refine l_bz (p' := 34) (z := (nI 0)) rfl rfl rfl rfl rfl (by decide +kernel) ?_
  refine l_icmp (p' := 37) false rfl rfl (by decide +kernel) rfl ?_
  refine l_alds (p' := 38) rfl rfl rfl rfl ?_
  refine l_ild (p' := 40) rfl rfl rfl rfl ?_
  refine l_ialz (p' := 41) (m := 0) (z := (xs 0)) rfl rfl (by decide +kernel) rfl rfl rfl ?_
  refine l_bip (p' := 43) rfl rfl rfl ?_
  refine l_bz (p' := 44) (z := (nI 15)) rfl rfl rfl rfl rfl hk ?_
  refine l_sp (p' := 1048) (ls' := _) rfl rfl rfl rfl rfl ?_
  refine l_aldn (p' := 1049) rfl rfl rfl rfl ?_
  refine l_alds (p' := 1050) rfl rfl rfl rfl ?_
  refine l_ild (p' := 1052) rfl rfl rfl rfl ?_
  refine l_con (p' := 1053) rfl rfl rfl ?_
  refine l_bz (p' := 1054) (z := (nI 1)) rfl rfl rfl rfl rfl (by decide +kernel) ?_
  refine l_ialz (p' := 1055) (m := 1) (z := p) rfl rfl (by decide +kernel) rfl hx1 rfl ?_
  refine l_alds (p' := 1056) rfl rfl rfl rfl ?_
  refine l_ild (p' := 1058) rfl rfl rfl rfl ?_
  refine l_con (p' := 1059) rfl rfl rfl ?_
  refine l_bz (p' := 1060) (z := (nI 2)) rfl rfl rfl rfl rfl (by decide +kernel) ?_
  refine l_ialz (p' := 1061) (m := 2) (z := y) rfl rfl (by decide +kernel) rfl hx2 rfl ?_
  refine l_if (p' := 1068) true rfl rfl ((cg_eq (w := 0) (by decide +kernel)).trans (decide_eq_true (by omega))) rfl ?_
  refine l_con (p' := 1069) rfl rfl rfl ?_
  refine l_aldn (p' := 1070) rfl rfl rfl rfl ?_
  refine l_call (p' := 1073) (kc := 99) (ls0 := [_, _, _, _, _]) rfl rfl rfl rfl rfl rfl rfl rfl rfl rfl ?_
  refine s_aldn (p' := 1) rfl rfl rfl ?_
  refine s_con (p' := 2) rfl rfl ?_
  refine s_aldn (p' := 3) rfl rfl rfl ?_
  refine s_ildn (p' := 4) rfl rfl rfl ?_
  refine s_ildn (p' := 5) rfl rfl rfl ?_
  refine c_call (p' := 8) (kc := 98) (ls0 := [_, _, _, _]) rfl rfl rfl rfl rfl (mj_rcv_is H0) rfl rfl rfl ?_
  refine s_ildn (p' := 1) rfl rfl rfl ?_
  refine s_con (p' := 2) rfl rfl ?_
  refine s_icmp (p' := 5) false rfl ((cg_lt (w := 1) (by decide +kernel)).trans (decide_eq_false (by omega))) rfl ?_
  refine s_ildn (p' := 6) rfl rfl rfl ?_
  refine s_sip (p' := 9) rfl rfl ?_
  refine s_icmp (p' := 22) true rfl ((cg_le (w := 500) (by decide +kernel)).trans (decide_eq_true (by omega))) rfl ?_
  refine s_aldn (p' := 23) rfl rfl rfl ?_
  refine s_gf (p' := 26) rfl H0 rfl rfl ?_
  refine s_gf (p' := 29) rfl H381 rfl rfl ?_
  refine s_if (p' := 32) false rfl (by decide +kernel) rfl ?_
  refine s_thrz (q := 414) rfl HL rfl ?_
  refine K_c (hp := 17) rfl (mj_ocl_is (rd_nw rfl HL)) rfl ?_
  refine s_ast (p' := 19) (ls' := [_, _, _, _, _]) rfl rfl rfl rfl ?_
  refine s_con (p' := 20) rfl rfl ?_
  refine k_iret rfl rfl ?_
  refine l_ist (p' := 1075) (ls' := [_, _, _, _, _, _, _, _, _, _]) rfl rfl rfl rfl rfl ?_
  refine l_aldn (p' := 1076) rfl rfl rfl rfl ?_
  refine l_alds (p' := 1077) rfl rfl rfl rfl ?_
  refine l_ild (p' := 1079) rfl rfl rfl rfl ?_
  refine l_con (p' := 1080) rfl rfl rfl ?_
  refine l_bz (p' := 1081) (z := (nI 1)) rfl rfl rfl rfl rfl (by decide +kernel) ?_
  refine l_ialz (p' := 1082) (m := 1) (z := p) rfl rfl (by decide +kernel) rfl hx1 rfl ?_
  refine l_alds (p' := 1083) rfl rfl rfl rfl ?_
  refine l_ild (p' := 1085) rfl rfl rfl rfl ?_
  refine l_con (p' := 1086) rfl rfl rfl ?_
  refine l_bz (p' := 1087) (z := (nI 2)) rfl rfl rfl rfl rfl (by decide +kernel) ?_
  refine l_ialz (p' := 1088) (m := 2) (z := y) rfl rfl (by decide +kernel) rfl hx2 rfl ?_
  refine l_if (p' := 1095) true rfl rfl ((cg_eq (w := 0) (by decide +kernel)).trans (decide_eq_true (by omega))) rfl ?_
  refine l_con (p' := 1096) rfl rfl rfl ?_
  refine l_call (p' := 1099) (kc := 99) (ls0 := [_, _, _, _]) rfl rfl rfl rfl rfl rfl (mj_rcv_is (rd_app H400)) rfl rfl rfl ?_
  refine s_aldn (p' := 1) rfl rfl rfl ?_
  refine s_ildn (p' := 2) rfl rfl rfl ?_
  refine s_con (p' := 3) rfl rfl ?_
  refine s_sip (p' := 6) rfl rfl ?_
  refine c_call (p' := 9) (kc := 98) (ls0 := [_, _, _]) rfl rfl rfl rfl rfl rfl rfl rfl rfl ?_
  refine s_ildn (p' := 1) rfl rfl rfl ?_
  refine s_ildn (p' := 2) rfl rfl rfl ?_
  refine s_icmp (p' := 5) false rfl ((ch_gt (w := 1) (by decide +kernel)).trans (decide_eq_false (by omega))) rfl ?_
  refine s_ildn (p' := 6) rfl rfl rfl ?_
  refine s_ildn (p' := 7) rfl rfl rfl ?_
  refine s_icmp (p' := 10) false rfl ((cg_gt (w := 500) (by decide +kernel)).trans (decide_eq_false (by omega))) rfl ?_
  refine s_con (p' := 11) rfl rfl ?_
  refine s_goto (p' := 15) rfl rfl ?_
  refine c_iret rfl (by decide +kernel) ?_
  refine s_if (p' := 16) true rfl (by decide +kernel) rfl ?_
  refine s_aldn (p' := 17) rfl rfl rfl ?_
  refine s_gf (p' := 20) rfl (rd_app H400) rfl rfl ?_
  refine s_gf (p' := 23) rfl (rd_app H402) rfl rfl ?_
  refine s_con (p' := 24) rfl rfl ?_
  refine s_icmp (p' := 27) false rfl (by decide +kernel) rfl ?_
  refine s_con (p' := 28) rfl rfl ?_
  refine s_goto (p' := 32) rfl rfl ?_
  refine c_call (p' := 35) (kc := 98) (ls0 := [_, _]) rfl rfl rfl rfl rfl (mj_rcv_is (rd_app H400)) rfl rfl rfl ?_
  refine s_aldn (p' := 1) rfl rfl rfl ?_
  refine s_ildn (p' := 2) rfl rfl rfl ?_
  refine s_pfz (p' := 5) (fs' := [_, _, _, _, _, _, _, _, _, _, _]) rfl rfl (rd_app H400) rfl rfl rfl rfl ?_
  refine s_ildn (p' := 6) rfl rfl rfl ?_
  refine s_if (p' := 9) false rfl (by decide +kernel) rfl ?_
  refine s_con (p' := 10) rfl rfl ?_
  refine s_goto (p' := 14) rfl rfl ?_
  refine c_iret rfl (by decide +kernel) ?_
  refine s_if (p' := 38) false rfl (by decide +kernel) rfl ?_
  refine s_con (p' := 39) rfl rfl ?_
  refine k_iret rfl rfl ?_
  refine l_ist (p' := 1101) (ls' := [_, _, _, _, _, _, _, _, _, _]) rfl rfl rfl rfl rfl ?_
  refine l_aldn (p' := 1102) rfl rfl rfl rfl ?_
  refine l_call (p' := 1105) (kc := 99) (ls0 := [_]) rfl rfl rfl rfl rfl rfl (mj_rcv_is (rd_ss rfl (rd_app H400))) rfl rfl rfl ?_
  refine s_aldn (p' := 1) rfl rfl rfl ?_
  refine s_gf (p' := 4) rfl (rd_ss rfl (rd_app H400)) rfl rfl ?_
  refine k_iret rfl rfl ?_
  refine l_ild (p' := 1107) rfl rfl rfl rfl ?_
  refine l_icmp (p' := 1112) true rfl rfl (by decide +kernel) rfl ?_
  refine l_ild (p' := 1114) rfl rfl rfl rfl ?_
  refine l_if (p' := 1129) true rfl rfl (by decide +kernel) rfl ?_
  refine l_goto (p' := 2541) rfl rfl rfl ?_
  refine l_incz (p' := 2544) (w := (nI 4)) (ls' := [_, _, _, _, _, _, _, _, _, _]) rfl rfl rfl rfl (by decide +kernel) rfl rfl ?_
  refine l_goto (p' := 28) rfl rfl rfl ?_
  refine l_ild (p' := 30) rfl rfl rfl rfl ?_
  refine l_alds (p' := 31) rfl rfl rfl rfl ?_
  refine l_lens (p' := 32) rfl rfl rfl ?_
  refine l_con (p' := 33) rfl rfl rfl ?_
  refine l_bz (p' := 34) (z := (nI 0)) rfl rfl rfl rfl rfl (by decide +kernel) ?_
  refine l_icmp (p' := 2547) true rfl rfl (by decide +kernel) rfl ?_
  refine l_con (p' := 2548) rfl rfl rfl ?_
  refine l_end rfl rfl ?_
  exact ⟨Nat.le_trans (Nat.le_of_eq (len_s (len_a HL rfl))) (Nat.le_of_ble_eq_true rfl), Nat.le_trans (sz_s rfl (rd_app H400) rfl (sz_aa (k := 6) (m := 20006) rfl rfl HZ)) (Nat.le_of_ble_eq_true rfl)⟩
theorem p1_15_n1 {xs : Nat → Int32} {h : mj_H} (hk : xs 0 &&& nI 63 = nI 15) {p : Int32} (hx1 : xs 1 = p) {y : Int32} (hx2 : xs 2 = y) (hp : p.toInt < 1) (hy : ¬ y.toInt = 0) (HL : h.length = 414) (HZ : mj_sz h ≤ 20000) (H0 : mj_rd h 0 = some (.inr (0, [.ref 1, .ref 38, .ref 299, .ref 336, .ref 373, .ref 375, .ref 378, .ref 381, .ref 387, .ref 393, .null, .null, .ref 397, .ref 398, .ref 399, .long (lN 0), .long (lN 0)]))) (H400 : mj_rd h 400 = some (.inr (17, [.int (nI 0), .ref 401, .ref 402, .ref 1000300, .long (lN 0), .long (lN 0), .ref 410, .null, .null, .null, .ref 411]))) : mj_fin 4 xs h := by
  unfold mj_fin
  refine l_ild (p' := 30) rfl rfl rfl rfl ?_
  refine l_alds (p' := 31) rfl rfl rfl rfl ?_
  refine l_lens (p' := 32) rfl rfl rfl ?_
  refine l_con (p' := 33) rfl rfl rfl ?_
  refine l_bz (p' := 34) (z := (nI 0)) rfl rfl rfl rfl rfl (by decide +kernel) ?_
  refine l_icmp (p' := 37) false rfl rfl (by decide +kernel) rfl ?_
  refine l_alds (p' := 38) rfl rfl rfl rfl ?_
  refine l_ild (p' := 40) rfl rfl rfl rfl ?_
  refine l_ialz (p' := 41) (m := 0) (z := (xs 0)) rfl rfl (by decide +kernel) rfl rfl rfl ?_
  refine l_bip (p' := 43) rfl rfl rfl ?_
  refine l_bz (p' := 44) (z := (nI 15)) rfl rfl rfl rfl rfl hk ?_
  refine l_sp (p' := 1048) (ls' := _) rfl rfl rfl rfl rfl ?_
  refine l_aldn (p' := 1049) rfl rfl rfl rfl ?_
  refine l_alds (p' := 1050) rfl rfl rfl rfl ?_
  refine l_ild (p' := 1052) rfl rfl rfl rfl ?_
  refine l_con (p' := 1053) rfl rfl rfl ?_
  refine l_bz (p' := 1054) (z := (nI 1)) rfl rfl rfl rfl rfl (by decide +kernel) ?_
  refine l_ialz (p' := 1055) (m := 1) (z := p) rfl rfl (by decide +kernel) rfl hx1 rfl ?_
  refine l_alds (p' := 1056) rfl rfl rfl rfl ?_
  refine l_ild (p' := 1058) rfl rfl rfl rfl ?_
  refine l_con (p' := 1059) rfl rfl rfl ?_
  refine l_bz (p' := 1060) (z := (nI 2)) rfl rfl rfl rfl rfl (by decide +kernel) ?_
  refine l_ialz (p' := 1061) (m := 2) (z := y) rfl rfl (by decide +kernel) rfl hx2 rfl ?_
  refine l_if (p' := 1064) false rfl rfl ((cg_eq (w := 0) (by decide +kernel)).trans (decide_eq_false (by omega))) rfl ?_
  refine l_con (p' := 1065) rfl rfl rfl ?_
  refine l_goto (p' := 1069) rfl rfl rfl ?_
  refine l_aldn (p' := 1070) rfl rfl rfl rfl ?_
  refine l_call (p' := 1073) (kc := 99) (ls0 := [_, _, _, _, _]) rfl rfl rfl rfl rfl rfl rfl rfl rfl rfl ?_
  refine s_aldn (p' := 1) rfl rfl rfl ?_
  refine s_con (p' := 2) rfl rfl ?_
  refine s_aldn (p' := 3) rfl rfl rfl ?_
  refine s_ildn (p' := 4) rfl rfl rfl ?_
  refine s_ildn (p' := 5) rfl rfl rfl ?_
  refine c_call (p' := 8) (kc := 98) (ls0 := [_, _, _, _]) rfl rfl rfl rfl rfl (mj_rcv_is H0) rfl rfl rfl ?_
  refine s_ildn (p' := 1) rfl rfl rfl ?_
  refine s_con (p' := 2) rfl rfl ?_
  refine s_icmp (p' := 12) true rfl ((cg_lt (w := 1) (by decide +kernel)).trans (decide_eq_true (by omega))) rfl ?_
  refine s_thrz (q := 414) rfl HL rfl ?_
  refine K_c (hp := 13) rfl (mj_ocl_is (rd_nw rfl HL)) rfl ?_
  refine s_ast (p' := 15) (ls' := [_, _, _, _, _]) rfl rfl rfl rfl ?_
  refine s_con (p' := 16) rfl rfl ?_
  refine k_iret rfl rfl ?_
  refine l_ist (p' := 1075) (ls' := [_, _, _, _, _, _, _, _, _, _]) rfl rfl rfl rfl rfl ?_
  refine l_aldn (p' := 1076) rfl rfl rfl rfl ?_
  refine l_alds (p' := 1077) rfl rfl rfl rfl ?_
  refine l_ild (p' := 1079) rfl rfl rfl rfl ?_
  refine l_con (p' := 1080) rfl rfl rfl ?_
  refine l_bz (p' := 1081) (z := (nI 1)) rfl rfl rfl rfl rfl (by decide +kernel) ?_
  refine l_ialz (p' := 1082) (m := 1) (z := p) rfl rfl (by decide +kernel) rfl hx1 rfl ?_
  refine l_alds (p' := 1083) rfl rfl rfl rfl ?_
  refine l_ild (p' := 1085) rfl rfl rfl rfl ?_
  refine l_con (p' := 1086) rfl rfl rfl ?_
  refine l_bz (p' := 1087) (z := (nI 2)) rfl rfl rfl rfl rfl (by decide +kernel) ?_
  refine l_ialz (p' := 1088) (m := 2) (z := y) rfl rfl (by decide +kernel) rfl hx2 rfl ?_
  refine l_if (p' := 1091) false rfl rfl ((cg_eq (w := 0) (by decide +kernel)).trans (decide_eq_false (by omega))) rfl ?_
  refine l_con (p' := 1092) rfl rfl rfl ?_
  refine l_goto (p' := 1096) rfl rfl rfl ?_
  refine l_call (p' := 1099) (kc := 99) (ls0 := [_, _, _, _]) rfl rfl rfl rfl rfl rfl (mj_rcv_is (rd_app H400)) rfl rfl rfl ?_
  refine s_aldn (p' := 1) rfl rfl rfl ?_
  refine s_ildn (p' := 2) rfl rfl rfl ?_
  refine s_con (p' := 3) rfl rfl ?_
  refine s_sip (p' := 6) rfl rfl ?_
  refine c_call (p' := 9) (kc := 98) (ls0 := [_, _, _]) rfl rfl rfl rfl rfl rfl rfl rfl rfl ?_
  refine s_ildn (p' := 1) rfl rfl rfl ?_
  refine s_ildn (p' := 2) rfl rfl rfl ?_
  refine s_icmp (p' := 14) true rfl ((ch_gt (w := 1) (by decide +kernel)).trans (decide_eq_true (by omega))) rfl ?_
  refine s_con (p' := 15) rfl rfl ?_
  refine c_iret rfl (by decide +kernel) ?_
  refine s_if (p' := 12) false rfl (by decide +kernel) rfl ?_
  refine s_con (p' := 13) rfl rfl ?_
  refine s_goto (p' := 32) rfl rfl ?_
  refine c_call (p' := 35) (kc := 98) (ls0 := [_, _]) rfl rfl rfl rfl rfl (mj_rcv_is (rd_app H400)) rfl rfl rfl ?_
  refine s_aldn (p' := 1) rfl rfl rfl ?_
  refine s_ildn (p' := 2) rfl rfl rfl ?_
  refine s_pfz (p' := 5) (fs' := [_, _, _, _, _, _, _, _, _, _, _]) rfl rfl (rd_app H400) rfl rfl rfl rfl ?_
  refine s_ildn (p' := 6) rfl rfl rfl ?_
  refine s_if (p' := 9) false rfl (by decide +kernel) rfl ?_
  refine s_con (p' := 10) rfl rfl ?_
  refine s_goto (p' := 14) rfl rfl ?_
  refine c_iret rfl (by decide +kernel) ?_
  refine s_if (p' := 38) false rfl (by decide +kernel) rfl ?_
  refine s_con (p' := 39) rfl rfl ?_
  refine k_iret rfl rfl ?_
  refine l_ist (p' := 1101) (ls' := [_, _, _, _, _, _, _, _, _, _]) rfl rfl rfl rfl rfl ?_
  refine l_aldn (p' := 1102) rfl rfl rfl rfl ?_
  refine l_call (p' := 1105) (kc := 99) (ls0 := [_]) rfl rfl rfl rfl rfl rfl (mj_rcv_is (rd_ss rfl (rd_app H400))) rfl rfl rfl ?_
  refine s_aldn (p' := 1) rfl rfl rfl ?_
  refine s_gf (p' := 4) rfl (rd_ss rfl (rd_app H400)) rfl rfl ?_
  refine k_iret rfl rfl ?_
  refine l_ild (p' := 1107) rfl rfl rfl rfl ?_
  refine l_icmp (p' := 1112) true rfl rfl (by decide +kernel) rfl ?_
  refine l_ild (p' := 1114) rfl rfl rfl rfl ?_
  refine l_if (p' := 1129) true rfl rfl (by decide +kernel) rfl ?_
  refine l_goto (p' := 2541) rfl rfl rfl ?_
  refine l_incz (p' := 2544) (w := (nI 4)) (ls' := [_, _, _, _, _, _, _, _, _, _]) rfl rfl rfl rfl (by decide +kernel) rfl rfl ?_
  refine l_goto (p' := 28) rfl rfl rfl ?_
  refine l_ild (p' := 30) rfl rfl rfl rfl ?_
  refine l_alds (p' := 31) rfl rfl rfl rfl ?_
  refine l_lens (p' := 32) rfl rfl rfl ?_
  refine l_con (p' := 33) rfl rfl rfl ?_
  refine l_bz (p' := 34) (z := (nI 0)) rfl rfl rfl rfl rfl (by decide +kernel) ?_
  refine l_icmp (p' := 2547) true rfl rfl (by decide +kernel) rfl ?_
  refine l_con (p' := 2548) rfl rfl rfl ?_
  refine l_end rfl rfl ?_
  exact ⟨Nat.le_trans (Nat.le_of_eq (len_s (len_a HL rfl))) (Nat.le_of_ble_eq_true rfl), Nat.le_trans (sz_s rfl (rd_app H400) rfl (sz_aa (k := 6) (m := 20006) rfl rfl HZ)) (Nat.le_of_ble_eq_true rfl)⟩
theorem p1_15_m1 {xs : Nat → Int32} {h : mj_H} (hk : xs 0 &&& nI 63 = nI 15) {p : Int32} (hx1 : xs 1 = p) {y : Int32} (hx2 : xs 2 = y) (hp : 500 < p.toInt) (hy : ¬ y.toInt = 0) (HL : h.length = 414) (HZ : mj_sz h ≤ 20000) (H0 : mj_rd h 0 = some (.inr (0, [.ref 1, .ref 38, .ref 299, .ref 336, .ref 373, .ref 375, .ref 378, .ref 381, .ref 387, .ref 393, .null, .null, .ref 397, .ref 398, .ref 399, .long (lN 0), .long (lN 0)]))) (H400 : mj_rd h 400 = some (.inr (17, [.int (nI 0), .ref 401, .ref 402, .ref 1000300, .long (lN 0), .long (lN 0), .ref 410, .null, .null, .null, .ref 411]))) : mj_fin 4 xs h := by
  unfold mj_fin
  refine l_ild (p' := 30) rfl rfl rfl rfl ?_
  refine l_alds (p' := 31) rfl rfl rfl rfl ?_
  refine l_lens (p' := 32) rfl rfl rfl ?_
  refine l_con (p' := 33) rfl rfl rfl ?_
  refine l_bz (p' := 34) (z := (nI 0)) rfl rfl rfl rfl rfl (by decide +kernel) ?_
  refine l_icmp (p' := 37) false rfl rfl (by decide +kernel) rfl ?_
  refine l_alds (p' := 38) rfl rfl rfl rfl ?_
  refine l_ild (p' := 40) rfl rfl rfl rfl ?_
  refine l_ialz (p' := 41) (m := 0) (z := (xs 0)) rfl rfl (by decide +kernel) rfl rfl rfl ?_
  refine l_bip (p' := 43) rfl rfl rfl ?_
  refine l_bz (p' := 44) (z := (nI 15)) rfl rfl rfl rfl rfl hk ?_
  refine l_sp (p' := 1048) (ls' := _) rfl rfl rfl rfl rfl ?_
  refine l_aldn (p' := 1049) rfl rfl rfl rfl ?_
  refine l_alds (p' := 1050) rfl rfl rfl rfl ?_
  refine l_ild (p' := 1052) rfl rfl rfl rfl ?_
  refine l_con (p' := 1053) rfl rfl rfl ?_
  refine l_bz (p' := 1054) (z := (nI 1)) rfl rfl rfl rfl rfl (by decide +kernel) ?_
  refine l_ialz (p' := 1055) (m := 1) (z := p) rfl rfl (by decide +kernel) rfl hx1 rfl ?_
  refine l_alds (p' := 1056) rfl rfl rfl rfl ?_
  refine l_ild (p' := 1058) rfl rfl rfl rfl ?_
  refine l_con (p' := 1059) rfl rfl rfl ?_
  refine l_bz (p' := 1060) (z := (nI 2)) rfl rfl rfl rfl rfl (by decide +kernel) ?_
  refine l_ialz (p' := 1061) (m := 2) (z := y) rfl rfl (by decide +kernel) rfl hx2 rfl ?_
  refine l_if (p' := 1064) false rfl rfl ((cg_eq (w := 0) (by decide +kernel)).trans (decide_eq_false (by omega))) rfl ?_
  refine l_con (p' := 1065) rfl rfl rfl ?_
  refine l_goto (p' := 1069) rfl rfl rfl ?_
  refine l_aldn (p' := 1070) rfl rfl rfl rfl ?_
  refine l_call (p' := 1073) (kc := 99) (ls0 := [_, _, _, _, _]) rfl rfl rfl rfl rfl rfl rfl rfl rfl rfl ?_
  refine s_aldn (p' := 1) rfl rfl rfl ?_
  refine s_con (p' := 2) rfl rfl ?_
  refine s_aldn (p' := 3) rfl rfl rfl ?_
  refine s_ildn (p' := 4) rfl rfl rfl ?_
  refine s_ildn (p' := 5) rfl rfl rfl ?_
  refine c_call (p' := 8) (kc := 98) (ls0 := [_, _, _, _]) rfl rfl rfl rfl rfl (mj_rcv_is H0) rfl rfl rfl ?_
  refine s_ildn (p' := 1) rfl rfl rfl ?_
  refine s_con (p' := 2) rfl rfl ?_
  refine s_icmp (p' := 5) false rfl ((cg_lt (w := 1) (by decide +kernel)).trans (decide_eq_false (by omega))) rfl ?_
  refine s_ildn (p' := 6) rfl rfl rfl ?_
  refine s_sip (p' := 9) rfl rfl ?_
  refine s_icmp (p' := 12) false rfl ((cg_le (w := 500) (by decide +kernel)).trans (decide_eq_false (by omega))) rfl ?_
  refine s_thrz (q := 414) rfl HL rfl ?_
  refine K_c (hp := 13) rfl (mj_ocl_is (rd_nw rfl HL)) rfl ?_
  refine s_ast (p' := 15) (ls' := [_, _, _, _, _]) rfl rfl rfl rfl ?_
  refine s_con (p' := 16) rfl rfl ?_
  refine k_iret rfl rfl ?_
  refine l_ist (p' := 1075) (ls' := [_, _, _, _, _, _, _, _, _, _]) rfl rfl rfl rfl rfl ?_
  refine l_aldn (p' := 1076) rfl rfl rfl rfl ?_
  refine l_alds (p' := 1077) rfl rfl rfl rfl ?_
  refine l_ild (p' := 1079) rfl rfl rfl rfl ?_
  refine l_con (p' := 1080) rfl rfl rfl ?_
  refine l_bz (p' := 1081) (z := (nI 1)) rfl rfl rfl rfl rfl (by decide +kernel) ?_
  refine l_ialz (p' := 1082) (m := 1) (z := p) rfl rfl (by decide +kernel) rfl hx1 rfl ?_
  refine l_alds (p' := 1083) rfl rfl rfl rfl ?_
  refine l_ild (p' := 1085) rfl rfl rfl rfl ?_
  refine l_con (p' := 1086) rfl rfl rfl ?_
  refine l_bz (p' := 1087) (z := (nI 2)) rfl rfl rfl rfl rfl (by decide +kernel) ?_
  refine l_ialz (p' := 1088) (m := 2) (z := y) rfl rfl (by decide +kernel) rfl hx2 rfl ?_
  refine l_if (p' := 1091) false rfl rfl ((cg_eq (w := 0) (by decide +kernel)).trans (decide_eq_false (by omega))) rfl ?_
  refine l_con (p' := 1092) rfl rfl rfl ?_
  refine l_goto (p' := 1096) rfl rfl rfl ?_
  refine l_call (p' := 1099) (kc := 99) (ls0 := [_, _, _, _]) rfl rfl rfl rfl rfl rfl (mj_rcv_is (rd_app H400)) rfl rfl rfl ?_
  refine s_aldn (p' := 1) rfl rfl rfl ?_
  refine s_ildn (p' := 2) rfl rfl rfl ?_
  refine s_con (p' := 3) rfl rfl ?_
  refine s_sip (p' := 6) rfl rfl ?_
  refine c_call (p' := 9) (kc := 98) (ls0 := [_, _, _]) rfl rfl rfl rfl rfl rfl rfl rfl rfl ?_
  refine s_ildn (p' := 1) rfl rfl rfl ?_
  refine s_ildn (p' := 2) rfl rfl rfl ?_
  refine s_icmp (p' := 5) false rfl ((ch_gt (w := 1) (by decide +kernel)).trans (decide_eq_false (by omega))) rfl ?_
  refine s_ildn (p' := 6) rfl rfl rfl ?_
  refine s_ildn (p' := 7) rfl rfl rfl ?_
  refine s_icmp (p' := 14) true rfl ((cg_gt (w := 500) (by decide +kernel)).trans (decide_eq_true (by omega))) rfl ?_
  refine s_con (p' := 15) rfl rfl ?_
  refine c_iret rfl (by decide +kernel) ?_
  refine s_if (p' := 12) false rfl (by decide +kernel) rfl ?_
  refine s_con (p' := 13) rfl rfl ?_
  refine s_goto (p' := 32) rfl rfl ?_
  refine c_call (p' := 35) (kc := 98) (ls0 := [_, _]) rfl rfl rfl rfl rfl (mj_rcv_is (rd_app H400)) rfl rfl rfl ?_
  refine s_aldn (p' := 1) rfl rfl rfl ?_
  refine s_ildn (p' := 2) rfl rfl rfl ?_
  refine s_pfz (p' := 5) (fs' := [_, _, _, _, _, _, _, _, _, _, _]) rfl rfl (rd_app H400) rfl rfl rfl rfl ?_
  refine s_ildn (p' := 6) rfl rfl rfl ?_
  refine s_if (p' := 9) false rfl (by decide +kernel) rfl ?_
  refine s_con (p' := 10) rfl rfl ?_
  refine s_goto (p' := 14) rfl rfl ?_
  refine c_iret rfl (by decide +kernel) ?_
  refine s_if (p' := 38) false rfl (by decide +kernel) rfl ?_
  refine s_con (p' := 39) rfl rfl ?_
  refine k_iret rfl rfl ?_
  refine l_ist (p' := 1101) (ls' := [_, _, _, _, _, _, _, _, _, _]) rfl rfl rfl rfl rfl ?_
  refine l_aldn (p' := 1102) rfl rfl rfl rfl ?_
  refine l_call (p' := 1105) (kc := 99) (ls0 := [_]) rfl rfl rfl rfl rfl rfl (mj_rcv_is (rd_ss rfl (rd_app H400))) rfl rfl rfl ?_
  refine s_aldn (p' := 1) rfl rfl rfl ?_
  refine s_gf (p' := 4) rfl (rd_ss rfl (rd_app H400)) rfl rfl ?_
  refine k_iret rfl rfl ?_
  refine l_ild (p' := 1107) rfl rfl rfl rfl ?_
  refine l_icmp (p' := 1112) true rfl rfl (by decide +kernel) rfl ?_
  refine l_ild (p' := 1114) rfl rfl rfl rfl ?_
  refine l_if (p' := 1129) true rfl rfl (by decide +kernel) rfl ?_
  refine l_goto (p' := 2541) rfl rfl rfl ?_
  refine l_incz (p' := 2544) (w := (nI 4)) (ls' := [_, _, _, _, _, _, _, _, _, _]) rfl rfl rfl rfl (by decide +kernel) rfl rfl ?_
  refine l_goto (p' := 28) rfl rfl rfl ?_
  refine l_ild (p' := 30) rfl rfl rfl rfl ?_
  refine l_alds (p' := 31) rfl rfl rfl rfl ?_
  refine l_lens (p' := 32) rfl rfl rfl ?_
  refine l_con (p' := 33) rfl rfl rfl ?_
  refine l_bz (p' := 34) (z := (nI 0)) rfl rfl rfl rfl rfl (by decide +kernel) ?_
  refine l_icmp (p' := 2547) true rfl rfl (by decide +kernel) rfl ?_
  refine l_con (p' := 2548) rfl rfl rfl ?_
  refine l_end rfl rfl ?_
  exact ⟨Nat.le_trans (Nat.le_of_eq (len_s (len_a HL rfl))) (Nat.le_of_ble_eq_true rfl), Nat.le_trans (sz_s rfl (rd_app H400) rfl (sz_aa (k := 6) (m := 20006) rfl rfl HZ)) (Nat.le_of_ble_eq_true rfl)⟩
theorem p1_15_o1 {xs : Nat → Int32} {h : mj_H} (hk : xs 0 &&& nI 63 = nI 15) {p : Int32} (hx1 : xs 1 = p) {y : Int32} (hx2 : xs 2 = y) (hp : 1 ≤ p.toInt ∧ p.toInt ≤ 500) (hy : ¬ y.toInt = 0) (HL : h.length = 414) (HZ : mj_sz h ≤ 20000) (H0 : mj_rd h 0 = some (.inr (0, [.ref 1, .ref 38, .ref 299, .ref 336, .ref 373, .ref 375, .ref 378, .ref 381, .ref 387, .ref 393, .null, .null, .ref 397, .ref 398, .ref 399, .long (lN 0), .long (lN 0)]))) (H381 : mj_rd h 381 = some (.inr (8, [.ref 38, .ref 375, .ref 382, .ref 383, .ref 384, .ref 385, .ref 386, .int (nI 0), .int (nI 0), .int (nI 0), .int (nI 0), .int (nI 0), .int (nI 0)]))) (H400 : mj_rd h 400 = some (.inr (17, [.int (nI 0), .ref 401, .ref 402, .ref 1000300, .long (lN 0), .long (lN 0), .ref 410, .null, .null, .null, .ref 411]))) (H402 : mj_rd h 402 = some (.inr (19, [.ref 403, .ref 404, .ref 405, .ref 406, .ref 407, .ref 408, .ref 409, .int (nI 0), .int (nI 4294967295), .int (nI 0), .ref 400]))) : mj_fin 4 xs h := by
  unfold mj_fin
  refine l_ild (p' := 30) rfl rfl rfl rfl ?_
  refine l_alds (p' := 31) rfl rfl rfl rfl ?_
  refine l_lens (p' := 32) rfl rfl rfl ?_
  refine l_con (p' := 33) rfl rfl rfl ?_
  refine l_bz (p' := 34) (z := (nI 0)) rfl rfl rfl rfl rfl (by decide +kernel) ?_
  refine l_icmp (p' := 37) false rfl rfl (by decide +kernel) rfl ?_
  refine l_alds (p' := 38) rfl rfl rfl rfl ?_
  refine l_ild (p' := 40) rfl rfl rfl rfl ?_
  refine l_ialz (p' := 41) (m := 0) (z := (xs 0)) rfl rfl (by decide +kernel) rfl rfl rfl ?_
  refine l_bip (p' := 43) rfl rfl rfl ?_
  refine l_bz (p' := 44) (z := (nI 15)) rfl rfl rfl rfl rfl hk ?_
  refine l_sp (p' := 1048) (ls' := _) rfl rfl rfl rfl rfl ?_
  refine l_aldn (p' := 1049) rfl rfl rfl rfl ?_
  refine l_alds (p' := 1050) rfl rfl rfl rfl ?_
  refine l_ild (p' := 1052) rfl rfl rfl rfl ?_
  refine l_con (p' := 1053) rfl rfl rfl ?_
  refine l_bz (p' := 1054) (z := (nI 1)) rfl rfl rfl rfl rfl (by decide +kernel) ?_
  refine l_ialz (p' := 1055) (m := 1) (z := p) rfl rfl (by decide +kernel) rfl hx1 rfl ?_
  refine l_alds (p' := 1056) rfl rfl rfl rfl ?_
  refine l_ild (p' := 1058) rfl rfl rfl rfl ?_
  refine l_con (p' := 1059) rfl rfl rfl ?_
  refine l_bz (p' := 1060) (z := (nI 2)) rfl rfl rfl rfl rfl (by decide +kernel) ?_
  refine l_ialz (p' := 1061) (m := 2) (z := y) rfl rfl (by decide +kernel) rfl hx2 rfl ?_
  refine l_if (p' := 1064) false rfl rfl ((cg_eq (w := 0) (by decide +kernel)).trans (decide_eq_false (by omega))) rfl ?_
  refine l_con (p' := 1065) rfl rfl rfl ?_
  refine l_goto (p' := 1069) rfl rfl rfl ?_
  refine l_aldn (p' := 1070) rfl rfl rfl rfl ?_
  refine l_call (p' := 1073) (kc := 99) (ls0 := [_, _, _, _, _]) rfl rfl rfl rfl rfl rfl rfl rfl rfl rfl ?_
  refine s_aldn (p' := 1) rfl rfl rfl ?_
  refine s_con (p' := 2) rfl rfl ?_
  refine s_aldn (p' := 3) rfl rfl rfl ?_
  refine s_ildn (p' := 4) rfl rfl rfl ?_
  refine s_ildn (p' := 5) rfl rfl rfl ?_
  refine c_call (p' := 8) (kc := 98) (ls0 := [_, _, _, _]) rfl rfl rfl rfl rfl (mj_rcv_is H0) rfl rfl rfl ?_
  refine s_ildn (p' := 1) rfl rfl rfl ?_
  refine s_con (p' := 2) rfl rfl ?_
  refine s_icmp (p' := 5) false rfl ((cg_lt (w := 1) (by decide +kernel)).trans (decide_eq_false (by omega))) rfl ?_
  refine s_ildn (p' := 6) rfl rfl rfl ?_
  refine s_sip (p' := 9) rfl rfl ?_
  refine s_icmp (p' := 22) true rfl ((cg_le (w := 500) (by decide +kernel)).trans (decide_eq_true (by omega))) rfl ?_
  refine s_aldn (p' := 23) rfl rfl rfl ?_
  refine s_gf (p' := 26) rfl H0 rfl rfl ?_
  refine s_gf (p' := 29) rfl H381 rfl rfl ?_
  refine s_if (p' := 32) false rfl (by decide +kernel) rfl ?_
  refine s_thrz (q := 414) rfl HL rfl ?_
  refine K_c (hp := 17) rfl (mj_ocl_is (rd_nw rfl HL)) rfl ?_
  refine s_ast (p' := 19) (ls' := [_, _, _, _, _]) rfl rfl rfl rfl ?_
  refine s_con (p' := 20) rfl rfl ?_
  refine k_iret rfl rfl ?_
  refine l_ist (p' := 1075) (ls' := [_, _, _, _, _, _, _, _, _, _]) rfl rfl rfl rfl rfl ?_
  refine l_aldn (p' := 1076) rfl rfl rfl rfl ?_
  refine l_alds (p' := 1077) rfl rfl rfl rfl ?_
  refine l_ild (p' := 1079) rfl rfl rfl rfl ?_
  refine l_con (p' := 1080) rfl rfl rfl ?_
  refine l_bz (p' := 1081) (z := (nI 1)) rfl rfl rfl rfl rfl (by decide +kernel) ?_
  refine l_ialz (p' := 1082) (m := 1) (z := p) rfl rfl (by decide +kernel) rfl hx1 rfl ?_
  refine l_alds (p' := 1083) rfl rfl rfl rfl ?_
  refine l_ild (p' := 1085) rfl rfl rfl rfl ?_
  refine l_con (p' := 1086) rfl rfl rfl ?_
  refine l_bz (p' := 1087) (z := (nI 2)) rfl rfl rfl rfl rfl (by decide +kernel) ?_
  refine l_ialz (p' := 1088) (m := 2) (z := y) rfl rfl (by decide +kernel) rfl hx2 rfl ?_
  refine l_if (p' := 1091) false rfl rfl ((cg_eq (w := 0) (by decide +kernel)).trans (decide_eq_false (by omega))) rfl ?_
  refine l_con (p' := 1092) rfl rfl rfl ?_
  refine l_goto (p' := 1096) rfl rfl rfl ?_
  refine l_call (p' := 1099) (kc := 99) (ls0 := [_, _, _, _]) rfl rfl rfl rfl rfl rfl (mj_rcv_is (rd_app H400)) rfl rfl rfl ?_
  refine s_aldn (p' := 1) rfl rfl rfl ?_
  refine s_ildn (p' := 2) rfl rfl rfl ?_
  refine s_con (p' := 3) rfl rfl ?_
  refine s_sip (p' := 6) rfl rfl ?_
  refine c_call (p' := 9) (kc := 98) (ls0 := [_, _, _]) rfl rfl rfl rfl rfl rfl rfl rfl rfl ?_
  refine s_ildn (p' := 1) rfl rfl rfl ?_
  refine s_ildn (p' := 2) rfl rfl rfl ?_
  refine s_icmp (p' := 5) false rfl ((ch_gt (w := 1) (by decide +kernel)).trans (decide_eq_false (by omega))) rfl ?_
  refine s_ildn (p' := 6) rfl rfl rfl ?_
  refine s_ildn (p' := 7) rfl rfl rfl ?_
  refine s_icmp (p' := 10) false rfl ((cg_gt (w := 500) (by decide +kernel)).trans (decide_eq_false (by omega))) rfl ?_
  refine s_con (p' := 11) rfl rfl ?_
  refine s_goto (p' := 15) rfl rfl ?_
  refine c_iret rfl (by decide +kernel) ?_
  refine s_if (p' := 16) true rfl (by decide +kernel) rfl ?_
  refine s_aldn (p' := 17) rfl rfl rfl ?_
  refine s_gf (p' := 20) rfl (rd_app H400) rfl rfl ?_
  refine s_gf (p' := 23) rfl (rd_app H402) rfl rfl ?_
  refine s_con (p' := 24) rfl rfl ?_
  refine s_icmp (p' := 27) false rfl (by decide +kernel) rfl ?_
  refine s_con (p' := 28) rfl rfl ?_
  refine s_goto (p' := 32) rfl rfl ?_
  refine c_call (p' := 35) (kc := 98) (ls0 := [_, _]) rfl rfl rfl rfl rfl (mj_rcv_is (rd_app H400)) rfl rfl rfl ?_
  refine s_aldn (p' := 1) rfl rfl rfl ?_
  refine s_ildn (p' := 2) rfl rfl rfl ?_
  refine s_pfz (p' := 5) (fs' := [_, _, _, _, _, _, _, _, _, _, _]) rfl rfl (rd_app H400) rfl rfl rfl rfl ?_
  refine s_ildn (p' := 6) rfl rfl rfl ?_
  refine s_if (p' := 9) false rfl (by decide +kernel) rfl ?_
  refine s_con (p' := 10) rfl rfl ?_
  refine s_goto (p' := 14) rfl rfl ?_
  refine c_iret rfl (by decide +kernel) ?_
  refine s_if (p' := 38) false rfl (by decide +kernel) rfl ?_
  refine s_con (p' := 39) rfl rfl ?_
  refine k_iret rfl rfl ?_
  refine l_ist (p' := 1101) (ls' := [_, _, _, _, _, _, _, _, _, _]) rfl rfl rfl rfl rfl ?_
  refine l_aldn (p' := 1102) rfl rfl rfl rfl ?_
  refine l_call (p' := 1105) (kc := 99) (ls0 := [_]) rfl rfl rfl rfl rfl rfl (mj_rcv_is (rd_ss rfl (rd_app H400))) rfl rfl rfl ?_
  refine s_aldn (p' := 1) rfl rfl rfl ?_
  refine s_gf (p' := 4) rfl (rd_ss rfl (rd_app H400)) rfl rfl ?_
  refine k_iret rfl rfl ?_
  refine l_ild (p' := 1107) rfl rfl rfl rfl ?_
  refine l_icmp (p' := 1112) true rfl rfl (by decide +kernel) rfl ?_
  refine l_ild (p' := 1114) rfl rfl rfl rfl ?_
  refine l_if (p' := 1129) true rfl rfl (by decide +kernel) rfl ?_
  refine l_goto (p' := 2541) rfl rfl rfl ?_
  refine l_incz (p' := 2544) (w := (nI 4)) (ls' := [_, _, _, _, _, _, _, _, _, _]) rfl rfl rfl rfl (by decide +kernel) rfl rfl ?_
  refine l_goto (p' := 28) rfl rfl rfl ?_
  refine l_ild (p' := 30) rfl rfl rfl rfl ?_
  refine l_alds (p' := 31) rfl rfl rfl rfl ?_
  refine l_lens (p' := 32) rfl rfl rfl ?_
  refine l_con (p' := 33) rfl rfl rfl ?_
  refine l_bz (p' := 34) (z := (nI 0)) rfl rfl rfl rfl rfl (by decide +kernel) ?_
  refine l_icmp (p' := 2547) true rfl rfl (by decide +kernel) rfl ?_
  refine l_con (p' := 2548) rfl rfl rfl ?_
  refine l_end rfl rfl ?_
  exact ⟨Nat.le_trans (Nat.le_of_eq (len_s (len_a HL rfl))) (Nat.le_of_ble_eq_true rfl), Nat.le_trans (sz_s rfl (rd_app H400) rfl (sz_aa (k := 6) (m := 20006) rfl rfl HZ)) (Nat.le_of_ble_eq_true rfl)⟩
theorem p1_10_0 {xs : Nat → Int32} {h : mj_H} (hk : xs 0 &&& nI 63 = nI 10)  (hc : ((xs 1).toUInt32 % 65536).toInt32 = nI 97) (HL : h.length = 414) (HZ : mj_sz h ≤ 20000) (H0 : mj_rd h 0 = some (.inr (0, [.ref 1, .ref 38, .ref 299, .ref 336, .ref 373, .ref 375, .ref 378, .ref 381, .ref 387, .ref 393, .null, .null, .ref 397, .ref 398, .ref 399, .long (lN 0), .long (lN 0)]))) (H375 : mj_rd h 375 = some (.inr (7, [.ref 376, .ref 377, .int (nI 0)]))) (H376 : mj_rd h 376 = some (.inl (0, (8, .inl (fun _ => 0))))) (H400 : mj_rd h 400 = some (.inr (17, [.int (nI 0), .ref 401, .ref 402, .ref 1000300, .long (lN 0), .long (lN 0), .ref 410, .null, .null, .null, .ref 411]))) (H402 : mj_rd h 402 = some (.inr (19, [.ref 403, .ref 404, .ref 405, .ref 406, .ref 407, .ref 408, .ref 409, .int (nI 0), .int (nI 4294967295), .int (nI 0), .ref 400]))) (H403 : mj_rd h 403 = some (.inl (0, (8, .inl (fun _ => 0))))) (H412 : mj_rd h 412 = some (.inl (4, (1, .inr (.inl (fun _ => 0)))))) : mj_fin 4 xs h := by
  unfold mj_fin
  refine l_ild (p' := 30) rfl rfl rfl rfl ?_
  refine l_alds (p' := 31) rfl rfl rfl rfl ?_
  refine l_lens (p' := 32) rfl rfl rfl ?_
  refine l_con (p' := 33) rfl rfl rfl ?_
  refine l_bz (p' := 34) (z := (nI 0)) rfl rfl rfl rfl rfl (by decide +kernel) ?_
  refine l_icmp (p' := 37) false rfl rfl (by decide +kernel) rfl ?_
  refine l_alds (p' := 38) rfl rfl rfl rfl ?_
  refine l_ild (p' := 40) rfl rfl rfl rfl ?_
  refine l_ialz (p' := 41) (m := 0) (z := (xs 0)) rfl rfl (by decide +kernel) rfl rfl rfl ?_
  refine l_bip (p' := 43) rfl rfl rfl ?_
  refine l_bz (p' := 44) (z := (nI 10)) rfl rfl rfl rfl rfl hk ?_
  refine l_sp (p' := 767) (ls' := _) rfl rfl rfl rfl rfl ?_
  refine l_aldn (p' := 768) rfl rfl rfl rfl ?_
  refine l_alds (p' := 769) rfl rfl rfl rfl ?_
  refine l_ild (p' := 771) rfl rfl rfl rfl ?_
  refine l_con (p' := 772) rfl rfl rfl ?_
  refine l_bz (p' := 773) (z := (nI 1)) rfl rfl rfl rfl rfl (by decide +kernel) ?_
  refine l_ialz (p' := 774) (m := 1) (z := (xs 1)) rfl rfl (by decide +kernel) rfl rfl rfl ?_
  refine l_bz (p' := 775) (z := (nI 97)) rfl rfl rfl rfl rfl hc ?_
  refine l_alds (p' := 776) rfl rfl rfl rfl ?_
  refine l_ild (p' := 778) rfl rfl rfl rfl ?_
  refine l_con (p' := 779) rfl rfl rfl ?_
  refine l_bz (p' := 780) (z := (nI 2)) rfl rfl rfl rfl rfl (by decide +kernel) ?_
  refine l_ialz (p' := 781) (m := 2) (z := (xs 2)) rfl rfl (by decide +kernel) rfl rfl rfl ?_
  refine l_aldn (p' := 782) rfl rfl rfl rfl ?_
  refine l_call (p' := 785) (kc := 99) (ls0 := [_, _, _, _, _]) rfl rfl rfl rfl rfl rfl rfl rfl rfl rfl ?_
  refine s_aldn (p' := 1) rfl rfl rfl ?_
  refine s_con (p' := 2) rfl rfl ?_
  refine s_aldn (p' := 3) rfl rfl rfl ?_
  refine s_ildn (p' := 4) rfl rfl rfl ?_
  refine s_ildn (p' := 5) rfl rfl rfl ?_
  refine c_call (p' := 8) (kc := 98) (ls0 := [_, _, _, _]) rfl rfl rfl rfl rfl (mj_rcv_is H0) rfl rfl rfl ?_
  refine s_ildn (p' := 1) rfl rfl rfl ?_
  refine c_call (p' := 4) (kc := 97) (ls0 := [_]) rfl rfl rfl rfl rfl rfl rfl rfl rfl ?_
  refine s_ildn (p' := 1) rfl rfl rfl ?_
  refine s_bip (p' := 3) rfl rfl ?_
  refine s_icmp (p' := 6) false rfl (by decide +kernel) rfl ?_
  refine s_ildn (p' := 7) rfl rfl rfl ?_
  refine s_bip (p' := 9) rfl rfl ?_
  refine s_icmp (p' := 12) false rfl (by decide +kernel) rfl ?_
  refine s_con (p' := 13) rfl rfl ?_
  refine s_goto (p' := 17) rfl rfl ?_
  refine c_iret rfl (by decide +kernel) ?_
  refine s_if (p' := 17) true rfl (by decide +kernel) rfl ?_
  refine s_aldn (p' := 18) rfl rfl rfl ?_
  refine s_gf (p' := 21) rfl H0 rfl rfl ?_
  refine s_ildn (p' := 22) rfl rfl rfl ?_
  refine s_bip (p' := 24) rfl rfl ?_
  refine s_bz (p' := 25) (z := (nI 0)) rfl rfl rfl (by decide +kernel) ?_
  refine c_call (p' := 28) (kc := 97) (ls0 := [_, _]) rfl rfl rfl rfl rfl (mj_rcv_is H375) rfl rfl rfl ?_
  refine s_ildn (p' := 1) rfl rfl rfl ?_
  refine s_if (p' := 4) false rfl (by decide +kernel) rfl ?_
  refine s_ildn (p' := 5) rfl rfl rfl ?_
  refine s_aldn (p' := 6) rfl rfl rfl ?_
  refine s_gf (p' := 9) rfl H375 rfl rfl ?_
  refine s_lenz (p' := 10) rfl (mj_rdA_is H376 (by decide)) rfl rfl ?_
  refine s_icmp (p' := 13) false rfl (by decide +kernel) rfl ?_
  refine s_aldn (p' := 14) rfl rfl rfl ?_
  refine s_gf (p' := 17) rfl H375 rfl rfl ?_
  refine s_ildn (p' := 18) rfl rfl rfl ?_
  refine s_ialz (p' := 19) (m := 0) (v := (nI 0)) rfl H376 (by decide +kernel) rfl (by decide +kernel) rfl ?_
  refine s_goto (p' := 23) rfl rfl ?_
  refine c_iret rfl rfl ?_
  refine s_istn (p' := 29) (ls' := [_, _, _, _]) rfl rfl rfl rfl ?_
  refine s_aldn (p' := 30) rfl rfl rfl ?_
  refine s_gf (p' := 33) rfl H0 rfl rfl ?_
  refine s_ildn (p' := 34) rfl rfl rfl ?_
  refine s_bip (p' := 36) rfl rfl ?_
  refine s_bz (p' := 37) (z := (nI 0)) rfl rfl rfl (by decide +kernel) ?_
  refine s_ildn (p' := 38) rfl rfl rfl ?_
  refine c_call (p' := 41) (kc := 97) (ls0 := [_, _, _]) rfl rfl rfl rfl rfl (mj_rcv_is H375) rfl rfl rfl ?_
  refine s_ildn (p' := 1) rfl rfl rfl ?_
  refine s_if (p' := 4) false rfl (by decide +kernel) rfl ?_
  refine s_ildn (p' := 5) rfl rfl rfl ?_
  refine s_aldn (p' := 6) rfl rfl rfl ?_
  refine s_gf (p' := 9) rfl H375 rfl rfl ?_
  refine s_lenz (p' := 10) rfl (mj_rdA_is H376 (by decide)) rfl rfl ?_
  refine s_icmp (p' := 13) false rfl (by decide +kernel) rfl ?_
  refine s_aldn (p' := 14) rfl rfl rfl ?_
  refine s_gf (p' := 17) rfl H375 rfl rfl ?_
  refine s_ildn (p' := 18) rfl rfl rfl ?_
  refine s_ildn (p' := 19) rfl rfl rfl ?_
  refine s_iasz (p' := 20) (m := 0) rfl rfl H376 (by decide +kernel) rfl rfl rfl ?_
  refine c_ret rfl ?_
  refine s_ildn (p' := 42) rfl rfl rfl ?_
  refine c_iret rfl rfl ?_
  refine s_bzL (p' := 9) (z := (lN 0)) rfl rfl rfl (by decide +kernel) ?_
  refine s_lasz (p' := 10) (m := 0) rfl rfl (rd_sn rfl H412) (by decide +kernel) rfl rfl rfl ?_
  refine s_goto (p' := 17) rfl rfl ?_
  refine s_con (p' := 18) rfl rfl ?_
  refine k_iret rfl rfl ?_
  refine l_ist (p' := 787) (ls' := [_, _, _, _, _, _, _, _, _, _]) rfl rfl rfl rfl rfl ?_
  refine l_aldn (p' := 788) rfl rfl rfl rfl ?_
  refine l_alds (p' := 789) rfl rfl rfl rfl ?_
  refine l_ild (p' := 791) rfl rfl rfl rfl ?_
  refine l_con (p' := 792) rfl rfl rfl ?_
  refine l_bz (p' := 793) (z := (nI 1)) rfl rfl rfl rfl rfl (by decide +kernel) ?_
  refine l_ialz (p' := 794) (m := 1) (z := (xs 1)) rfl rfl (by decide +kernel) rfl rfl rfl ?_
  refine l_bz (p' := 795) (z := (nI 97)) rfl rfl rfl rfl rfl hc ?_
  refine l_alds (p' := 796) rfl rfl rfl rfl ?_
  refine l_ild (p' := 798) rfl rfl rfl rfl ?_
  refine l_con (p' := 799) rfl rfl rfl ?_
  refine l_bz (p' := 800) (z := (nI 2)) rfl rfl rfl rfl rfl (by decide +kernel) ?_
  refine l_ialz (p' := 801) (m := 2) (z := (xs 2)) rfl rfl (by decide +kernel) rfl rfl rfl ?_
  refine l_call (p' := 804) (kc := 99) (ls0 := [_, _, _, _]) rfl rfl rfl rfl rfl rfl (mj_rcv_is (rd_sn rfl (rd_sn rfl H400))) rfl rfl rfl ?_
  refine s_aldn (p' := 1) rfl rfl rfl ?_
  refine s_ildn (p' := 2) rfl rfl rfl ?_
  refine c_call (p' := 5) (kc := 98) (ls0 := [_]) rfl rfl rfl rfl rfl rfl rfl rfl rfl ?_
  refine s_ildn (p' := 1) rfl rfl rfl ?_
  refine s_bip (p' := 3) rfl rfl ?_
  refine s_bip (p' := 5) rfl rfl ?_
  refine c_call (p' := 8) (kc := 97) (ls0 := [_, _, _]) rfl rfl rfl rfl rfl rfl rfl rfl rfl ?_
  refine s_ildn (p' := 1) rfl rfl rfl ?_
  refine s_ildn (p' := 2) rfl rfl rfl ?_
  refine s_icmp (p' := 5) false rfl (by decide +kernel) rfl ?_
  refine s_ildn (p' := 6) rfl rfl rfl ?_
  refine s_ildn (p' := 7) rfl rfl rfl ?_
  refine s_icmp (p' := 10) false rfl (by decide +kernel) rfl ?_
  refine s_con (p' := 11) rfl rfl ?_
  refine s_goto (p' := 15) rfl rfl ?_
  refine c_iret rfl (by decide +kernel) ?_
  refine c_iret rfl (by decide +kernel) ?_
  refine s_if (p' := 8) false rfl (by decide +kernel) rfl ?_
  refine s_con (p' := 9) rfl rfl ?_
  refine s_goto (p' := 13) rfl rfl ?_
  refine c_call (p' := 16) (kc := 98) (ls0 := [_, _]) rfl rfl rfl rfl rfl (mj_rcv_is (rd_sn rfl (rd_sn rfl H400))) rfl rfl rfl ?_
  refine s_aldn (p' := 1) rfl rfl rfl ?_
  refine s_ildn (p' := 2) rfl rfl rfl ?_
  refine s_pfz (p' := 5) (fs' := [_, _, _, _, _, _, _, _, _, _, _]) rfl rfl (rd_sn rfl (rd_sn rfl H400)) rfl rfl rfl rfl ?_
  refine s_ildn (p' := 6) rfl rfl rfl ?_
  refine s_if (p' := 13) true rfl (by decide +kernel) rfl ?_
  refine s_con (p' := 14) rfl rfl ?_
  refine c_iret rfl (by decide +kernel) ?_
  refine s_if (p' := 21) true rfl (by decide +kernel) rfl ?_
  refine s_aldn (p' := 22) rfl rfl rfl ?_
  refine s_gf (p' := 25) rfl (rd_ss rfl (rd_sn rfl (rd_sn rfl H400))) rfl rfl ?_
  refine s_gf (p' := 28) rfl (rd_sn rfl (rd_sn rfl (rd_sn rfl H402))) rfl rfl ?_
  refine s_ildn (p' := 29) rfl rfl rfl ?_
  refine s_bip (p' := 31) rfl rfl ?_
  refine s_bz (p' := 32) (z := (nI 0)) rfl rfl rfl (by decide +kernel) ?_
  refine s_ialz (p' := 33) (m := 0) (v := (nI 0)) rfl (rd_sn rfl (rd_sn rfl (rd_sn rfl H403))) (by decide +kernel) rfl (by decide +kernel) rfl ?_
  refine s_istn (p' := 34) (ls' := [_, _, _, _]) rfl rfl rfl rfl ?_
  refine s_aldn (p' := 35) rfl rfl rfl ?_
  refine s_gf (p' := 38) rfl (rd_ss rfl (rd_sn rfl (rd_sn rfl H400))) rfl rfl ?_
  refine s_gf (p' := 41) rfl (rd_sn rfl (rd_sn rfl (rd_sn rfl H402))) rfl rfl ?_
  refine s_ildn (p' := 42) rfl rfl rfl ?_
  refine s_bip (p' := 44) rfl rfl ?_
  refine s_bz (p' := 45) (z := (nI 0)) rfl rfl rfl (by decide +kernel) ?_
  refine s_ildn (p' := 46) rfl rfl rfl ?_
  refine s_iasz (p' := 47) (m := 0) rfl rfl (rd_sn rfl (rd_sn rfl (rd_sn rfl H403))) (by decide +kernel) rfl rfl rfl ?_
  refine s_ildn (p' := 48) rfl rfl rfl ?_
  refine k_iret rfl rfl ?_
  refine l_ist (p' := 806) (ls' := [_, _, _, _, _, _, _, _, _, _]) rfl rfl rfl rfl rfl ?_
  refine l_aldn (p' := 807) rfl rfl rfl rfl ?_
  refine l_call (p' := 810) (kc := 99) (ls0 := [_]) rfl rfl rfl rfl rfl rfl (mj_rcv_is (rd_sn rfl (rd_ss rfl (rd_sn rfl (rd_sn rfl H400))))) rfl rfl rfl ?_
  refine s_aldn (p' := 1) rfl rfl rfl ?_
  refine s_gf (p' := 4) rfl (rd_sn rfl (rd_ss rfl (rd_sn rfl (rd_sn rfl H400)))) rfl rfl ?_
  refine k_iret rfl rfl ?_
  refine l_ild (p' := 812) rfl rfl rfl rfl ?_
  refine l_icmp (p' := 817) true rfl rfl (by decide +kernel) rfl ?_
  refine l_ild (p' := 819) rfl rfl rfl rfl ?_
  refine l_if (p' := 822) false rfl rfl (by decide +kernel) rfl ?_
  refine l_aldn (p' := 823) rfl rfl rfl rfl ?_
  refine l_con (p' := 824) rfl rfl rfl ?_
  refine l_lalz (p' := 825) (m := 0) (v := (lN 0)) rfl rfl (rd_sn rfl (rd_sn rfl (rd_ss rfl (rd_sn rfl H412)))) (by decide +kernel) rfl (by decide +kernel) rfl ?_
  refine l_ild (p' := 827) rfl rfl rfl rfl ?_
  refine l_bzL (p' := 828) (z := (lN 0)) rfl rfl rfl rfl rfl (by decide +kernel) ?_
  refine l_bz (p' := 829) (z := (nI 0)) rfl rfl rfl rfl rfl (by decide +kernel) ?_
  refine l_if (p' := 834) true rfl rfl (by decide +kernel) rfl ?_
  refine l_goto (p' := 2541) rfl rfl rfl ?_
  refine l_incz (p' := 2544) (w := (nI 4)) (ls' := [_, _, _, _, _, _, _, _, _, _]) rfl rfl rfl rfl (by decide +kernel) rfl rfl ?_
  refine l_goto (p' := 28) rfl rfl rfl ?_
  refine l_ild (p' := 30) rfl rfl rfl rfl ?_
  refine l_alds (p' := 31) rfl rfl rfl rfl ?_
  refine l_lens (p' := 32) rfl rfl rfl ?_
  refine l_con (p' := 33) rfl rfl rfl ?_
  refine l_bz (p' := 34) (z := (nI 0)) rfl rfl rfl rfl rfl (by decide +kernel) ?_
  refine l_icmp (p' := 2547) true rfl rfl (by decide +kernel) rfl ?_
  refine l_con (p' := 2548) rfl rfl rfl ?_
  refine l_end rfl rfl ?_
  exact ⟨Nat.le_trans (Nat.le_of_eq (len_s (len_s (len_s (len_s HL))))) (Nat.le_of_ble_eq_true rfl), Nat.le_trans (sz_sA rfl (rd_sn rfl (rd_sn rfl (rd_sn rfl H403))) (sz_s rfl (rd_sn rfl (rd_sn rfl H400)) rfl (sz_sA rfl (rd_sn rfl H412) (sz_sA rfl H376 HZ)))) (Nat.le_of_ble_eq_true rfl)⟩
theorem p1_10_1 {xs : Nat → Int32} {h : mj_H} (hk : xs 0 &&& nI 63 = nI 10)  (hc : ((xs 1).toUInt32 % 65536).toInt32 = nI 98) (HL : h.length = 414) (HZ : mj_sz h ≤ 20000) (H0 : mj_rd h 0 = some (.inr (0, [.ref 1, .ref 38, .ref 299, .ref 336, .ref 373, .ref 375, .ref 378, .ref 381, .ref 387, .ref 393, .null, .null, .ref 397, .ref 398, .ref 399, .long (lN 0), .long (lN 0)]))) (H375 : mj_rd h 375 = some (.inr (7, [.ref 376, .ref 377, .int (nI 0)]))) (H376 : mj_rd h 376 = some (.inl (0, (8, .inl (fun _ => 0))))) (H400 : mj_rd h 400 = some (.inr (17, [.int (nI 0), .ref 401, .ref 402, .ref 1000300, .long (lN 0), .long (lN 0), .ref 410, .null, .null, .null, .ref 411]))) (H402 : mj_rd h 402 = some (.inr (19, [.ref 403, .ref 404, .ref 405, .ref 406, .ref 407, .ref 408, .ref 409, .int (nI 0), .int (nI 4294967295), .int (nI 0), .ref 400]))) (H403 : mj_rd h 403 = some (.inl (0, (8, .inl (fun _ => 0))))) (H412 : mj_rd h 412 = some (.inl (4, (1, .inr (.inl (fun _ => 0)))))) : mj_fin 4 xs h := by
  unfold mj_fin
  refine l_ild (p' := 30) rfl rfl rfl rfl ?_
  refine l_alds (p' := 31) rfl rfl rfl rfl ?_
  refine l_lens (p' := 32) rfl rfl rfl ?_
  refine l_con (p' := 33) rfl rfl rfl ?_
  refine l_bz (p' := 34) (z := (nI 0)) rfl rfl rfl rfl rfl (by decide +kernel) ?_
  refine l_icmp (p' := 37) false rfl rfl (by decide +kernel) rfl ?_
  refine l_alds (p' := 38) rfl rfl rfl rfl ?_
  refine l_ild (p' := 40) rfl rfl rfl rfl ?_
  refine l_ialz (p' := 41) (m := 0) (z := (xs 0)) rfl rfl (by decide +kernel) rfl rfl rfl ?_
  refine l_bip (p' := 43) rfl rfl rfl ?_
  refine l_bz (p' := 44) (z := (nI 10)) rfl rfl rfl rfl rfl hk ?_
  refine l_sp (p' := 767) (ls' := _) rfl rfl rfl rfl rfl ?_
  refine l_aldn (p' := 768) rfl rfl rfl rfl ?_
  refine l_alds (p' := 769) rfl rfl rfl rfl ?_
  refine l_ild (p' := 771) rfl rfl rfl rfl ?_
  refine l_con (p' := 772) rfl rfl rfl ?_
  refine l_bz (p' := 773) (z := (nI 1)) rfl rfl rfl rfl rfl (by decide +kernel) ?_
  refine l_ialz (p' := 774) (m := 1) (z := (xs 1)) rfl rfl (by decide +kernel) rfl rfl rfl ?_
  refine l_bz (p' := 775) (z := (nI 98)) rfl rfl rfl rfl rfl hc ?_
  refine l_alds (p' := 776) rfl rfl rfl rfl ?_
  refine l_ild (p' := 778) rfl rfl rfl rfl ?_
  refine l_con (p' := 779) rfl rfl rfl ?_
  refine l_bz (p' := 780) (z := (nI 2)) rfl rfl rfl rfl rfl (by decide +kernel) ?_
  refine l_ialz (p' := 781) (m := 2) (z := (xs 2)) rfl rfl (by decide +kernel) rfl rfl rfl ?_
  refine l_aldn (p' := 782) rfl rfl rfl rfl ?_
  refine l_call (p' := 785) (kc := 99) (ls0 := [_, _, _, _, _]) rfl rfl rfl rfl rfl rfl rfl rfl rfl rfl ?_
  refine s_aldn (p' := 1) rfl rfl rfl ?_
  refine s_con (p' := 2) rfl rfl ?_
  refine s_aldn (p' := 3) rfl rfl rfl ?_
  refine s_ildn (p' := 4) rfl rfl rfl ?_
  refine s_ildn (p' := 5) rfl rfl rfl ?_
  refine c_call (p' := 8) (kc := 98) (ls0 := [_, _, _, _]) rfl rfl rfl rfl rfl (mj_rcv_is H0) rfl rfl rfl ?_
  refine s_ildn (p' := 1) rfl rfl rfl ?_
  refine c_call (p' := 4) (kc := 97) (ls0 := [_]) rfl rfl rfl rfl rfl rfl rfl rfl rfl ?_
  refine s_ildn (p' := 1) rfl rfl rfl ?_
  refine s_bip (p' := 3) rfl rfl ?_
  refine s_icmp (p' := 6) false rfl (by decide +kernel) rfl ?_
  refine s_ildn (p' := 7) rfl rfl rfl ?_
  refine s_bip (p' := 9) rfl rfl ?_
  refine s_icmp (p' := 12) false rfl (by decide +kernel) rfl ?_
  refine s_con (p' := 13) rfl rfl ?_
  refine s_goto (p' := 17) rfl rfl ?_
  refine c_iret rfl (by decide +kernel) ?_
  refine s_if (p' := 17) true rfl (by decide +kernel) rfl ?_
  refine s_aldn (p' := 18) rfl rfl rfl ?_
  refine s_gf (p' := 21) rfl H0 rfl rfl ?_
  refine s_ildn (p' := 22) rfl rfl rfl ?_
  refine s_bip (p' := 24) rfl rfl ?_
  refine s_bz (p' := 25) (z := (nI 1)) rfl rfl rfl (by decide +kernel) ?_
  refine c_call (p' := 28) (kc := 97) (ls0 := [_, _]) rfl rfl rfl rfl rfl (mj_rcv_is H375) rfl rfl rfl ?_
  refine s_ildn (p' := 1) rfl rfl rfl ?_
  refine s_if (p' := 4) false rfl (by decide +kernel) rfl ?_
  refine s_ildn (p' := 5) rfl rfl rfl ?_
  refine s_aldn (p' := 6) rfl rfl rfl ?_
  refine s_gf (p' := 9) rfl H375 rfl rfl ?_
  refine s_lenz (p' := 10) rfl (mj_rdA_is H376 (by decide)) rfl rfl ?_
  refine s_icmp (p' := 13) false rfl (by decide +kernel) rfl ?_
  refine s_aldn (p' := 14) rfl rfl rfl ?_
  refine s_gf (p' := 17) rfl H375 rfl rfl ?_
  refine s_ildn (p' := 18) rfl rfl rfl ?_
  refine s_ialz (p' := 19) (m := 1) (v := (nI 0)) rfl H376 (by decide +kernel) rfl (by decide +kernel) rfl ?_
  refine s_goto (p' := 23) rfl rfl ?_
  refine c_iret rfl rfl ?_
  refine s_istn (p' := 29) (ls' := [_, _, _, _]) rfl rfl rfl rfl ?_
  refine s_aldn (p' := 30) rfl rfl rfl ?_
  refine s_gf (p' := 33) rfl H0 rfl rfl ?_
  refine s_ildn (p' := 34) rfl rfl rfl ?_
  refine s_bip (p' := 36) rfl rfl ?_
  refine s_bz (p' := 37) (z := (nI 1)) rfl rfl rfl (by decide +kernel) ?_
  refine s_ildn (p' := 38) rfl rfl rfl ?_
  refine c_call (p' := 41) (kc := 97) (ls0 := [_, _, _]) rfl rfl rfl rfl rfl (mj_rcv_is H375) rfl rfl rfl ?_
  refine s_ildn (p' := 1) rfl rfl rfl ?_
  refine s_if (p' := 4) false rfl (by decide +kernel) rfl ?_
  refine s_ildn (p' := 5) rfl rfl rfl ?_
  refine s_aldn (p' := 6) rfl rfl rfl ?_
  refine s_gf (p' := 9) rfl H375 rfl rfl ?_
  refine s_lenz (p' := 10) rfl (mj_rdA_is H376 (by decide)) rfl rfl ?_
  refine s_icmp (p' := 13) false rfl (by decide +kernel) rfl ?_
  refine s_aldn (p' := 14) rfl rfl rfl ?_
  refine s_gf (p' := 17) rfl H375 rfl rfl ?_
  refine s_ildn (p' := 18) rfl rfl rfl ?_
  refine s_ildn (p' := 19) rfl rfl rfl ?_
  refine s_iasz (p' := 20) (m := 1) rfl rfl H376 (by decide +kernel) rfl rfl rfl ?_
  refine c_ret rfl ?_
  refine s_ildn (p' := 42) rfl rfl rfl ?_
  refine c_iret rfl rfl ?_
  refine s_bzL (p' := 9) (z := (lN 0)) rfl rfl rfl (by decide +kernel) ?_
  refine s_lasz (p' := 10) (m := 0) rfl rfl (rd_sn rfl H412) (by decide +kernel) rfl rfl rfl ?_
  refine s_goto (p' := 17) rfl rfl ?_
  refine s_con (p' := 18) rfl rfl ?_
  refine k_iret rfl rfl ?_
  refine l_ist (p' := 787) (ls' := [_, _, _, _, _, _, _, _, _, _]) rfl rfl rfl rfl rfl ?_
  refine l_aldn (p' := 788) rfl rfl rfl rfl ?_
  refine l_alds (p' := 789) rfl rfl rfl rfl ?_
  refine l_ild (p' := 791) rfl rfl rfl rfl ?_
  refine l_con (p' := 792) rfl rfl rfl ?_
  refine l_bz (p' := 793) (z := (nI 1)) rfl rfl rfl rfl rfl (by decide +kernel) ?_
  refine l_ialz (p' := 794) (m := 1) (z := (xs 1)) rfl rfl (by decide +kernel) rfl rfl rfl ?_
  refine l_bz (p' := 795) (z := (nI 98)) rfl rfl rfl rfl rfl hc ?_
  refine l_alds (p' := 796) rfl rfl rfl rfl ?_
  refine l_ild (p' := 798) rfl rfl rfl rfl ?_
  refine l_con (p' := 799) rfl rfl rfl ?_
  refine l_bz (p' := 800) (z := (nI 2)) rfl rfl rfl rfl rfl (by decide +kernel) ?_
  refine l_ialz (p' := 801) (m := 2) (z := (xs 2)) rfl rfl (by decide +kernel) rfl rfl rfl ?_
  refine l_call (p' := 804) (kc := 99) (ls0 := [_, _, _, _]) rfl rfl rfl rfl rfl rfl (mj_rcv_is (rd_sn rfl (rd_sn rfl H400))) rfl rfl rfl ?_
  refine s_aldn (p' := 1) rfl rfl rfl ?_
  refine s_ildn (p' := 2) rfl rfl rfl ?_
  refine c_call (p' := 5) (kc := 98) (ls0 := [_]) rfl rfl rfl rfl rfl rfl rfl rfl rfl ?_
  refine s_ildn (p' := 1) rfl rfl rfl ?_
  refine s_bip (p' := 3) rfl rfl ?_
  refine s_bip (p' := 5) rfl rfl ?_
  refine c_call (p' := 8) (kc := 97) (ls0 := [_, _, _]) rfl rfl rfl rfl rfl rfl rfl rfl rfl ?_
  refine s_ildn (p' := 1) rfl rfl rfl ?_
  refine s_ildn (p' := 2) rfl rfl rfl ?_
  refine s_icmp (p' := 5) false rfl (by decide +kernel) rfl ?_
  refine s_ildn (p' := 6) rfl rfl rfl ?_
  refine s_ildn (p' := 7) rfl rfl rfl ?_
  refine s_icmp (p' := 10) false rfl (by decide +kernel) rfl ?_
  refine s_con (p' := 11) rfl rfl ?_
  refine s_goto (p' := 15) rfl rfl ?_
  refine c_iret rfl (by decide +kernel) ?_
  refine c_iret rfl (by decide +kernel) ?_
  refine s_if (p' := 8) false rfl (by decide +kernel) rfl ?_
  refine s_con (p' := 9) rfl rfl ?_
  refine s_goto (p' := 13) rfl rfl ?_
  refine c_call (p' := 16) (kc := 98) (ls0 := [_, _]) rfl rfl rfl rfl rfl (mj_rcv_is (rd_sn rfl (rd_sn rfl H400))) rfl rfl rfl ?_
  refine s_aldn (p' := 1) rfl rfl rfl ?_
  refine s_ildn (p' := 2) rfl rfl rfl ?_
  refine s_pfz (p' := 5) (fs' := [_, _, _, _, _, _, _, _, _, _, _]) rfl rfl (rd_sn rfl (rd_sn rfl H400)) rfl rfl rfl rfl ?_
  refine s_ildn (p' := 6) rfl rfl rfl ?_
  refine s_if (p' := 13) true rfl (by decide +kernel) rfl ?_
  refine s_con (p' := 14) rfl rfl ?_
  refine c_iret rfl (by decide +kernel) ?_
  refine s_if (p' := 21) true rfl (by decide +kernel) rfl ?_
  refine s_aldn (p' := 22) rfl rfl rfl ?_
  refine s_gf (p' := 25) rfl (rd_ss rfl (rd_sn rfl (rd_sn rfl H400))) rfl rfl ?_
  refine s_gf (p' := 28) rfl (rd_sn rfl (rd_sn rfl (rd_sn rfl H402))) rfl rfl ?_
  refine s_ildn (p' := 29) rfl rfl rfl ?_
  refine s_bip (p' := 31) rfl rfl ?_
  refine s_bz (p' := 32) (z := (nI 1)) rfl rfl rfl (by decide +kernel) ?_
  refine s_ialz (p' := 33) (m := 1) (v := (nI 0)) rfl (rd_sn rfl (rd_sn rfl (rd_sn rfl H403))) (by decide +kernel) rfl (by decide +kernel) rfl ?_
  refine s_istn (p' := 34) (ls' := [_, _, _, _]) rfl rfl rfl rfl ?_
  refine s_aldn (p' := 35) rfl rfl rfl ?_
  refine s_gf (p' := 38) rfl (rd_ss rfl (rd_sn rfl (rd_sn rfl H400))) rfl rfl ?_
  refine s_gf (p' := 41) rfl (rd_sn rfl (rd_sn rfl (rd_sn rfl H402))) rfl rfl ?_
  refine s_ildn (p' := 42) rfl rfl rfl ?_
  refine s_bip (p' := 44) rfl rfl ?_
  refine s_bz (p' := 45) (z := (nI 1)) rfl rfl rfl (by decide +kernel) ?_
  refine s_ildn (p' := 46) rfl rfl rfl ?_
  refine s_iasz (p' := 47) (m := 1) rfl rfl (rd_sn rfl (rd_sn rfl (rd_sn rfl H403))) (by decide +kernel) rfl rfl rfl ?_
  refine s_ildn (p' := 48) rfl rfl rfl ?_
  refine k_iret rfl rfl ?_
  refine l_ist (p' := 806) (ls' := [_, _, _, _, _, _, _, _, _, _]) rfl rfl rfl rfl rfl ?_
  refine l_aldn (p' := 807) rfl rfl rfl rfl ?_
  refine l_call (p' := 810) (kc := 99) (ls0 := [_]) rfl rfl rfl rfl rfl rfl (mj_rcv_is (rd_sn rfl (rd_ss rfl (rd_sn rfl (rd_sn rfl H400))))) rfl rfl rfl ?_
  refine s_aldn (p' := 1) rfl rfl rfl ?_
  refine s_gf (p' := 4) rfl (rd_sn rfl (rd_ss rfl (rd_sn rfl (rd_sn rfl H400)))) rfl rfl ?_
  refine k_iret rfl rfl ?_
  refine l_ild (p' := 812) rfl rfl rfl rfl ?_
  refine l_icmp (p' := 817) true rfl rfl (by decide +kernel) rfl ?_
  refine l_ild (p' := 819) rfl rfl rfl rfl ?_
  refine l_if (p' := 822) false rfl rfl (by decide +kernel) rfl ?_
  refine l_aldn (p' := 823) rfl rfl rfl rfl ?_
  refine l_con (p' := 824) rfl rfl rfl ?_
  refine l_lalz (p' := 825) (m := 0) (v := (lN 0)) rfl rfl (rd_sn rfl (rd_sn rfl (rd_ss rfl (rd_sn rfl H412)))) (by decide +kernel) rfl (by decide +kernel) rfl ?_
  refine l_ild (p' := 827) rfl rfl rfl rfl ?_
  refine l_bzL (p' := 828) (z := (lN 0)) rfl rfl rfl rfl rfl (by decide +kernel) ?_
  refine l_bz (p' := 829) (z := (nI 0)) rfl rfl rfl rfl rfl (by decide +kernel) ?_
  refine l_if (p' := 834) true rfl rfl (by decide +kernel) rfl ?_
  refine l_goto (p' := 2541) rfl rfl rfl ?_
  refine l_incz (p' := 2544) (w := (nI 4)) (ls' := [_, _, _, _, _, _, _, _, _, _]) rfl rfl rfl rfl (by decide +kernel) rfl rfl ?_
  refine l_goto (p' := 28) rfl rfl rfl ?_
  refine l_ild (p' := 30) rfl rfl rfl rfl ?_
  refine l_alds (p' := 31) rfl rfl rfl rfl ?_
  refine l_lens (p' := 32) rfl rfl rfl ?_
  refine l_con (p' := 33) rfl rfl rfl ?_
  refine l_bz (p' := 34) (z := (nI 0)) rfl rfl rfl rfl rfl (by decide +kernel) ?_
  refine l_icmp (p' := 2547) true rfl rfl (by decide +kernel) rfl ?_
  refine l_con (p' := 2548) rfl rfl rfl ?_
  refine l_end rfl rfl ?_
  exact ⟨Nat.le_trans (Nat.le_of_eq (len_s (len_s (len_s (len_s HL))))) (Nat.le_of_ble_eq_true rfl), Nat.le_trans (sz_sA rfl (rd_sn rfl (rd_sn rfl (rd_sn rfl H403))) (sz_s rfl (rd_sn rfl (rd_sn rfl H400)) rfl (sz_sA rfl (rd_sn rfl H412) (sz_sA rfl H376 HZ)))) (Nat.le_of_ble_eq_true rfl)⟩
theorem p1_10_2 {xs : Nat → Int32} {h : mj_H} (hk : xs 0 &&& nI 63 = nI 10)  (hc : ((xs 1).toUInt32 % 65536).toInt32 = nI 99) (HL : h.length = 414) (HZ : mj_sz h ≤ 20000) (H0 : mj_rd h 0 = some (.inr (0, [.ref 1, .ref 38, .ref 299, .ref 336, .ref 373, .ref 375, .ref 378, .ref 381, .ref 387, .ref 393, .null, .null, .ref 397, .ref 398, .ref 399, .long (lN 0), .long (lN 0)]))) (H375 : mj_rd h 375 = some (.inr (7, [.ref 376, .ref 377, .int (nI 0)]))) (H376 : mj_rd h 376 = some (.inl (0, (8, .inl (fun _ => 0))))) (H400 : mj_rd h 400 = some (.inr (17, [.int (nI 0), .ref 401, .ref 402, .ref 1000300, .long (lN 0), .long (lN 0), .ref 410, .null, .null, .null, .ref 411]))) (H402 : mj_rd h 402 = some (.inr (19, [.ref 403, .ref 404, .ref 405, .ref 406, .ref 407, .ref 408, .ref 409, .int (nI 0), .int (nI 4294967295), .int (nI 0), .ref 400]))) (H403 : mj_rd h 403 = some (.inl (0, (8, .inl (fun _ => 0))))) (H412 : mj_rd h 412 = some (.inl (4, (1, .inr (.inl (fun _ => 0)))))) : mj_fin 4 xs h := by
  unfold mj_fin
  refine l_ild (p' := 30) rfl rfl rfl rfl ?_
  refine l_alds (p' := 31) rfl rfl rfl rfl ?_
  refine l_lens (p' := 32) rfl rfl rfl ?_
  refine l_con (p' := 33) rfl rfl rfl ?_
  refine l_bz (p' := 34) (z := (nI 0)) rfl rfl rfl rfl rfl (by decide +kernel) ?_
  refine l_icmp (p' := 37) false rfl rfl (by decide +kernel) rfl ?_
  refine l_alds (p' := 38) rfl rfl rfl rfl ?_
  refine l_ild (p' := 40) rfl rfl rfl rfl ?_
  refine l_ialz (p' := 41) (m := 0) (z := (xs 0)) rfl rfl (by decide +kernel) rfl rfl rfl ?_
  refine l_bip (p' := 43) rfl rfl rfl ?_
  refine l_bz (p' := 44) (z := (nI 10)) rfl rfl rfl rfl rfl hk ?_
  refine l_sp (p' := 767) (ls' := _) rfl rfl rfl rfl rfl ?_
  refine l_aldn (p' := 768) rfl rfl rfl rfl ?_
  refine l_alds (p' := 769) rfl rfl rfl rfl ?_
  refine l_ild (p' := 771) rfl rfl rfl rfl ?_
  refine l_con (p' := 772) rfl rfl rfl ?_
  refine l_bz (p' := 773) (z := (nI 1)) rfl rfl rfl rfl rfl (by decide +kernel) ?_
  refine l_ialz (p' := 774) (m := 1) (z := (xs 1)) rfl rfl (by decide +kernel) rfl rfl rfl ?_
  refine l_bz (p' := 775) (z := (nI 99)) rfl rfl rfl rfl rfl hc ?_
  refine l_alds (p' := 776) rfl rfl rfl rfl ?_
  refine l_ild (p' := 778) rfl rfl rfl rfl ?_
  refine l_con (p' := 779) rfl rfl rfl ?_
  refine l_bz (p' := 780) (z := (nI 2)) rfl rfl rfl rfl rfl (by decide +kernel) ?_
  refine l_ialz (p' := 781) (m := 2) (z := (xs 2)) rfl rfl (by decide +kernel) rfl rfl rfl ?_
  refine l_aldn (p' := 782) rfl rfl rfl rfl ?_
  refine l_call (p' := 785) (kc := 99) (ls0 := [_, _, _, _, _]) rfl rfl rfl rfl rfl rfl rfl rfl rfl rfl ?_
  refine s_aldn (p' := 1) rfl rfl rfl ?_
  refine s_con (p' := 2) rfl rfl ?_
  refine s_aldn (p' := 3) rfl rfl rfl ?_
  refine s_ildn (p' := 4) rfl rfl rfl ?_
  refine s_ildn (p' := 5) rfl rfl rfl ?_
  refine c_call (p' := 8) (kc := 98) (ls0 := [_, _, _, _]) rfl rfl rfl rfl rfl (mj_rcv_is H0) rfl rfl rfl ?_
  refine s_ildn (p' := 1) rfl rfl rfl ?_
  refine c_call (p' := 4) (kc := 97) (ls0 := [_]) rfl rfl rfl rfl rfl rfl rfl rfl rfl ?_
  refine s_ildn (p' := 1) rfl rfl rfl ?_
  refine s_bip (p' := 3) rfl rfl ?_
  refine s_icmp (p' := 6) false rfl (by decide +kernel) rfl ?_
  refine s_ildn (p' := 7) rfl rfl rfl ?_
  refine s_bip (p' := 9) rfl rfl ?_
  refine s_icmp (p' := 12) false rfl (by decide +kernel) rfl ?_
  refine s_con (p' := 13) rfl rfl ?_
  refine s_goto (p' := 17) rfl rfl ?_
  refine c_iret rfl (by decide +kernel) ?_
  refine s_if (p' := 17) true rfl (by decide +kernel) rfl ?_
  refine s_aldn (p' := 18) rfl rfl rfl ?_
  refine s_gf (p' := 21) rfl H0 rfl rfl ?_
  refine s_ildn (p' := 22) rfl rfl rfl ?_
  refine s_bip (p' := 24) rfl rfl ?_
  refine s_bz (p' := 25) (z := (nI 2)) rfl rfl rfl (by decide +kernel) ?_
  refine c_call (p' := 28) (kc := 97) (ls0 := [_, _]) rfl rfl rfl rfl rfl (mj_rcv_is H375) rfl rfl rfl ?_
  refine s_ildn (p' := 1) rfl rfl rfl ?_
  refine s_if (p' := 4) false rfl (by decide +kernel) rfl ?_
  refine s_ildn (p' := 5) rfl rfl rfl ?_
  refine s_aldn (p' := 6) rfl rfl rfl ?_
  refine s_gf (p' := 9) rfl H375 rfl rfl ?_
  refine s_lenz (p' := 10) rfl (mj_rdA_is H376 (by decide)) rfl rfl ?_
  refine s_icmp (p' := 13) false rfl (by decide +kernel) rfl ?_
  refine s_aldn (p' := 14) rfl rfl rfl ?_
  refine s_gf (p' := 17) rfl H375 rfl rfl ?_
  refine s_ildn (p' := 18) rfl rfl rfl ?_
  refine s_ialz (p' := 19) (m := 2) (v := (nI 0)) rfl H376 (by decide +kernel) rfl (by decide +kernel) rfl ?_
  refine s_goto (p' := 23) rfl rfl ?_
  refine c_iret rfl rfl ?_
  refine s_istn (p' := 29) (ls' := [_, _, _, _]) rfl rfl rfl rfl ?_
  refine s_aldn (p' := 30) rfl rfl rfl ?_
  refine s_gf (p' := 33) rfl H0 rfl rfl ?_
  refine s_ildn (p' := 34) rfl rfl rfl ?_
  refine s_bip (p' := 36) rfl rfl ?_
  refine s_bz (p' := 37) (z := (nI 2)) rfl rfl rfl (by decide +kernel) ?_
  refine s_ildn (p' := 38) rfl rfl rfl ?_
  refine c_call (p' := 41) (kc := 97) (ls0 := [_, _, _]) rfl rfl rfl rfl rfl (mj_rcv_is H375) rfl rfl rfl ?_
  refine s_ildn (p' := 1) rfl rfl rfl ?_
  refine s_if (p' := 4) false rfl (by decide +kernel) rfl ?_
  refine s_ildn (p' := 5) rfl rfl rfl ?_
  refine s_aldn (p' := 6) rfl rfl rfl ?_
  refine s_gf (p' := 9) rfl H375 rfl rfl ?_
  refine s_lenz (p' := 10) rfl (mj_rdA_is H376 (by decide)) rfl rfl ?_
  refine s_icmp (p' := 13) false rfl (by decide +kernel) rfl ?_
  refine s_aldn (p' := 14) rfl rfl rfl ?_
  refine s_gf (p' := 17) rfl H375 rfl rfl ?_
  refine s_ildn (p' := 18) rfl rfl rfl ?_
  refine s_ildn (p' := 19) rfl rfl rfl ?_
  refine s_iasz (p' := 20) (m := 2) rfl rfl H376 (by decide +kernel) rfl rfl rfl ?_
  refine c_ret rfl ?_
  refine s_ildn (p' := 42) rfl rfl rfl ?_
  refine c_iret rfl rfl ?_
  refine s_bzL (p' := 9) (z := (lN 0)) rfl rfl rfl (by decide +kernel) ?_
  refine s_lasz (p' := 10) (m := 0) rfl rfl (rd_sn rfl H412) (by decide +kernel) rfl rfl rfl ?_
  refine s_goto (p' := 17) rfl rfl ?_
  refine s_con (p' := 18) rfl rfl ?_
  refine k_iret rfl rfl ?_
  refine l_ist (p' := 787) (ls' := [_, _, _, _, _, _, _, _, _, _]) rfl rfl rfl rfl rfl ?_
  refine l_aldn (p' := 788) rfl rfl rfl rfl ?_
  refine l_alds (p' := 789) rfl rfl rfl rfl ?_
  refine l_ild (p' := 791) rfl rfl rfl rfl ?_
  refine l_con (p' := 792) rfl rfl rfl ?_
  refine l_bz (p' := 793) (z := (nI 1)) rfl rfl rfl rfl rfl (by decide +kernel) ?_
  refine l_ialz (p' := 794) (m := 1) (z := (xs 1)) rfl rfl (by decide +kernel) rfl rfl rfl ?_
  refine l_bz (p' := 795) (z := (nI 99)) rfl rfl rfl rfl rfl hc ?_
  refine l_alds (p' := 796) rfl rfl rfl rfl ?_
  refine l_ild (p' := 798) rfl rfl rfl rfl ?_
  refine l_con (p' := 799) rfl rfl rfl ?_
  refine l_bz (p' := 800) (z := (nI 2)) rfl rfl rfl rfl rfl (by decide +kernel) ?_
  refine l_ialz (p' := 801) (m := 2) (z := (xs 2)) rfl rfl (by decide +kernel) rfl rfl rfl ?_
  refine l_call (p' := 804) (kc := 99) (ls0 := [_, _, _, _]) rfl rfl rfl rfl rfl rfl (mj_rcv_is (rd_sn rfl (rd_sn rfl H400))) rfl rfl rfl ?_
  refine s_aldn (p' := 1) rfl rfl rfl ?_
  refine s_ildn (p' := 2) rfl rfl rfl ?_
  refine c_call (p' := 5) (kc := 98) (ls0 := [_]) rfl rfl rfl rfl rfl rfl rfl rfl rfl ?_
  refine s_ildn (p' := 1) rfl rfl rfl ?_
  refine s_bip (p' := 3) rfl rfl ?_
  refine s_bip (p' := 5) rfl rfl ?_
  refine c_call (p' := 8) (kc := 97) (ls0 := [_, _, _]) rfl rfl rfl rfl rfl rfl rfl rfl rfl ?_
  refine s_ildn (p' := 1) rfl rfl rfl ?_
  refine s_ildn (p' := 2) rfl rfl rfl ?_
  refine s_icmp (p' := 5) false rfl (by decide +kernel) rfl ?_
  refine s_ildn (p' := 6) rfl rfl rfl ?_
  refine s_ildn (p' := 7) rfl rfl rfl ?_
  refine s_icmp (p' := 10) false rfl (by decide +kernel) rfl ?_
  refine s_con (p' := 11) rfl rfl ?_
  refine s_goto (p' := 15) rfl rfl ?_
  refine c_iret rfl (by decide +kernel) ?_
  refine c_iret rfl (by decide +kernel) ?_
  refine s_if (p' := 8) false rfl (by decide +kernel) rfl ?_
  refine s_con (p' := 9) rfl rfl ?_
  refine s_goto (p' := 13) rfl rfl ?_
  refine c_call (p' := 16) (kc := 98) (ls0 := [_, _]) rfl rfl rfl rfl rfl (mj_rcv_is (rd_sn rfl (rd_sn rfl H400))) rfl rfl rfl ?_
  refine s_aldn (p' := 1) rfl rfl rfl ?_
  refine s_ildn (p' := 2) rfl rfl rfl ?_
  refine s_pfz (p' := 5) (fs' := [_, _, _, _, _, _, _, _, _, _, _]) rfl rfl (rd_sn rfl (rd_sn rfl H400)) rfl rfl rfl rfl ?_
  refine s_ildn (p' := 6) rfl rfl rfl ?_
  refine s_if (p' := 13) true rfl (by decide +kernel) rfl ?_
  refine s_con (p' := 14) rfl rfl ?_
  refine c_iret rfl (by decide +kernel) ?_
  refine s_if (p' := 21) true rfl (by decide +kernel) rfl ?_
  refine s_aldn (p' := 22) rfl rfl rfl ?_
  refine s_gf (p' := 25) rfl (rd_ss rfl (rd_sn rfl (rd_sn rfl H400))) rfl rfl ?_
  refine s_gf (p' := 28) rfl (rd_sn rfl (rd_sn rfl (rd_sn rfl H402))) rfl rfl ?_
  refine s_ildn (p' := 29) rfl rfl rfl ?_
  refine s_bip (p' := 31) rfl rfl ?_
  refine s_bz (p' := 32) (z := (nI 2)) rfl rfl rfl (by decide +kernel) ?_
  refine s_ialz (p' := 33) (m := 2) (v := (nI 0)) rfl (rd_sn rfl (rd_sn rfl (rd_sn rfl H403))) (by decide +kernel) rfl (by decide +kernel) rfl ?_
  refine s_istn (p' := 34) (ls' := [_, _, _, _]) rfl rfl rfl rfl ?_
  refine s_aldn (p' := 35) rfl rfl rfl ?_
  refine s_gf (p' := 38) rfl (rd_ss rfl (rd_sn rfl (rd_sn rfl H400))) rfl rfl ?_
  refine s_gf (p' := 41) rfl (rd_sn rfl (rd_sn rfl (rd_sn rfl H402))) rfl rfl ?_
  refine s_ildn (p' := 42) rfl rfl rfl ?_
  refine s_bip (p' := 44) rfl rfl ?_
  refine s_bz (p' := 45) (z := (nI 2)) rfl rfl rfl (by decide +kernel) ?_
  refine s_ildn (p' := 46) rfl rfl rfl ?_
  refine s_iasz (p' := 47) (m := 2) rfl rfl (rd_sn rfl (rd_sn rfl (rd_sn rfl H403))) (by decide +kernel) rfl rfl rfl ?_
  refine s_ildn (p' := 48) rfl rfl rfl ?_
  refine k_iret rfl rfl ?_
  refine l_ist (p' := 806) (ls' := [_, _, _, _, _, _, _, _, _, _]) rfl rfl rfl rfl rfl ?_
  refine l_aldn (p' := 807) rfl rfl rfl rfl ?_
  refine l_call (p' := 810) (kc := 99) (ls0 := [_]) rfl rfl rfl rfl rfl rfl (mj_rcv_is (rd_sn rfl (rd_ss rfl (rd_sn rfl (rd_sn rfl H400))))) rfl rfl rfl ?_
  refine s_aldn (p' := 1) rfl rfl rfl ?_
  refine s_gf (p' := 4) rfl (rd_sn rfl (rd_ss rfl (rd_sn rfl (rd_sn rfl H400)))) rfl rfl ?_
  refine k_iret rfl rfl ?_
  refine l_ild (p' := 812) rfl rfl rfl rfl ?_
  refine l_icmp (p' := 817) true rfl rfl (by decide +kernel) rfl ?_
  refine l_ild (p' := 819) rfl rfl rfl rfl ?_
  refine l_if (p' := 822) false rfl rfl (by decide +kernel) rfl ?_
  refine l_aldn (p' := 823) rfl rfl rfl rfl ?_
  refine l_con (p' := 824) rfl rfl rfl ?_
  refine l_lalz (p' := 825) (m := 0) (v := (lN 0)) rfl rfl (rd_sn rfl (rd_sn rfl (rd_ss rfl (rd_sn rfl H412)))) (by decide +kernel) rfl (by decide +kernel) rfl ?_
  refine l_ild (p' := 827) rfl rfl rfl rfl ?_
  refine l_bzL (p' := 828) (z := (lN 0)) rfl rfl rfl rfl rfl (by decide +kernel) ?_
  refine l_bz (p' := 829) (z := (nI 0)) rfl rfl rfl rfl rfl (by decide +kernel) ?_
  refine l_if (p' := 834) true rfl rfl (by decide +kernel) rfl ?_
  refine l_goto (p' := 2541) rfl rfl rfl ?_
  refine l_incz (p' := 2544) (w := (nI 4)) (ls' := [_, _, _, _, _, _, _, _, _, _]) rfl rfl rfl rfl (by decide +kernel) rfl rfl ?_
  refine l_goto (p' := 28) rfl rfl rfl ?_
  refine l_ild (p' := 30) rfl rfl rfl rfl ?_
  refine l_alds (p' := 31) rfl rfl rfl rfl ?_
  refine l_lens (p' := 32) rfl rfl rfl ?_
  refine l_con (p' := 33) rfl rfl rfl ?_
  refine l_bz (p' := 34) (z := (nI 0)) rfl rfl rfl rfl rfl (by decide +kernel) ?_
  refine l_icmp (p' := 2547) true rfl rfl (by decide +kernel) rfl ?_
  refine l_con (p' := 2548) rfl rfl rfl ?_
  refine l_end rfl rfl ?_
  exact ⟨Nat.le_trans (Nat.le_of_eq (len_s (len_s (len_s (len_s HL))))) (Nat.le_of_ble_eq_true rfl), Nat.le_trans (sz_sA rfl (rd_sn rfl (rd_sn rfl (rd_sn rfl H403))) (sz_s rfl (rd_sn rfl (rd_sn rfl H400)) rfl (sz_sA rfl (rd_sn rfl H412) (sz_sA rfl H376 HZ)))) (Nat.le_of_ble_eq_true rfl)⟩
theorem p1_10_3 {xs : Nat → Int32} {h : mj_H} (hk : xs 0 &&& nI 63 = nI 10)  (hc : ((xs 1).toUInt32 % 65536).toInt32 = nI 100) (HL : h.length = 414) (HZ : mj_sz h ≤ 20000) (H0 : mj_rd h 0 = some (.inr (0, [.ref 1, .ref 38, .ref 299, .ref 336, .ref 373, .ref 375, .ref 378, .ref 381, .ref 387, .ref 393, .null, .null, .ref 397, .ref 398, .ref 399, .long (lN 0), .long (lN 0)]))) (H375 : mj_rd h 375 = some (.inr (7, [.ref 376, .ref 377, .int (nI 0)]))) (H376 : mj_rd h 376 = some (.inl (0, (8, .inl (fun _ => 0))))) (H400 : mj_rd h 400 = some (.inr (17, [.int (nI 0), .ref 401, .ref 402, .ref 1000300, .long (lN 0), .long (lN 0), .ref 410, .null, .null, .null, .ref 411]))) (H402 : mj_rd h 402 = some (.inr (19, [.ref 403, .ref 404, .ref 405, .ref 406, .ref 407, .ref 408, .ref 409, .int (nI 0), .int (nI 4294967295), .int (nI 0), .ref 400]))) (H403 : mj_rd h 403 = some (.inl (0, (8, .inl (fun _ => 0))))) (H412 : mj_rd h 412 = some (.inl (4, (1, .inr (.inl (fun _ => 0)))))) : mj_fin 4 xs h := by
  unfold mj_fin
  refine l_ild (p' := 30) rfl rfl rfl rfl ?_
  refine l_alds (p' := 31) rfl rfl rfl rfl ?_
  refine l_lens (p' := 32) rfl rfl rfl ?_
  refine l_con (p' := 33) rfl rfl rfl ?_
  refine l_bz (p' := 34) (z := (nI 0)) rfl rfl rfl rfl rfl (by decide +kernel) ?_
  refine l_icmp (p' := 37) false rfl rfl (by decide +kernel) rfl ?_
  refine l_alds (p' := 38) rfl rfl rfl rfl ?_
  refine l_ild (p' := 40) rfl rfl rfl rfl ?_
  refine l_ialz (p' := 41) (m := 0) (z := (xs 0)) rfl rfl (by decide +kernel) rfl rfl rfl ?_
  refine l_bip (p' := 43) rfl rfl rfl ?_
  refine l_bz (p' := 44) (z := (nI 10)) rfl rfl rfl rfl rfl hk ?_
  refine l_sp (p' := 767) (ls' := _) rfl rfl rfl rfl rfl ?_
  refine l_aldn (p' := 768) rfl rfl rfl rfl ?_
  refine l_alds (p' := 769) rfl rfl rfl rfl ?_
  refine l_ild (p' := 771) rfl rfl rfl rfl ?_
  refine l_con (p' := 772) rfl rfl rfl ?_
  refine l_bz (p' := 773) (z := (nI 1)) rfl rfl rfl rfl rfl (by decide +kernel) ?_
  refine l_ialz (p' := 774) (m := 1) (z := (xs 1)) rfl rfl (by decide +kernel) rfl rfl rfl ?_
  refine l_bz (p' := 775) (z := (nI 100)) rfl rfl rfl rfl rfl hc ?_
  refine l_alds (p' := 776) rfl rfl rfl rfl ?_
  refine l_ild (p' := 778) rfl rfl rfl rfl ?_
  refine l_con (p' := 779) rfl rfl rfl ?_
  refine l_bz (p' := 780) (z := (nI 2)) rfl rfl rfl rfl rfl (by decide +kernel) ?_
  refine l_ialz (p' := 781) (m := 2) (z := (xs 2)) rfl rfl (by decide +kernel) rfl rfl rfl ?_
  refine l_aldn (p' := 782) rfl rfl rfl rfl ?_
  refine l_call (p' := 785) (kc := 99) (ls0 := [_, _, _, _, _]) rfl rfl rfl rfl rfl rfl rfl rfl rfl rfl ?_
  refine s_aldn (p' := 1) rfl rfl rfl ?_
  refine s_con (p' := 2) rfl rfl ?_
  refine s_aldn (p' := 3) rfl rfl rfl ?_
  refine s_ildn (p' := 4) rfl rfl rfl ?_
  refine s_ildn (p' := 5) rfl rfl rfl ?_
  refine c_call (p' := 8) (kc := 98) (ls0 := [_, _, _, _]) rfl rfl rfl rfl rfl (mj_rcv_is H0) rfl rfl rfl ?_
  refine s_ildn (p' := 1) rfl rfl rfl ?_
  refine c_call (p' := 4) (kc := 97) (ls0 := [_]) rfl rfl rfl rfl rfl rfl rfl rfl rfl ?_
  refine s_ildn (p' := 1) rfl rfl rfl ?_
  refine s_bip (p' := 3) rfl rfl ?_
  refine s_icmp (p' := 6) false rfl (by decide +kernel) rfl ?_
  refine s_ildn (p' := 7) rfl rfl rfl ?_
  refine s_bip (p' := 9) rfl rfl ?_
  refine s_icmp (p' := 12) false rfl (by decide +kernel) rfl ?_
  refine s_con (p' := 13) rfl rfl ?_
  refine s_goto (p' := 17) rfl rfl ?_
  refine c_iret rfl (by decide +kernel) ?_
  refine s_if (p' := 17) true rfl (by decide +kernel) rfl ?_
  refine s_aldn (p' := 18) rfl rfl rfl ?_
  refine s_gf (p' := 21) rfl H0 rfl rfl ?_
  refine s_ildn (p' := 22) rfl rfl rfl ?_
  refine s_bip (p' := 24) rfl rfl ?_
  refine s_bz (p' := 25) (z := (nI 3)) rfl rfl rfl (by decide +kernel) ?_
  refine c_call (p' := 28) (kc := 97) (ls0 := [_, _]) rfl rfl rfl rfl rfl (mj_rcv_is H375) rfl rfl rfl ?_
  refine s_ildn (p' := 1) rfl rfl rfl ?_
  refine s_if (p' := 4) false rfl (by decide +kernel) rfl ?_
  refine s_ildn (p' := 5) rfl rfl rfl ?_
  refine s_aldn (p' := 6) rfl rfl rfl ?_
  refine s_gf (p' := 9) rfl H375 rfl rfl ?_
  refine s_lenz (p' := 10) rfl (mj_rdA_is H376 (by decide)) rfl rfl ?_
  refine s_icmp (p' := 13) false rfl (by decide +kernel) rfl ?_
  refine s_aldn (p' := 14) rfl rfl rfl ?_
  refine s_gf (p' := 17) rfl H375 rfl rfl ?_
  refine s_ildn (p' := 18) rfl rfl rfl ?_
  refine s_ialz (p' := 19) (m := 3) (v := (nI 0)) rfl H376 (by decide +kernel) rfl (by decide +kernel) rfl ?_
  refine s_goto (p' := 23) rfl rfl ?_
  refine c_iret rfl rfl ?_
  refine s_istn (p' := 29) (ls' := [_, _, _, _]) rfl rfl rfl rfl ?_
  refine s_aldn (p' := 30) rfl rfl rfl ?_
  refine s_gf (p' := 33) rfl H0 rfl rfl ?_
  refine s_ildn (p' := 34) rfl rfl rfl ?_
  refine s_bip (p' := 36) rfl rfl ?_
  refine s_bz (p' := 37) (z := (nI 3)) rfl rfl rfl (by decide +kernel) ?_
  refine s_ildn (p' := 38) rfl rfl rfl ?_
  refine c_call (p' := 41) (kc := 97) (ls0 := [_, _, _]) rfl rfl rfl rfl rfl (mj_rcv_is H375) rfl rfl rfl ?_
  refine s_ildn (p' := 1) rfl rfl rfl ?_
  refine s_if (p' := 4) false rfl (by decide +kernel) rfl ?_
  refine s_ildn (p' := 5) rfl rfl rfl ?_
  refine s_aldn (p' := 6) rfl rfl rfl ?_
  refine s_gf (p' := 9) rfl H375 rfl rfl ?_
  refine s_lenz (p' := 10) rfl (mj_rdA_is H376 (by decide)) rfl rfl ?_
  refine s_icmp (p' := 13) false rfl (by decide +kernel) rfl ?_
  refine s_aldn (p' := 14) rfl rfl rfl ?_
  refine s_gf (p' := 17) rfl H375 rfl rfl ?_
  refine s_ildn (p' := 18) rfl rfl rfl ?_
  refine s_ildn (p' := 19) rfl rfl rfl ?_
  refine s_iasz (p' := 20) (m := 3) rfl rfl H376 (by decide +kernel) rfl rfl rfl ?_
  refine c_ret rfl ?_
  refine s_ildn (p' := 42) rfl rfl rfl ?_
  refine c_iret rfl rfl ?_
  refine s_bzL (p' := 9) (z := (lN 0)) rfl rfl rfl (by decide +kernel) ?_
  refine s_lasz (p' := 10) (m := 0) rfl rfl (rd_sn rfl H412) (by decide +kernel) rfl rfl rfl ?_
  refine s_goto (p' := 17) rfl rfl ?_
  refine s_con (p' := 18) rfl rfl ?_
  refine k_iret rfl rfl ?_
  refine l_ist (p' := 787) (ls' := [_, _, _, _, _, _, _, _, _, _]) rfl rfl rfl rfl rfl ?_
  refine l_aldn (p' := 788) rfl rfl rfl rfl ?_
  refine l_alds (p' := 789) rfl rfl rfl rfl ?_
  refine l_ild (p' := 791) rfl rfl rfl rfl ?_
  refine l_con (p' := 792) rfl rfl rfl ?_
  refine l_bz (p' := 793) (z := (nI 1)) rfl rfl rfl rfl rfl (by decide +kernel) ?_
  refine l_ialz (p' := 794) (m := 1) (z := (xs 1)) rfl rfl (by decide +kernel) rfl rfl rfl ?_
  refine l_bz (p' := 795) (z := (nI 100)) rfl rfl rfl rfl rfl hc ?_
  refine l_alds (p' := 796) rfl rfl rfl rfl ?_
  refine l_ild (p' := 798) rfl rfl rfl rfl ?_
  refine l_con (p' := 799) rfl rfl rfl ?_
  refine l_bz (p' := 800) (z := (nI 2)) rfl rfl rfl rfl rfl (by decide +kernel) ?_
  refine l_ialz (p' := 801) (m := 2) (z := (xs 2)) rfl rfl (by decide +kernel) rfl rfl rfl ?_
  refine l_call (p' := 804) (kc := 99) (ls0 := [_, _, _, _]) rfl rfl rfl rfl rfl rfl (mj_rcv_is (rd_sn rfl (rd_sn rfl H400))) rfl rfl rfl ?_
  refine s_aldn (p' := 1) rfl rfl rfl ?_
  refine s_ildn (p' := 2) rfl rfl rfl ?_
  refine c_call (p' := 5) (kc := 98) (ls0 := [_]) rfl rfl rfl rfl rfl rfl rfl rfl rfl ?_
  refine s_ildn (p' := 1) rfl rfl rfl ?_
  refine s_bip (p' := 3) rfl rfl ?_
  refine s_bip (p' := 5) rfl rfl ?_
  refine c_call (p' := 8) (kc := 97) (ls0 := [_, _, _]) rfl rfl rfl rfl rfl rfl rfl rfl rfl ?_
  refine s_ildn (p' := 1) rfl rfl rfl ?_
  refine s_ildn (p' := 2) rfl rfl rfl ?_
  refine s_icmp (p' := 5) false rfl (by decide +kernel) rfl ?_
  refine s_ildn (p' := 6) rfl rfl rfl ?_
  refine s_ildn (p' := 7) rfl rfl rfl ?_
  refine s_icmp (p' := 10) false rfl (by decide +kernel) rfl ?_
  refine s_con (p' := 11) rfl rfl ?_
  refine s_goto (p' := 15) rfl rfl ?_
  refine c_iret rfl (by decide +kernel) ?_
  refine c_iret rfl (by decide +kernel) ?_
  refine s_if (p' := 8) false rfl (by decide +kernel) rfl ?_
  refine s_con (p' := 9) rfl rfl ?_
  refine s_goto (p' := 13) rfl rfl ?_
  refine c_call (p' := 16) (kc := 98) (ls0 := [_, _]) rfl rfl rfl rfl rfl (mj_rcv_is (rd_sn rfl (rd_sn rfl H400))) rfl rfl rfl ?_
  refine s_aldn (p' := 1) rfl rfl rfl ?_
  refine s_ildn (p' := 2) rfl rfl rfl ?_
  refine s_pfz (p' := 5) (fs' := [_, _, _, _, _, _, _, _, _, _, _]) rfl rfl (rd_sn rfl (rd_sn rfl H400)) rfl rfl rfl rfl ?_
  refine s_ildn (p' := 6) rfl rfl rfl ?_
  refine s_if (p' := 13) true rfl (by decide +kernel) rfl ?_
  refine s_con (p' := 14) rfl rfl ?_
  refine c_iret rfl (by decide +kernel) ?_
  refine s_if (p' := 21) true rfl (by decide +kernel) rfl ?_
  refine s_aldn (p' := 22) rfl rfl rfl ?_
  refine s_gf (p' := 25) rfl (rd_ss rfl (rd_sn rfl (rd_sn rfl H400))) rfl rfl ?_
  refine s_gf (p' := 28) rfl (rd_sn rfl (rd_sn rfl (rd_sn rfl H402))) rfl rfl ?_
  refine s_ildn (p' := 29) rfl rfl rfl ?_
  refine s_bip (p' := 31) rfl rfl ?_
  refine s_bz (p' := 32) (z := (nI 3)) rfl rfl rfl (by decide +kernel) ?_
  refine s_ialz (p' := 33) (m := 3) (v := (nI 0)) rfl (rd_sn rfl (rd_sn rfl (rd_sn rfl H403))) (by decide +kernel) rfl (by decide +kernel) rfl ?_
  refine s_istn (p' := 34) (ls' := [_, _, _, _]) rfl rfl rfl rfl ?_
  refine s_aldn (p' := 35) rfl rfl rfl ?_
  refine s_gf (p' := 38) rfl (rd_ss rfl (rd_sn rfl (rd_sn rfl H400))) rfl rfl ?_
  refine s_gf (p' := 41) rfl (rd_sn rfl (rd_sn rfl (rd_sn rfl H402))) rfl rfl ?_
  refine s_ildn (p' := 42) rfl rfl rfl ?_
  refine s_bip (p' := 44) rfl rfl ?_
  refine s_bz (p' := 45) (z := (nI 3)) rfl rfl rfl (by decide +kernel) ?_
  refine s_ildn (p' := 46) rfl rfl rfl ?_
  refine s_iasz (p' := 47) (m := 3) rfl rfl (rd_sn rfl (rd_sn rfl (rd_sn rfl H403))) (by decide +kernel) rfl rfl rfl ?_
  refine s_ildn (p' := 48) rfl rfl rfl ?_
  refine k_iret rfl rfl ?_
  refine l_ist (p' := 806) (ls' := [_, _, _, _, _, _, _, _, _, _]) rfl rfl rfl rfl rfl ?_
  refine l_aldn (p' := 807) rfl rfl rfl rfl ?_
  refine l_call (p' := 810) (kc := 99) (ls0 := [_]) rfl rfl rfl rfl rfl rfl (mj_rcv_is (rd_sn rfl (rd_ss rfl (rd_sn rfl (rd_sn rfl H400))))) rfl rfl rfl ?_
  refine s_aldn (p' := 1) rfl rfl rfl ?_
  refine s_gf (p' := 4) rfl (rd_sn rfl (rd_ss rfl (rd_sn rfl (rd_sn rfl H400)))) rfl rfl ?_
  refine k_iret rfl rfl ?_
  refine l_ild (p' := 812) rfl rfl rfl rfl ?_
  refine l_icmp (p' := 817) true rfl rfl (by decide +kernel) rfl ?_
  refine l_ild (p' := 819) rfl rfl rfl rfl ?_
  refine l_if (p' := 822) false rfl rfl (by decide +kernel) rfl ?_
  refine l_aldn (p' := 823) rfl rfl rfl rfl ?_
  refine l_con (p' := 824) rfl rfl rfl ?_
  refine l_lalz (p' := 825) (m := 0) (v := (lN 0)) rfl rfl (rd_sn rfl (rd_sn rfl (rd_ss rfl (rd_sn rfl H412)))) (by decide +kernel) rfl (by decide +kernel) rfl ?_
  refine l_ild (p' := 827) rfl rfl rfl rfl ?_
  refine l_bzL (p' := 828) (z := (lN 0)) rfl rfl rfl rfl rfl (by decide +kernel) ?_
  refine l_bz (p' := 829) (z := (nI 0)) rfl rfl rfl rfl rfl (by decide +kernel) ?_
  refine l_if (p' := 834) true rfl rfl (by decide +kernel) rfl ?_
  refine l_goto (p' := 2541) rfl rfl rfl ?_
  refine l_incz (p' := 2544) (w := (nI 4)) (ls' := [_, _, _, _, _, _, _, _, _, _]) rfl rfl rfl rfl (by decide +kernel) rfl rfl ?_
  refine l_goto (p' := 28) rfl rfl rfl ?_
  refine l_ild (p' := 30) rfl rfl rfl rfl ?_
  refine l_alds (p' := 31) rfl rfl rfl rfl ?_
  refine l_lens (p' := 32) rfl rfl rfl ?_
  refine l_con (p' := 33) rfl rfl rfl ?_
  refine l_bz (p' := 34) (z := (nI 0)) rfl rfl rfl rfl rfl (by decide +kernel) ?_
  refine l_icmp (p' := 2547) true rfl rfl (by decide +kernel) rfl ?_
  refine l_con (p' := 2548) rfl rfl rfl ?_
  refine l_end rfl rfl ?_
  exact ⟨Nat.le_trans (Nat.le_of_eq (len_s (len_s (len_s (len_s HL))))) (Nat.le_of_ble_eq_true rfl), Nat.le_trans (sz_sA rfl (rd_sn rfl (rd_sn rfl (rd_sn rfl H403))) (sz_s rfl (rd_sn rfl (rd_sn rfl H400)) rfl (sz_sA rfl (rd_sn rfl H412) (sz_sA rfl H376 HZ)))) (Nat.le_of_ble_eq_true rfl)⟩
theorem p1_10_4 {xs : Nat → Int32} {h : mj_H} (hk : xs 0 &&& nI 63 = nI 10)  (hc : ((xs 1).toUInt32 % 65536).toInt32 = nI 101) (HL : h.length = 414) (HZ : mj_sz h ≤ 20000) (H0 : mj_rd h 0 = some (.inr (0, [.ref 1, .ref 38, .ref 299, .ref 336, .ref 373, .ref 375, .ref 378, .ref 381, .ref 387, .ref 393, .null, .null, .ref 397, .ref 398, .ref 399, .long (lN 0), .long (lN 0)]))) (H375 : mj_rd h 375 = some (.inr (7, [.ref 376, .ref 377, .int (nI 0)]))) (H376 : mj_rd h 376 = some (.inl (0, (8, .inl (fun _ => 0))))) (H400 : mj_rd h 400 = some (.inr (17, [.int (nI 0), .ref 401, .ref 402, .ref 1000300, .long (lN 0), .long (lN 0), .ref 410, .null, .null, .null, .ref 411]))) (H402 : mj_rd h 402 = some (.inr (19, [.ref 403, .ref 404, .ref 405, .ref 406, .ref 407, .ref 408, .ref 409, .int (nI 0), .int (nI 4294967295), .int (nI 0), .ref 400]))) (H403 : mj_rd h 403 = some (.inl (0, (8, .inl (fun _ => 0))))) (H412 : mj_rd h 412 = some (.inl (4, (1, .inr (.inl (fun _ => 0)))))) : mj_fin 4 xs h := by
  unfold mj_fin
  refine l_ild (p' := 30) rfl rfl rfl rfl ?_
  refine l_alds (p' := 31) rfl rfl rfl rfl ?_
  refine l_lens (p' := 32) rfl rfl rfl ?_
  refine l_con (p' := 33) rfl rfl rfl ?_
  refine l_bz (p' := 34) (z := (nI 0)) rfl rfl rfl rfl rfl (by decide +kernel) ?_
  refine l_icmp (p' := 37) false rfl rfl (by decide +kernel) rfl ?_
  refine l_alds (p' := 38) rfl rfl rfl rfl ?_
  refine l_ild (p' := 40) rfl rfl rfl rfl ?_
  refine l_ialz (p' := 41) (m := 0) (z := (xs 0)) rfl rfl (by decide +kernel) rfl rfl rfl ?_
  refine l_bip (p' := 43) rfl rfl rfl ?_
  refine l_bz (p' := 44) (z := (nI 10)) rfl rfl rfl rfl rfl hk ?_
  refine l_sp (p' := 767) (ls' := _) rfl rfl rfl rfl rfl ?_
  refine l_aldn (p' := 768) rfl rfl rfl rfl ?_
  refine l_alds (p' := 769) rfl rfl rfl rfl ?_
  refine l_ild (p' := 771) rfl rfl rfl rfl ?_
  refine l_con (p' := 772) rfl rfl rfl ?_
  refine l_bz (p' := 773) (z := (nI 1)) rfl rfl rfl rfl rfl (by decide +kernel) ?_
  refine l_ialz (p' := 774) (m := 1) (z := (xs 1)) rfl rfl (by decide +kernel) rfl rfl rfl ?_
  refine l_bz (p' := 775) (z := (nI 101)) rfl rfl rfl rfl rfl hc ?_
  refine l_alds (p' := 776) rfl rfl rfl rfl ?_
  refine l_ild (p' := 778) rfl rfl rfl rfl ?_
  refine l_con (p' := 779) rfl rfl rfl ?_
  refine l_bz (p' := 780) (z := (nI 2)) rfl rfl rfl rfl rfl (by decide +kernel) ?_
  refine l_ialz (p' := 781) (m := 2) (z := (xs 2)) rfl rfl (by decide +kernel) rfl rfl rfl ?_
  refine l_aldn (p' := 782) rfl rfl rfl rfl ?_
  refine l_call (p' := 785) (kc := 99) (ls0 := [_, _, _, _, _]) rfl rfl rfl rfl rfl rfl rfl rfl rfl rfl ?_
  refine s_aldn (p' := 1) rfl rfl rfl ?_
  refine s_con (p' := 2) rfl rfl ?_
  refine s_aldn (p' := 3) rfl rfl rfl ?_
  refine s_ildn (p' := 4) rfl rfl rfl ?_
  refine s_ildn (p' := 5) rfl rfl rfl ?_
  refine c_call (p' := 8) (kc := 98) (ls0 := [_, _, _, _]) rfl rfl rfl rfl rfl (mj_rcv_is H0) rfl rfl rfl ?_
  refine s_ildn (p' := 1) rfl rfl rfl ?_
  refine c_call (p' := 4) (kc := 97) (ls0 := [_]) rfl rfl rfl rfl rfl rfl rfl rfl rfl ?_
  refine s_ildn (p' := 1) rfl rfl rfl ?_
  refine s_bip (p' := 3) rfl rfl ?_
  refine s_icmp (p' := 6) false rfl (by decide +kernel) rfl ?_
  refine s_ildn (p' := 7) rfl rfl rfl ?_
  refine s_bip (p' := 9) rfl rfl ?_
  refine s_icmp (p' := 12) false rfl (by decide +kernel) rfl ?_
  refine s_con (p' := 13) rfl rfl ?_
  refine s_goto (p' := 17) rfl rfl ?_
  refine c_iret rfl (by decide +kernel) ?_
  refine s_if (p' := 17) true rfl (by decide +kernel) rfl ?_
  refine s_aldn (p' := 18) rfl rfl rfl ?_
  refine s_gf (p' := 21) rfl H0 rfl rfl ?_
  refine s_ildn (p' := 22) rfl rfl rfl ?_
  refine s_bip (p' := 24) rfl rfl ?_
  refine s_bz (p' := 25) (z := (nI 4)) rfl rfl rfl (by decide +kernel) ?_
  refine c_call (p' := 28) (kc := 97) (ls0 := [_, _]) rfl rfl rfl rfl rfl (mj_rcv_is H375) rfl rfl rfl ?_
  refine s_ildn (p' := 1) rfl rfl rfl ?_
  refine s_if (p' := 4) false rfl (by decide +kernel) rfl ?_
  refine s_ildn (p' := 5) rfl rfl rfl ?_
  refine s_aldn (p' := 6) rfl rfl rfl ?_
  refine s_gf (p' := 9) rfl H375 rfl rfl ?_
  refine s_lenz (p' := 10) rfl (mj_rdA_is H376 (by decide)) rfl rfl ?_
  refine s_icmp (p' := 13) false rfl (by decide +kernel) rfl ?_
  refine s_aldn (p' := 14) rfl rfl rfl ?_
  refine s_gf (p' := 17) rfl H375 rfl rfl ?_
  refine s_ildn (p' := 18) rfl rfl rfl ?_
  refine s_ialz (p' := 19) (m := 4) (v := (nI 0)) rfl H376 (by decide +kernel) rfl (by decide +kernel) rfl ?_
  refine s_goto (p' := 23) rfl rfl ?_
  refine c_iret rfl rfl ?_
  refine s_istn (p' := 29) (ls' := [_, _, _, _]) rfl rfl rfl rfl ?_
  refine s_aldn (p' := 30) rfl rfl rfl ?_
  refine s_gf (p' := 33) rfl H0 rfl rfl ?_
  refine s_ildn (p' := 34) rfl rfl rfl ?_
  refine s_bip (p' := 36) rfl rfl ?_
  refine s_bz (p' := 37) (z := (nI 4)) rfl rfl rfl (by decide +kernel) ?_
  refine s_ildn (p' := 38) rfl rfl rfl ?_
  refine c_call (p' := 41) (kc := 97) (ls0 := [_, _, _]) rfl rfl rfl rfl rfl (mj_rcv_is H375) rfl rfl rfl ?_
  refine s_ildn (p' := 1) rfl rfl rfl ?_
  refine s_if (p' := 4) false rfl (by decide +kernel) rfl ?_
  refine s_ildn (p' := 5) rfl rfl rfl ?_
  refine s_aldn (p' := 6) rfl rfl rfl ?_
  refine s_gf (p' := 9) rfl H375 rfl rfl ?_
  refine s_lenz (p' := 10) rfl (mj_rdA_is H376 (by decide)) rfl rfl ?_
  refine s_icmp (p' := 13) false rfl (by decide +kernel) rfl ?_
  refine s_aldn (p' := 14) rfl rfl rfl ?_
  refine s_gf (p' := 17) rfl H375 rfl rfl ?_
  refine s_ildn (p' := 18) rfl rfl rfl ?_
  refine s_ildn (p' := 19) rfl rfl rfl ?_
  refine s_iasz (p' := 20) (m := 4) rfl rfl H376 (by decide +kernel) rfl rfl rfl ?_
  refine c_ret rfl ?_
  refine s_ildn (p' := 42) rfl rfl rfl ?_
  refine c_iret rfl rfl ?_
  refine s_bzL (p' := 9) (z := (lN 0)) rfl rfl rfl (by decide +kernel) ?_
  refine s_lasz (p' := 10) (m := 0) rfl rfl (rd_sn rfl H412) (by decide +kernel) rfl rfl rfl ?_
  refine s_goto (p' := 17) rfl rfl ?_
  refine s_con (p' := 18) rfl rfl ?_
  refine k_iret rfl rfl ?_
  refine l_ist (p' := 787) (ls' := [_, _, _, _, _, _, _, _, _, _]) rfl rfl rfl rfl rfl ?_
  refine l_aldn (p' := 788) rfl rfl rfl rfl ?_
  refine l_alds (p' := 789) rfl rfl rfl rfl ?_
  refine l_ild (p' := 791) rfl rfl rfl rfl ?_
  refine l_con (p' := 792) rfl rfl rfl ?_
  refine l_bz (p' := 793) (z := (nI 1)) rfl rfl rfl rfl rfl (by decide +kernel) ?_
  refine l_ialz (p' := 794) (m := 1) (z := (xs 1)) rfl rfl (by decide +kernel) rfl rfl rfl ?_
  refine l_bz (p' := 795) (z := (nI 101)) rfl rfl rfl rfl rfl hc ?_
  refine l_alds (p' := 796) rfl rfl rfl rfl ?_
  refine l_ild (p' := 798) rfl rfl rfl rfl ?_
  refine l_con (p' := 799) rfl rfl rfl ?_
  refine l_bz (p' := 800) (z := (nI 2)) rfl rfl rfl rfl rfl (by decide +kernel) ?_
  refine l_ialz (p' := 801) (m := 2) (z := (xs 2)) rfl rfl (by decide +kernel) rfl rfl rfl ?_
  refine l_call (p' := 804) (kc := 99) (ls0 := [_, _, _, _]) rfl rfl rfl rfl rfl rfl (mj_rcv_is (rd_sn rfl (rd_sn rfl H400))) rfl rfl rfl ?_
  refine s_aldn (p' := 1) rfl rfl rfl ?_
  refine s_ildn (p' := 2) rfl rfl rfl ?_
  refine c_call (p' := 5) (kc := 98) (ls0 := [_]) rfl rfl rfl rfl rfl rfl rfl rfl rfl ?_
  refine s_ildn (p' := 1) rfl rfl rfl ?_
  refine s_bip (p' := 3) rfl rfl ?_
  refine s_bip (p' := 5) rfl rfl ?_
  refine c_call (p' := 8) (kc := 97) (ls0 := [_, _, _]) rfl rfl rfl rfl rfl rfl rfl rfl rfl ?_
  refine s_ildn (p' := 1) rfl rfl rfl ?_
  refine s_ildn (p' := 2) rfl rfl rfl ?_
  refine s_icmp (p' := 5) false rfl (by decide +kernel) rfl ?_
  refine s_ildn (p' := 6) rfl rfl rfl ?_
  refine s_ildn (p' := 7) rfl rfl rfl ?_
  refine s_icmp (p' := 10) false rfl (by decide +kernel) rfl ?_
  refine s_con (p' := 11) rfl rfl ?_
  refine s_goto (p' := 15) rfl rfl ?_
  refine c_iret rfl (by decide +kernel) ?_
  refine c_iret rfl (by decide +kernel) ?_
  refine s_if (p' := 8) false rfl (by decide +kernel) rfl ?_
  refine s_con (p' := 9) rfl rfl ?_
  refine s_goto (p' := 13) rfl rfl ?_
  refine c_call (p' := 16) (kc := 98) (ls0 := [_, _]) rfl rfl rfl rfl rfl (mj_rcv_is (rd_sn rfl (rd_sn rfl H400))) rfl rfl rfl ?_
  refine s_aldn (p' := 1) rfl rfl rfl ?_
  refine s_ildn (p' := 2) rfl rfl rfl ?_
  refine s_pfz (p' := 5) (fs' := [_, _, _, _, _, _, _, _, _, _, _]) rfl rfl (rd_sn rfl (rd_sn rfl H400)) rfl rfl rfl rfl ?_
  refine s_ildn (p' := 6) rfl rfl rfl ?_
  refine s_if (p' := 13) true rfl (by decide +kernel) rfl ?_
  refine s_con (p' := 14) rfl rfl ?_
  refine c_iret rfl (by decide +kernel) ?_
  refine s_if (p' := 21) true rfl (by decide +kernel) rfl ?_
  refine s_aldn (p' := 22) rfl rfl rfl ?_
  refine s_gf (p' := 25) rfl (rd_ss rfl (rd_sn rfl (rd_sn rfl H400))) rfl rfl ?_
  refine s_gf (p' := 28) rfl (rd_sn rfl (rd_sn rfl (rd_sn rfl H402))) rfl rfl ?_
  refine s_ildn (p' := 29) rfl rfl rfl ?_
  refine s_bip (p' := 31) rfl rfl ?_
  refine s_bz (p' := 32) (z := (nI 4)) rfl rfl rfl (by decide +kernel) ?_
  refine s_ialz (p' := 33) (m := 4) (v := (nI 0)) rfl (rd_sn rfl (rd_sn rfl (rd_sn rfl H403))) (by decide +kernel) rfl (by decide +kernel) rfl ?_
  refine s_istn (p' := 34) (ls' := [_, _, _, _]) rfl rfl rfl rfl ?_
  refine s_aldn (p' := 35) rfl rfl rfl ?_
  refine s_gf (p' := 38) rfl (rd_ss rfl (rd_sn rfl (rd_sn rfl H400))) rfl rfl ?_
  refine s_gf (p' := 41) rfl (rd_sn rfl (rd_sn rfl (rd_sn rfl H402))) rfl rfl ?_
  refine s_ildn (p' := 42) rfl rfl rfl ?_
  refine s_bip (p' := 44) rfl rfl ?_
  refine s_bz (p' := 45) (z := (nI 4)) rfl rfl rfl (by decide +kernel) ?_
  refine s_ildn (p' := 46) rfl rfl rfl ?_
  refine s_iasz (p' := 47) (m := 4) rfl rfl (rd_sn rfl (rd_sn rfl (rd_sn rfl H403))) (by decide +kernel) rfl rfl rfl ?_
  refine s_ildn (p' := 48) rfl rfl rfl ?_
  refine k_iret rfl rfl ?_
  refine l_ist (p' := 806) (ls' := [_, _, _, _, _, _, _, _, _, _]) rfl rfl rfl rfl rfl ?_
  refine l_aldn (p' := 807) rfl rfl rfl rfl ?_
  refine l_call (p' := 810) (kc := 99) (ls0 := [_]) rfl rfl rfl rfl rfl rfl (mj_rcv_is (rd_sn rfl (rd_ss rfl (rd_sn rfl (rd_sn rfl H400))))) rfl rfl rfl ?_
  refine s_aldn (p' := 1) rfl rfl rfl ?_
  refine s_gf (p' := 4) rfl (rd_sn rfl (rd_ss rfl (rd_sn rfl (rd_sn rfl H400)))) rfl rfl ?_
  refine k_iret rfl rfl ?_
  refine l_ild (p' := 812) rfl rfl rfl rfl ?_
  refine l_icmp (p' := 817) true rfl rfl (by decide +kernel) rfl ?_
  refine l_ild (p' := 819) rfl rfl rfl rfl ?_
  refine l_if (p' := 822) false rfl rfl (by decide +kernel) rfl ?_
  refine l_aldn (p' := 823) rfl rfl rfl rfl ?_
  refine l_con (p' := 824) rfl rfl rfl ?_
  refine l_lalz (p' := 825) (m := 0) (v := (lN 0)) rfl rfl (rd_sn rfl (rd_sn rfl (rd_ss rfl (rd_sn rfl H412)))) (by decide +kernel) rfl (by decide +kernel) rfl ?_
  refine l_ild (p' := 827) rfl rfl rfl rfl ?_
  refine l_bzL (p' := 828) (z := (lN 0)) rfl rfl rfl rfl rfl (by decide +kernel) ?_
  refine l_bz (p' := 829) (z := (nI 0)) rfl rfl rfl rfl rfl (by decide +kernel) ?_
  refine l_if (p' := 834) true rfl rfl (by decide +kernel) rfl ?_
  refine l_goto (p' := 2541) rfl rfl rfl ?_
  refine l_incz (p' := 2544) (w := (nI 4)) (ls' := [_, _, _, _, _, _, _, _, _, _]) rfl rfl rfl rfl (by decide +kernel) rfl rfl ?_
  refine l_goto (p' := 28) rfl rfl rfl ?_
  refine l_ild (p' := 30) rfl rfl rfl rfl ?_
  refine l_alds (p' := 31) rfl rfl rfl rfl ?_
  refine l_lens (p' := 32) rfl rfl rfl ?_
  refine l_con (p' := 33) rfl rfl rfl ?_
  refine l_bz (p' := 34) (z := (nI 0)) rfl rfl rfl rfl rfl (by decide +kernel) ?_
  refine l_icmp (p' := 2547) true rfl rfl (by decide +kernel) rfl ?_
  refine l_con (p' := 2548) rfl rfl rfl ?_
  refine l_end rfl rfl ?_
  exact ⟨Nat.le_trans (Nat.le_of_eq (len_s (len_s (len_s (len_s HL))))) (Nat.le_of_ble_eq_true rfl), Nat.le_trans (sz_sA rfl (rd_sn rfl (rd_sn rfl (rd_sn rfl H403))) (sz_s rfl (rd_sn rfl (rd_sn rfl H400)) rfl (sz_sA rfl (rd_sn rfl H412) (sz_sA rfl H376 HZ)))) (Nat.le_of_ble_eq_true rfl)⟩
theorem p1_10_5 {xs : Nat → Int32} {h : mj_H} (hk : xs 0 &&& nI 63 = nI 10)  (hc : ((xs 1).toUInt32 % 65536).toInt32 = nI 102) (HL : h.length = 414) (HZ : mj_sz h ≤ 20000) (H0 : mj_rd h 0 = some (.inr (0, [.ref 1, .ref 38, .ref 299, .ref 336, .ref 373, .ref 375, .ref 378, .ref 381, .ref 387, .ref 393, .null, .null, .ref 397, .ref 398, .ref 399, .long (lN 0), .long (lN 0)]))) (H375 : mj_rd h 375 = some (.inr (7, [.ref 376, .ref 377, .int (nI 0)]))) (H376 : mj_rd h 376 = some (.inl (0, (8, .inl (fun _ => 0))))) (H400 : mj_rd h 400 = some (.inr (17, [.int (nI 0), .ref 401, .ref 402, .ref 1000300, .long (lN 0), .long (lN 0), .ref 410, .null, .null, .null, .ref 411]))) (H402 : mj_rd h 402 = some (.inr (19, [.ref 403, .ref 404, .ref 405, .ref 406, .ref 407, .ref 408, .ref 409, .int (nI 0), .int (nI 4294967295), .int (nI 0), .ref 400]))) (H403 : mj_rd h 403 = some (.inl (0, (8, .inl (fun _ => 0))))) (H412 : mj_rd h 412 = some (.inl (4, (1, .inr (.inl (fun _ => 0)))))) : mj_fin 4 xs h := by
  unfold mj_fin
  refine l_ild (p' := 30) rfl rfl rfl rfl ?_
  refine l_alds (p' := 31) rfl rfl rfl rfl ?_
  refine l_lens (p' := 32) rfl rfl rfl ?_
  refine l_con (p' := 33) rfl rfl rfl ?_
  refine l_bz (p' := 34) (z := (nI 0)) rfl rfl rfl rfl rfl (by decide +kernel) ?_
  refine l_icmp (p' := 37) false rfl rfl (by decide +kernel) rfl ?_
  refine l_alds (p' := 38) rfl rfl rfl rfl ?_
  refine l_ild (p' := 40) rfl rfl rfl rfl ?_
  refine l_ialz (p' := 41) (m := 0) (z := (xs 0)) rfl rfl (by decide +kernel) rfl rfl rfl ?_
  refine l_bip (p' := 43) rfl rfl rfl ?_
  refine l_bz (p' := 44) (z := (nI 10)) rfl rfl rfl rfl rfl hk ?_
  refine l_sp (p' := 767) (ls' := _) rfl rfl rfl rfl rfl ?_
  refine l_aldn (p' := 768) rfl rfl rfl rfl ?_
  refine l_alds (p' := 769) rfl rfl rfl rfl ?_
  refine l_ild (p' := 771) rfl rfl rfl rfl ?_
  refine l_con (p' := 772) rfl rfl rfl ?_
  refine l_bz (p' := 773) (z := (nI 1)) rfl rfl rfl rfl rfl (by decide +kernel) ?_
  refine l_ialz (p' := 774) (m := 1) (z := (xs 1)) rfl rfl (by decide +kernel) rfl rfl rfl ?_
  refine l_bz (p' := 775) (z := (nI 102)) rfl rfl rfl rfl rfl hc ?_
  refine l_alds (p' := 776) rfl rfl rfl rfl ?_
  refine l_ild (p' := 778) rfl rfl rfl rfl ?_
  refine l_con (p' := 779) rfl rfl rfl ?_
  refine l_bz (p' := 780) (z := (nI 2)) rfl rfl rfl rfl rfl (by decide +kernel) ?_
  refine l_ialz (p' := 781) (m := 2) (z := (xs 2)) rfl rfl (by decide +kernel) rfl rfl rfl ?_
  refine l_aldn (p' := 782) rfl rfl rfl rfl ?_
  refine l_call (p' := 785) (kc := 99) (ls0 := [_, _, _, _, _]) rfl rfl rfl rfl rfl rfl rfl rfl rfl rfl ?_
  refine s_aldn (p' := 1) rfl rfl rfl ?_
  refine s_con (p' := 2) rfl rfl ?_
  refine s_aldn (p' := 3) rfl rfl rfl ?_
  refine s_ildn (p' := 4) rfl rfl rfl ?_
  refine s_ildn (p' := 5) rfl rfl rfl ?_
  refine c_call (p' := 8) (kc := 98) (ls0 := [_, _, _, _]) rfl rfl rfl rfl rfl (mj_rcv_is H0) rfl rfl rfl ?_
  refine s_ildn (p' := 1) rfl rfl rfl ?_
  refine c_call (p' := 4) (kc := 97) (ls0 := [_]) rfl rfl rfl rfl rfl rfl rfl rfl rfl ?_
  refine s_ildn (p' := 1) rfl rfl rfl ?_
  refine s_bip (p' := 3) rfl rfl ?_
  refine s_icmp (p' := 6) false rfl (by decide +kernel) rfl ?_
  refine s_ildn (p' := 7) rfl rfl rfl ?_
  refine s_bip (p' := 9) rfl rfl ?_
  refine s_icmp (p' := 12) false rfl (by decide +kernel) rfl ?_
  refine s_con (p' := 13) rfl rfl ?_
  refine s_goto (p' := 17) rfl rfl ?_
  refine c_iret rfl (by decide +kernel) ?_
  refine s_if (p' := 17) true rfl (by decide +kernel) rfl ?_
  refine s_aldn (p' := 18) rfl rfl rfl ?_
  refine s_gf (p' := 21) rfl H0 rfl rfl ?_
  refine s_ildn (p' := 22) rfl rfl rfl ?_
  refine s_bip (p' := 24) rfl rfl ?_
  refine s_bz (p' := 25) (z := (nI 5)) rfl rfl rfl (by decide +kernel) ?_
  refine c_call (p' := 28) (kc := 97) (ls0 := [_, _]) rfl rfl rfl rfl rfl (mj_rcv_is H375) rfl rfl rfl ?_
  refine s_ildn (p' := 1) rfl rfl rfl ?_
  refine s_if (p' := 4) false rfl (by decide +kernel) rfl ?_
  refine s_ildn (p' := 5) rfl rfl rfl ?_
  refine s_aldn (p' := 6) rfl rfl rfl ?_
  refine s_gf (p' := 9) rfl H375 rfl rfl ?_
  refine s_lenz (p' := 10) rfl (mj_rdA_is H376 (by decide)) rfl rfl ?_
  refine s_icmp (p' := 13) false rfl (by decide +kernel) rfl ?_
  refine s_aldn (p' := 14) rfl rfl rfl ?_
  refine s_gf (p' := 17) rfl H375 rfl rfl ?_
  refine s_ildn (p' := 18) rfl rfl rfl ?_
  refine s_ialz (p' := 19) (m := 5) (v := (nI 0)) rfl H376 (by decide +kernel) rfl (by decide +kernel) rfl ?_
  refine s_goto (p' := 23) rfl rfl ?_
  refine c_iret rfl rfl ?_
  refine s_istn (p' := 29) (ls' := [_, _, _, _]) rfl rfl rfl rfl ?_
  refine s_aldn (p' := 30) rfl rfl rfl ?_
  refine s_gf (p' := 33) rfl H0 rfl rfl ?_
  refine s_ildn (p' := 34) rfl rfl rfl ?_
  refine s_bip (p' := 36) rfl rfl ?_
  refine s_bz (p' := 37) (z := (nI 5)) rfl rfl rfl (by decide +kernel) ?_
  refine s_ildn (p' := 38) rfl rfl rfl ?_
  refine c_call (p' := 41) (kc := 97) (ls0 := [_, _, _]) rfl rfl rfl rfl rfl (mj_rcv_is H375) rfl rfl rfl ?_
  refine s_ildn (p' := 1) rfl rfl rfl ?_
  refine s_if (p' := 4) false rfl (by decide +kernel) rfl ?_
  refine s_ildn (p' := 5) rfl rfl rfl ?_
  refine s_aldn (p' := 6) rfl rfl rfl ?_
  refine s_gf (p' := 9) rfl H375 rfl rfl ?_
  refine s_lenz (p' := 10) rfl (mj_rdA_is H376 (by decide)) rfl rfl ?_
  refine s_icmp (p' := 13) false rfl (by decide +kernel) rfl ?_
  refine s_aldn (p' := 14) rfl rfl rfl ?_
  refine s_gf (p' := 17) rfl H375 rfl rfl ?_
  refine s_ildn (p' := 18) rfl rfl rfl ?_
  refine s_ildn (p' := 19) rfl rfl rfl ?_
  refine s_iasz (p' := 20) (m := 5) rfl rfl H376 (by decide +kernel) rfl rfl rfl ?_
  refine c_ret rfl ?_
  refine s_ildn (p' := 42) rfl rfl rfl ?_
  refine c_iret rfl rfl ?_
  refine s_bzL (p' := 9) (z := (lN 0)) rfl rfl rfl (by decide +kernel) ?_
  refine s_lasz (p' := 10) (m := 0) rfl rfl (rd_sn rfl H412) (by decide +kernel) rfl rfl rfl ?_
  refine s_goto (p' := 17) rfl rfl ?_
  refine s_con (p' := 18) rfl rfl ?_
  refine k_iret rfl rfl ?_
  refine l_ist (p' := 787) (ls' := [_, _, _, _, _, _, _, _, _, _]) rfl rfl rfl rfl rfl ?_
  refine l_aldn (p' := 788) rfl rfl rfl rfl ?_
  refine l_alds (p' := 789) rfl rfl rfl rfl ?_
  refine l_ild (p' := 791) rfl rfl rfl rfl ?_
  refine l_con (p' := 792) rfl rfl rfl ?_
  refine l_bz (p' := 793) (z := (nI 1)) rfl rfl rfl rfl rfl (by decide +kernel) ?_
  refine l_ialz (p' := 794) (m := 1) (z := (xs 1)) rfl rfl (by decide +kernel) rfl rfl rfl ?_
  refine l_bz (p' := 795) (z := (nI 102)) rfl rfl rfl rfl rfl hc ?_
  refine l_alds (p' := 796) rfl rfl rfl rfl ?_
  refine l_ild (p' := 798) rfl rfl rfl rfl ?_
  refine l_con (p' := 799) rfl rfl rfl ?_
  refine l_bz (p' := 800) (z := (nI 2)) rfl rfl rfl rfl rfl (by decide +kernel) ?_
  refine l_ialz (p' := 801) (m := 2) (z := (xs 2)) rfl rfl (by decide +kernel) rfl rfl rfl ?_
  refine l_call (p' := 804) (kc := 99) (ls0 := [_, _, _, _]) rfl rfl rfl rfl rfl rfl (mj_rcv_is (rd_sn rfl (rd_sn rfl H400))) rfl rfl rfl ?_
  refine s_aldn (p' := 1) rfl rfl rfl ?_
  refine s_ildn (p' := 2) rfl rfl rfl ?_
  refine c_call (p' := 5) (kc := 98) (ls0 := [_]) rfl rfl rfl rfl rfl rfl rfl rfl rfl ?_
  refine s_ildn (p' := 1) rfl rfl rfl ?_
  refine s_bip (p' := 3) rfl rfl ?_
  refine s_bip (p' := 5) rfl rfl ?_
  refine c_call (p' := 8) (kc := 97) (ls0 := [_, _, _]) rfl rfl rfl rfl rfl rfl rfl rfl rfl ?_
  refine s_ildn (p' := 1) rfl rfl rfl ?_
  refine s_ildn (p' := 2) rfl rfl rfl ?_
  refine s_icmp (p' := 5) false rfl (by decide +kernel) rfl ?_
  refine s_ildn (p' := 6) rfl rfl rfl ?_
  refine s_ildn (p' := 7) rfl rfl rfl ?_
  refine s_icmp (p' := 10) false rfl (by decide +kernel) rfl ?_
  refine s_con (p' := 11) rfl rfl ?_
  refine s_goto (p' := 15) rfl rfl ?_
  refine c_iret rfl (by decide +kernel) ?_
  refine c_iret rfl (by decide +kernel) ?_
  refine s_if (p' := 8) false rfl (by decide +kernel) rfl ?_
  refine s_con (p' := 9) rfl rfl ?_
  refine s_goto (p' := 13) rfl rfl ?_
  refine c_call (p' := 16) (kc := 98) (ls0 := [_, _]) rfl rfl rfl rfl rfl (mj_rcv_is (rd_sn rfl (rd_sn rfl H400))) rfl rfl rfl ?_
  refine s_aldn (p' := 1) rfl rfl rfl ?_
  refine s_ildn (p' := 2) rfl rfl rfl ?_
  refine s_pfz (p' := 5) (fs' := [_, _, _, _, _, _, _, _, _, _, _]) rfl rfl (rd_sn rfl (rd_sn rfl H400)) rfl rfl rfl rfl ?_
  refine s_ildn (p' := 6) rfl rfl rfl ?_
  refine s_if (p' := 13) true rfl (by decide +kernel) rfl ?_
  refine s_con (p' := 14) rfl rfl ?_
  refine c_iret rfl (by decide +kernel) ?_
  refine s_if (p' := 21) true rfl (by decide +kernel) rfl ?_
  refine s_aldn (p' := 22) rfl rfl rfl ?_
  refine s_gf (p' := 25) rfl (rd_ss rfl (rd_sn rfl (rd_sn rfl H400))) rfl rfl ?_
  refine s_gf (p' := 28) rfl (rd_sn rfl (rd_sn rfl (rd_sn rfl H402))) rfl rfl ?_
  refine s_ildn (p' := 29) rfl rfl rfl ?_
  refine s_bip (p' := 31) rfl rfl ?_
  refine s_bz (p' := 32) (z := (nI 5)) rfl rfl rfl (by decide +kernel) ?_
  refine s_ialz (p' := 33) (m := 5) (v := (nI 0)) rfl (rd_sn rfl (rd_sn rfl (rd_sn rfl H403))) (by decide +kernel) rfl (by decide +kernel) rfl ?_
  refine s_istn (p' := 34) (ls' := [_, _, _, _]) rfl rfl rfl rfl ?_
  refine s_aldn (p' := 35) rfl rfl rfl ?_
  refine s_gf (p' := 38) rfl (rd_ss rfl (rd_sn rfl (rd_sn rfl H400))) rfl rfl ?_
  refine s_gf (p' := 41) rfl (rd_sn rfl (rd_sn rfl (rd_sn rfl H402))) rfl rfl ?_
  refine s_ildn (p' := 42) rfl rfl rfl ?_
  refine s_bip (p' := 44) rfl rfl ?_
  refine s_bz (p' := 45) (z := (nI 5)) rfl rfl rfl (by decide +kernel) ?_
  refine s_ildn (p' := 46) rfl rfl rfl ?_
  refine s_iasz (p' := 47) (m := 5) rfl rfl (rd_sn rfl (rd_sn rfl (rd_sn rfl H403))) (by decide +kernel) rfl rfl rfl ?_
  refine s_ildn (p' := 48) rfl rfl rfl ?_
  refine k_iret rfl rfl ?_
  refine l_ist (p' := 806) (ls' := [_, _, _, _, _, _, _, _, _, _]) rfl rfl rfl rfl rfl ?_
  refine l_aldn (p' := 807) rfl rfl rfl rfl ?_
  refine l_call (p' := 810) (kc := 99) (ls0 := [_]) rfl rfl rfl rfl rfl rfl (mj_rcv_is (rd_sn rfl (rd_ss rfl (rd_sn rfl (rd_sn rfl H400))))) rfl rfl rfl ?_
  refine s_aldn (p' := 1) rfl rfl rfl ?_
  refine s_gf (p' := 4) rfl (rd_sn rfl (rd_ss rfl (rd_sn rfl (rd_sn rfl H400)))) rfl rfl ?_
  refine k_iret rfl rfl ?_
  refine l_ild (p' := 812) rfl rfl rfl rfl ?_
  refine l_icmp (p' := 817) true rfl rfl (by decide +kernel) rfl ?_
  refine l_ild (p' := 819) rfl rfl rfl rfl ?_
  refine l_if (p' := 822) false rfl rfl (by decide +kernel) rfl ?_
  refine l_aldn (p' := 823) rfl rfl rfl rfl ?_
  refine l_con (p' := 824) rfl rfl rfl ?_
  refine l_lalz (p' := 825) (m := 0) (v := (lN 0)) rfl rfl (rd_sn rfl (rd_sn rfl (rd_ss rfl (rd_sn rfl H412)))) (by decide +kernel) rfl (by decide +kernel) rfl ?_
  refine l_ild (p' := 827) rfl rfl rfl rfl ?_
  refine l_bzL (p' := 828) (z := (lN 0)) rfl rfl rfl rfl rfl (by decide +kernel) ?_
  refine l_bz (p' := 829) (z := (nI 0)) rfl rfl rfl rfl rfl (by decide +kernel) ?_
  refine l_if (p' := 834) true rfl rfl (by decide +kernel) rfl ?_
  refine l_goto (p' := 2541) rfl rfl rfl ?_
  refine l_incz (p' := 2544) (w := (nI 4)) (ls' := [_, _, _, _, _, _, _, _, _, _]) rfl rfl rfl rfl (by decide +kernel) rfl rfl ?_
  refine l_goto (p' := 28) rfl rfl rfl ?_
  refine l_ild (p' := 30) rfl rfl rfl rfl ?_
  refine l_alds (p' := 31) rfl rfl rfl rfl ?_
  refine l_lens (p' := 32) rfl rfl rfl ?_
  refine l_con (p' := 33) rfl rfl rfl ?_
  refine l_bz (p' := 34) (z := (nI 0)) rfl rfl rfl rfl rfl (by decide +kernel) ?_
  refine l_icmp (p' := 2547) true rfl rfl (by decide +kernel) rfl ?_
  refine l_con (p' := 2548) rfl rfl rfl ?_
  refine l_end rfl rfl ?_
  exact ⟨Nat.le_trans (Nat.le_of_eq (len_s (len_s (len_s (len_s HL))))) (Nat.le_of_ble_eq_true rfl), Nat.le_trans (sz_sA rfl (rd_sn rfl (rd_sn rfl (rd_sn rfl H403))) (sz_s rfl (rd_sn rfl (rd_sn rfl H400)) rfl (sz_sA rfl (rd_sn rfl H412) (sz_sA rfl H376 HZ)))) (Nat.le_of_ble_eq_true rfl)⟩
theorem p1_10_6 {xs : Nat → Int32} {h : mj_H} (hk : xs 0 &&& nI 63 = nI 10)  (hc : ((xs 1).toUInt32 % 65536).toInt32 = nI 103) (HL : h.length = 414) (HZ : mj_sz h ≤ 20000) (H0 : mj_rd h 0 = some (.inr (0, [.ref 1, .ref 38, .ref 299, .ref 336, .ref 373, .ref 375, .ref 378, .ref 381, .ref 387, .ref 393, .null, .null, .ref 397, .ref 398, .ref 399, .long (lN 0), .long (lN 0)]))) (H375 : mj_rd h 375 = some (.inr (7, [.ref 376, .ref 377, .int (nI 0)]))) (H376 : mj_rd h 376 = some (.inl (0, (8, .inl (fun _ => 0))))) (H400 : mj_rd h 400 = some (.inr (17, [.int (nI 0), .ref 401, .ref 402, .ref 1000300, .long (lN 0), .long (lN 0), .ref 410, .null, .null, .null, .ref 411]))) (H402 : mj_rd h 402 = some (.inr (19, [.ref 403, .ref 404, .ref 405, .ref 406, .ref 407, .ref 408, .ref 409, .int (nI 0), .int (nI 4294967295), .int (nI 0), .ref 400]))) (H403 : mj_rd h 403 = some (.inl (0, (8, .inl (fun _ => 0))))) (H412 : mj_rd h 412 = some (.inl (4, (1, .inr (.inl (fun _ => 0)))))) : mj_fin 4 xs h := by
  unfold mj_fin
  refine l_ild (p' := 30) rfl rfl rfl rfl ?_
  refine l_alds (p' := 31) rfl rfl rfl rfl ?_
  refine l_lens (p' := 32) rfl rfl rfl ?_
  refine l_con (p' := 33) rfl rfl rfl ?_
  refine l_bz (p' := 34) (z := (nI 0)) rfl rfl rfl rfl rfl (by decide +kernel) ?_
  refine l_icmp (p' := 37) false rfl rfl (by decide +kernel) rfl ?_
  refine l_alds (p' := 38) rfl rfl rfl rfl ?_
  refine l_ild (p' := 40) rfl rfl rfl rfl ?_
  refine l_ialz (p' := 41) (m := 0) (z := (xs 0)) rfl rfl (by decide +kernel) rfl rfl rfl ?_
  refine l_bip (p' := 43) rfl rfl rfl ?_
  refine l_bz (p' := 44) (z := (nI 10)) rfl rfl rfl rfl rfl hk ?_
  refine l_sp (p' := 767) (ls' := _) rfl rfl rfl rfl rfl ?_
  refine l_aldn (p' := 768) rfl rfl rfl rfl ?_
  refine l_alds (p' := 769) rfl rfl rfl rfl ?_
  refine l_ild (p' := 771) rfl rfl rfl rfl ?_
  refine l_con (p' := 772) rfl rfl rfl ?_
  refine l_bz (p' := 773) (z := (nI 1)) rfl rfl rfl rfl rfl (by decide +kernel) ?_
  refine l_ialz (p' := 774) (m := 1) (z := (xs 1)) rfl rfl (by decide +kernel) rfl rfl rfl ?_
  refine l_bz (p' := 775) (z := (nI 103)) rfl rfl rfl rfl rfl hc ?_
  refine l_alds (p' := 776) rfl rfl rfl rfl ?_
  refine l_ild (p' := 778) rfl rfl rfl rfl ?_
  refine l_con (p' := 779) rfl rfl rfl ?_
  refine l_bz (p' := 780) (z := (nI 2)) rfl rfl rfl rfl rfl (by decide +kernel) ?_
  refine l_ialz (p' := 781) (m := 2) (z := (xs 2)) rfl rfl (by decide +kernel) rfl rfl rfl ?_
  refine l_aldn (p' := 782) rfl rfl rfl rfl ?_
  refine l_call (p' := 785) (kc := 99) (ls0 := [_, _, _, _, _]) rfl rfl rfl rfl rfl rfl rfl rfl rfl rfl ?_
  refine s_aldn (p' := 1) rfl rfl rfl ?_
  refine s_con (p' := 2) rfl rfl ?_
  refine s_aldn (p' := 3) rfl rfl rfl ?_
  refine s_ildn (p' := 4) rfl rfl rfl ?_
  refine s_ildn (p' := 5) rfl rfl rfl ?_
  refine c_call (p' := 8) (kc := 98) (ls0 := [_, _, _, _]) rfl rfl rfl rfl rfl (mj_rcv_is H0) rfl rfl rfl ?_
  refine s_ildn (p' := 1) rfl rfl rfl ?_
  refine c_call (p' := 4) (kc := 97) (ls0 := [_]) rfl rfl rfl rfl rfl rfl rfl rfl rfl ?_
  refine s_ildn (p' := 1) rfl rfl rfl ?_
  refine s_bip (p' := 3) rfl rfl ?_
  refine s_icmp (p' := 6) false rfl (by decide +kernel) rfl ?_
  refine s_ildn (p' := 7) rfl rfl rfl ?_
  refine s_bip (p' := 9) rfl rfl ?_
  refine s_icmp (p' := 12) false rfl (by decide +kernel) rfl ?_
  refine s_con (p' := 13) rfl rfl ?_
  refine s_goto (p' := 17) rfl rfl ?_
  refine c_iret rfl (by decide +kernel) ?_
  refine s_if (p' := 17) true rfl (by decide +kernel) rfl ?_
  refine s_aldn (p' := 18) rfl rfl rfl ?_
  refine s_gf (p' := 21) rfl H0 rfl rfl ?_
  refine s_ildn (p' := 22) rfl rfl rfl ?_
  refine s_bip (p' := 24) rfl rfl ?_
  refine s_bz (p' := 25) (z := (nI 6)) rfl rfl rfl (by decide +kernel) ?_
  refine c_call (p' := 28) (kc := 97) (ls0 := [_, _]) rfl rfl rfl rfl rfl (mj_rcv_is H375) rfl rfl rfl ?_
  refine s_ildn (p' := 1) rfl rfl rfl ?_
  refine s_if (p' := 4) false rfl (by decide +kernel) rfl ?_
  refine s_ildn (p' := 5) rfl rfl rfl ?_
  refine s_aldn (p' := 6) rfl rfl rfl ?_
  refine s_gf (p' := 9) rfl H375 rfl rfl ?_
  refine s_lenz (p' := 10) rfl (mj_rdA_is H376 (by decide)) rfl rfl ?_
  refine s_icmp (p' := 13) false rfl (by decide +kernel) rfl ?_
  refine s_aldn (p' := 14) rfl rfl rfl ?_
  refine s_gf (p' := 17) rfl H375 rfl rfl ?_
  refine s_ildn (p' := 18) rfl rfl rfl ?_
  refine s_ialz (p' := 19) (m := 6) (v := (nI 0)) rfl H376 (by decide +kernel) rfl (by decide +kernel) rfl ?_
  refine s_goto (p' := 23) rfl rfl ?_
  refine c_iret rfl rfl ?_
  refine s_istn (p' := 29) (ls' := [_, _, _, _]) rfl rfl rfl rfl ?_
  refine s_aldn (p' := 30) rfl rfl rfl ?_
  refine s_gf (p' := 33) rfl H0 rfl rfl ?_
  refine s_ildn (p' := 34) rfl rfl rfl ?_
  refine s_bip (p' := 36) rfl rfl ?_
  refine s_bz (p' := 37) (z := (nI 6)) rfl rfl rfl (by decide +kernel) ?_
  refine s_ildn (p' := 38) rfl rfl rfl ?_
  refine c_call (p' := 41) (kc := 97) (ls0 := [_, _, _]) rfl rfl rfl rfl rfl (mj_rcv_is H375) rfl rfl rfl ?_
  refine s_ildn (p' := 1) rfl rfl rfl ?_
  refine s_if (p' := 4) false rfl (by decide +kernel) rfl ?_
  refine s_ildn (p' := 5) rfl rfl rfl ?_
  refine s_aldn (p' := 6) rfl rfl rfl ?_
  refine s_gf (p' := 9) rfl H375 rfl rfl ?_
  refine s_lenz (p' := 10) rfl (mj_rdA_is H376 (by decide)) rfl rfl ?_
  refine s_icmp (p' := 13) false rfl (by decide +kernel) rfl ?_
  refine s_aldn (p' := 14) rfl rfl rfl ?_
  refine s_gf (p' := 17) rfl H375 rfl rfl ?_
  refine s_ildn (p' := 18) rfl rfl rfl ?_
  refine s_ildn (p' := 19) rfl rfl rfl ?_
  refine s_iasz (p' := 20) (m := 6) rfl rfl H376 (by decide +kernel) rfl rfl rfl ?_
  refine c_ret rfl ?_
  refine s_ildn (p' := 42) rfl rfl rfl ?_
  refine c_iret rfl rfl ?_
  refine s_bzL (p' := 9) (z := (lN 0)) rfl rfl rfl (by decide +kernel) ?_
  refine s_lasz (p' := 10) (m := 0) rfl rfl (rd_sn rfl H412) (by decide +kernel) rfl rfl rfl ?_
  refine s_goto (p' := 17) rfl rfl ?_
  refine s_con (p' := 18) rfl rfl ?_
  refine k_iret rfl rfl ?_
  refine l_ist (p' := 787) (ls' := [_, _, _, _, _, _, _, _, _, _]) rfl rfl rfl rfl rfl ?_
  refine l_aldn (p' := 788) rfl rfl rfl rfl ?_
  refine l_alds (p' := 789) rfl rfl rfl rfl ?_
  refine l_ild (p' := 791) rfl rfl rfl rfl ?_
  refine l_con (p' := 792) rfl rfl rfl ?_
  refine l_bz (p' := 793) (z := (nI 1)) rfl rfl rfl rfl rfl (by decide +kernel) ?_
  refine l_ialz (p' := 794) (m := 1) (z := (xs 1)) rfl rfl (by decide +kernel) rfl rfl rfl ?_
  refine l_bz (p' := 795) (z := (nI 103)) rfl rfl rfl rfl rfl hc ?_
  refine l_alds (p' := 796) rfl rfl rfl rfl ?_
  refine l_ild (p' := 798) rfl rfl rfl rfl ?_
  refine l_con (p' := 799) rfl rfl rfl ?_
  refine l_bz (p' := 800) (z := (nI 2)) rfl rfl rfl rfl rfl (by decide +kernel) ?_
  refine l_ialz (p' := 801) (m := 2) (z := (xs 2)) rfl rfl (by decide +kernel) rfl rfl rfl ?_
  refine l_call (p' := 804) (kc := 99) (ls0 := [_, _, _, _]) rfl rfl rfl rfl rfl rfl (mj_rcv_is (rd_sn rfl (rd_sn rfl H400))) rfl rfl rfl ?_
  refine s_aldn (p' := 1) rfl rfl rfl ?_
  refine s_ildn (p' := 2) rfl rfl rfl ?_
  refine c_call (p' := 5) (kc := 98) (ls0 := [_]) rfl rfl rfl rfl rfl rfl rfl rfl rfl ?_
  refine s_ildn (p' := 1) rfl rfl rfl ?_
  refine s_bip (p' := 3) rfl rfl ?_
  refine s_bip (p' := 5) rfl rfl ?_
  refine c_call (p' := 8) (kc := 97) (ls0 := [_, _, _]) rfl rfl rfl rfl rfl rfl rfl rfl rfl ?_
  refine s_ildn (p' := 1) rfl rfl rfl ?_
  refine s_ildn (p' := 2) rfl rfl rfl ?_
  refine s_icmp (p' := 5) false rfl (by decide +kernel) rfl ?_
  refine s_ildn (p' := 6) rfl rfl rfl ?_
  refine s_ildn (p' := 7) rfl rfl rfl ?_
  refine s_icmp (p' := 10) false rfl (by decide +kernel) rfl ?_
  refine s_con (p' := 11) rfl rfl ?_
  refine s_goto (p' := 15) rfl rfl ?_
  refine c_iret rfl (by decide +kernel) ?_
  refine c_iret rfl (by decide +kernel) ?_
  refine s_if (p' := 8) false rfl (by decide +kernel) rfl ?_
  refine s_con (p' := 9) rfl rfl ?_
  refine s_goto (p' := 13) rfl rfl ?_
  refine c_call (p' := 16) (kc := 98) (ls0 := [_, _]) rfl rfl rfl rfl rfl (mj_rcv_is (rd_sn rfl (rd_sn rfl H400))) rfl rfl rfl ?_
  refine s_aldn (p' := 1) rfl rfl rfl ?_
  refine s_ildn (p' := 2) rfl rfl rfl ?_
  refine s_pfz (p' := 5) (fs' := [_, _, _, _, _, _, _, _, _, _, _]) rfl rfl (rd_sn rfl (rd_sn rfl H400)) rfl rfl rfl rfl ?_
  refine s_ildn (p' := 6) rfl rfl rfl ?_
  refine s_if (p' := 13) true rfl (by decide +kernel) rfl ?_
  refine s_con (p' := 14) rfl rfl ?_
  refine c_iret rfl (by decide +kernel) ?_
  refine s_if (p' := 21) true rfl (by decide +kernel) rfl ?_
  refine s_aldn (p' := 22) rfl rfl rfl ?_
  refine s_gf (p' := 25) rfl (rd_ss rfl (rd_sn rfl (rd_sn rfl H400))) rfl rfl ?_
  refine s_gf (p' := 28) rfl (rd_sn rfl (rd_sn rfl (rd_sn rfl H402))) rfl rfl ?_
  refine s_ildn (p' := 29) rfl rfl rfl ?_
  refine s_bip (p' := 31) rfl rfl ?_
  refine s_bz (p' := 32) (z := (nI 6)) rfl rfl rfl (by decide +kernel) ?_
  refine s_ialz (p' := 33) (m := 6) (v := (nI 0)) rfl (rd_sn rfl (rd_sn rfl (rd_sn rfl H403))) (by decide +kernel) rfl (by decide +kernel) rfl ?_
  refine s_istn (p' := 34) (ls' := [_, _, _, _]) rfl rfl rfl rfl ?_
  refine s_aldn (p' := 35) rfl rfl rfl ?_
  refine s_gf (p' := 38) rfl (rd_ss rfl (rd_sn rfl (rd_sn rfl H400))) rfl rfl ?_
  refine s_gf (p' := 41) rfl (rd_sn rfl (rd_sn rfl (rd_sn rfl H402))) rfl rfl ?_
  refine s_ildn (p' := 42) rfl rfl rfl ?_
  refine s_bip (p' := 44) rfl rfl ?_
  refine s_bz (p' := 45) (z := (nI 6)) rfl rfl rfl (by decide +kernel) ?_
  refine s_ildn (p' := 46) rfl rfl rfl ?_
  refine s_iasz (p' := 47) (m := 6) rfl rfl (rd_sn rfl (rd_sn rfl (rd_sn rfl H403))) (by decide +kernel) rfl rfl rfl ?_
  refine s_ildn (p' := 48) rfl rfl rfl ?_
  refine k_iret rfl rfl ?_
  refine l_ist (p' := 806) (ls' := [_, _, _, _, _, _, _, _, _, _]) rfl rfl rfl rfl rfl ?_
  refine l_aldn (p' := 807) rfl rfl rfl rfl ?_
  refine l_call (p' := 810) (kc := 99) (ls0 := [_]) rfl rfl rfl rfl rfl rfl (mj_rcv_is (rd_sn rfl (rd_ss rfl (rd_sn rfl (rd_sn rfl H400))))) rfl rfl rfl ?_
  refine s_aldn (p' := 1) rfl rfl rfl ?_
  refine s_gf (p' := 4) rfl (rd_sn rfl (rd_ss rfl (rd_sn rfl (rd_sn rfl H400)))) rfl rfl ?_
  refine k_iret rfl rfl ?_
  refine l_ild (p' := 812) rfl rfl rfl rfl ?_
  refine l_icmp (p' := 817) true rfl rfl (by decide +kernel) rfl ?_
  refine l_ild (p' := 819) rfl rfl rfl rfl ?_
  refine l_if (p' := 822) false rfl rfl (by decide +kernel) rfl ?_
  refine l_aldn (p' := 823) rfl rfl rfl rfl ?_
  refine l_con (p' := 824) rfl rfl rfl ?_
  refine l_lalz (p' := 825) (m := 0) (v := (lN 0)) rfl rfl (rd_sn rfl (rd_sn rfl (rd_ss rfl (rd_sn rfl H412)))) (by decide +kernel) rfl (by decide +kernel) rfl ?_
  refine l_ild (p' := 827) rfl rfl rfl rfl ?_
  refine l_bzL (p' := 828) (z := (lN 0)) rfl rfl rfl rfl rfl (by decide +kernel) ?_
  refine l_bz (p' := 829) (z := (nI 0)) rfl rfl rfl rfl rfl (by decide +kernel) ?_
  refine l_if (p' := 834) true rfl rfl (by decide +kernel) rfl ?_
  refine l_goto (p' := 2541) rfl rfl rfl ?_
  refine l_incz (p' := 2544) (w := (nI 4)) (ls' := [_, _, _, _, _, _, _, _, _, _]) rfl rfl rfl rfl (by decide +kernel) rfl rfl ?_
  refine l_goto (p' := 28) rfl rfl rfl ?_
  refine l_ild (p' := 30) rfl rfl rfl rfl ?_
  refine l_alds (p' := 31) rfl rfl rfl rfl ?_
  refine l_lens (p' := 32) rfl rfl rfl ?_
  refine l_con (p' := 33) rfl rfl rfl ?_
  refine l_bz (p' := 34) (z := (nI 0)) rfl rfl rfl rfl rfl (by decide +kernel) ?_
  refine l_icmp (p' := 2547) true rfl rfl (by decide +kernel) rfl ?_
  refine l_con (p' := 2548) rfl rfl rfl ?_
  refine l_end rfl rfl ?_
  exact ⟨Nat.le_trans (Nat.le_of_eq (len_s (len_s (len_s (len_s HL))))) (Nat.le_of_ble_eq_true rfl), Nat.le_trans (sz_sA rfl (rd_sn rfl (rd_sn rfl (rd_sn rfl H403))) (sz_s rfl (rd_sn rfl (rd_sn rfl H400)) rfl (sz_sA rfl (rd_sn rfl H412) (sz_sA rfl H376 HZ)))) (Nat.le_of_ble_eq_true rfl)⟩
theorem p1_10_7 {xs : Nat → Int32} {h : mj_H} (hk : xs 0 &&& nI 63 = nI 10)  (hc : ((xs 1).toUInt32 % 65536).toInt32 = nI 104) (HL : h.length = 414) (HZ : mj_sz h ≤ 20000) (H0 : mj_rd h 0 = some (.inr (0, [.ref 1, .ref 38, .ref 299, .ref 336, .ref 373, .ref 375, .ref 378, .ref 381, .ref 387, .ref 393, .null, .null, .ref 397, .ref 398, .ref 399, .long (lN 0), .long (lN 0)]))) (H375 : mj_rd h 375 = some (.inr (7, [.ref 376, .ref 377, .int (nI 0)]))) (H376 : mj_rd h 376 = some (.inl (0, (8, .inl (fun _ => 0))))) (H400 : mj_rd h 400 = some (.inr (17, [.int (nI 0), .ref 401, .ref 402, .ref 1000300, .long (lN 0), .long (lN 0), .ref 410, .null, .null, .null, .ref 411]))) (H402 : mj_rd h 402 = some (.inr (19, [.ref 403, .ref 404, .ref 405, .ref 406, .ref 407, .ref 408, .ref 409, .int (nI 0), .int (nI 4294967295), .int (nI 0), .ref 400]))) (H403 : mj_rd h 403 = some (.inl (0, (8, .inl (fun _ => 0))))) (H412 : mj_rd h 412 = some (.inl (4, (1, .inr (.inl (fun _ => 0)))))) : mj_fin 4 xs h := by
  unfold mj_fin
  refine l_ild (p' := 30) rfl rfl rfl rfl ?_
  refine l_alds (p' := 31) rfl rfl rfl rfl ?_
  refine l_lens (p' := 32) rfl rfl rfl ?_
  refine l_con (p' := 33) rfl rfl rfl ?_
  refine l_bz (p' := 34) (z := (nI 0)) rfl rfl rfl rfl rfl (by decide +kernel) ?_
  refine l_icmp (p' := 37) false rfl rfl (by decide +kernel) rfl ?_
  refine l_alds (p' := 38) rfl rfl rfl rfl ?_
  refine l_ild (p' := 40) rfl rfl rfl rfl ?_
  refine l_ialz (p' := 41) (m := 0) (z := (xs 0)) rfl rfl (by decide +kernel) rfl rfl rfl ?_
  refine l_bip (p' := 43) rfl rfl rfl ?_
  refine l_bz (p' := 44) (z := (nI 10)) rfl rfl rfl rfl rfl hk ?_
  refine l_sp (p' := 767) (ls' := _) rfl rfl rfl rfl rfl ?_
  refine l_aldn (p' := 768) rfl rfl rfl rfl ?_
  refine l_alds (p' := 769) rfl rfl rfl rfl ?_
  refine l_ild (p' := 771) rfl rfl rfl rfl ?_
  refine l_con (p' := 772) rfl rfl rfl ?_
  refine l_bz (p' := 773) (z := (nI 1)) rfl rfl rfl rfl rfl (by decide +kernel) ?_
  refine l_ialz (p' := 774) (m := 1) (z := (xs 1)) rfl rfl (by decide +kernel) rfl rfl rfl ?_
  refine l_bz (p' := 775) (z := (nI 104)) rfl rfl rfl rfl rfl hc ?_
  refine l_alds (p' := 776) rfl rfl rfl rfl ?_
  refine l_ild (p' := 778) rfl rfl rfl rfl ?_
  refine l_con (p' := 779) rfl rfl rfl ?_
  refine l_bz (p' := 780) (z := (nI 2)) rfl rfl rfl rfl rfl (by decide +kernel) ?_
  refine l_ialz (p' := 781) (m := 2) (z := (xs 2)) rfl rfl (by decide +kernel) rfl rfl rfl ?_
  refine l_aldn (p' := 782) rfl rfl rfl rfl ?_
  refine l_call (p' := 785) (kc := 99) (ls0 := [_, _, _, _, _]) rfl rfl rfl rfl rfl rfl rfl rfl rfl rfl ?_
  refine s_aldn (p' := 1) rfl rfl rfl ?_
  refine s_con (p' := 2) rfl rfl ?_
  refine s_aldn (p' := 3) rfl rfl rfl ?_
  refine s_ildn (p' := 4) rfl rfl rfl ?_
  refine s_ildn (p' := 5) rfl rfl rfl ?_
  refine c_call (p' := 8) (kc := 98) (ls0 := [_, _, _, _]) rfl rfl rfl rfl rfl (mj_rcv_is H0) rfl rfl rfl ?_
  refine s_ildn (p' := 1) rfl rfl rfl ?_
  refine c_call (p' := 4) (kc := 97) (ls0 := [_]) rfl rfl rfl rfl rfl rfl rfl rfl rfl ?_
  refine s_ildn (p' := 1) rfl rfl rfl ?_
  refine s_bip (p' := 3) rfl rfl ?_
  refine s_icmp (p' := 6) false rfl (by decide +kernel) rfl ?_
  refine s_ildn (p' := 7) rfl rfl rfl ?_
  refine s_bip (p' := 9) rfl rfl ?_
  refine s_icmp (p' := 12) false rfl (by decide +kernel) rfl ?_
  refine s_con (p' := 13) rfl rfl ?_
  refine s_goto (p' := 17) rfl rfl ?_
  refine c_iret rfl (by decide +kernel) ?_
  refine s_if (p' := 17) true rfl (by decide +kernel) rfl ?_
  refine s_aldn (p' := 18) rfl rfl rfl ?_
  refine s_gf (p' := 21) rfl H0 rfl rfl ?_
  refine s_ildn (p' := 22) rfl rfl rfl ?_
  refine s_bip (p' := 24) rfl rfl ?_
  refine s_bz (p' := 25) (z := (nI 7)) rfl rfl rfl (by decide +kernel) ?_
  refine c_call (p' := 28) (kc := 97) (ls0 := [_, _]) rfl rfl rfl rfl rfl (mj_rcv_is H375) rfl rfl rfl ?_
  refine s_ildn (p' := 1) rfl rfl rfl ?_
  refine s_if (p' := 4) false rfl (by decide +kernel) rfl ?_
  refine s_ildn (p' := 5) rfl rfl rfl ?_
  refine s_aldn (p' := 6) rfl rfl rfl ?_
  refine s_gf (p' := 9) rfl H375 rfl rfl ?_
  refine s_lenz (p' := 10) rfl (mj_rdA_is H376 (by decide)) rfl rfl ?_
  refine s_icmp (p' := 13) false rfl (by decide +kernel) rfl ?_
  refine s_aldn (p' := 14) rfl rfl rfl ?_
  refine s_gf (p' := 17) rfl H375 rfl rfl ?_
  refine s_ildn (p' := 18) rfl rfl rfl ?_
  refine s_ialz (p' := 19) (m := 7) (v := (nI 0)) rfl H376 (by decide +kernel) rfl (by decide +kernel) rfl ?_
  refine s_goto (p' := 23) rfl rfl ?_
  refine c_iret rfl rfl ?_
  refine s_istn (p' := 29) (ls' := [_, _, _, _]) rfl rfl rfl rfl ?_
  refine s_aldn (p' := 30) rfl rfl rfl ?_
  refine s_gf (p' := 33) rfl H0 rfl rfl ?_
  refine s_ildn (p' := 34) rfl rfl rfl ?_
  refine s_bip (p' := 36) rfl rfl ?_
  refine s_bz (p' := 37) (z := (nI 7)) rfl rfl rfl (by decide +kernel) ?_
  refine s_ildn (p' := 38) rfl rfl rfl ?_
  refine c_call (p' := 41) (kc := 97) (ls0 := [_, _, _]) rfl rfl rfl rfl rfl (mj_rcv_is H375) rfl rfl rfl ?_
  refine s_ildn (p' := 1) rfl rfl rfl ?_
  refine s_if (p' := 4) false rfl (by decide +kernel) rfl ?_
  refine s_ildn (p' := 5) rfl rfl rfl ?_
  refine s_aldn (p' := 6) rfl rfl rfl ?_
  refine s_gf (p' := 9) rfl H375 rfl rfl ?_
  refine s_lenz (p' := 10) rfl (mj_rdA_is H376 (by decide)) rfl rfl ?_
  refine s_icmp (p' := 13) false rfl (by decide +kernel) rfl ?_
  refine s_aldn (p' := 14) rfl rfl rfl ?_
  refine s_gf (p' := 17) rfl H375 rfl rfl ?_
  refine s_ildn (p' := 18) rfl rfl rfl ?_
  refine s_ildn (p' := 19) rfl rfl rfl ?_
  refine s_iasz (p' := 20) (m := 7) rfl rfl H376 (by decide +kernel) rfl rfl rfl ?_
  refine c_ret rfl ?_
  refine s_ildn (p' := 42) rfl rfl rfl ?_
  refine c_iret rfl rfl ?_
  refine s_bzL (p' := 9) (z := (lN 0)) rfl rfl rfl (by decide +kernel) ?_
  refine s_lasz (p' := 10) (m := 0) rfl rfl (rd_sn rfl H412) (by decide +kernel) rfl rfl rfl ?_
  refine s_goto (p' := 17) rfl rfl ?_
  refine s_con (p' := 18) rfl rfl ?_
  refine k_iret rfl rfl ?_
  refine l_ist (p' := 787) (ls' := [_, _, _, _, _, _, _, _, _, _]) rfl rfl rfl rfl rfl ?_
  refine l_aldn (p' := 788) rfl rfl rfl rfl ?_
  refine l_alds (p' := 789) rfl rfl rfl rfl ?_
  refine l_ild (p' := 791) rfl rfl rfl rfl ?_
  refine l_con (p' := 792) rfl rfl rfl ?_
  refine l_bz (p' := 793) (z := (nI 1)) rfl rfl rfl rfl rfl (by decide +kernel) ?_
  refine l_ialz (p' := 794) (m := 1) (z := (xs 1)) rfl rfl (by decide +kernel) rfl rfl rfl ?_
  refine l_bz (p' := 795) (z := (nI 104)) rfl rfl rfl rfl rfl hc ?_
  refine l_alds (p' := 796) rfl rfl rfl rfl ?_
  refine l_ild (p' := 798) rfl rfl rfl rfl ?_
  refine l_con (p' := 799) rfl rfl rfl ?_
  refine l_bz (p' := 800) (z := (nI 2)) rfl rfl rfl rfl rfl (by decide +kernel) ?_
  refine l_ialz (p' := 801) (m := 2) (z := (xs 2)) rfl rfl (by decide +kernel) rfl rfl rfl ?_
  refine l_call (p' := 804) (kc := 99) (ls0 := [_, _, _, _]) rfl rfl rfl rfl rfl rfl (mj_rcv_is (rd_sn rfl (rd_sn rfl H400))) rfl rfl rfl ?_
  refine s_aldn (p' := 1) rfl rfl rfl ?_
  refine s_ildn (p' := 2) rfl rfl rfl ?_
  refine c_call (p' := 5) (kc := 98) (ls0 := [_]) rfl rfl rfl rfl rfl rfl rfl rfl rfl ?_
  refine s_ildn (p' := 1) rfl rfl rfl ?_
  refine s_bip (p' := 3) rfl rfl ?_
  refine s_bip (p' := 5) rfl rfl ?_
  refine c_call (p' := 8) (kc := 97) (ls0 := [_, _, _]) rfl rfl rfl rfl rfl rfl rfl rfl rfl ?_
  refine s_ildn (p' := 1) rfl rfl rfl ?_
  refine s_ildn (p' := 2) rfl rfl rfl ?_
  refine s_icmp (p' := 5) false rfl (by decide +kernel) rfl ?_
  refine s_ildn (p' := 6) rfl rfl rfl ?_
  refine s_ildn (p' := 7) rfl rfl rfl ?_
  refine s_icmp (p' := 10) false rfl (by decide +kernel) rfl ?_
  refine s_con (p' := 11) rfl rfl ?_
  refine s_goto (p' := 15) rfl rfl ?_
  refine c_iret rfl (by decide +kernel) ?_
  refine c_iret rfl (by decide +kernel) ?_
  refine s_if (p' := 8) false rfl (by decide +kernel) rfl ?_
  refine s_con (p' := 9) rfl rfl ?_
  refine s_goto (p' := 13) rfl rfl ?_
  refine c_call (p' := 16) (kc := 98) (ls0 := [_, _]) rfl rfl rfl rfl rfl (mj_rcv_is (rd_sn rfl (rd_sn rfl H400))) rfl rfl rfl ?_
  refine s_aldn (p' := 1) rfl rfl rfl ?_
  refine s_ildn (p' := 2) rfl rfl rfl ?_
  refine s_pfz (p' := 5) (fs' := [_, _, _, _, _, _, _, _, _, _, _]) rfl rfl (rd_sn rfl (rd_sn rfl H400)) rfl rfl rfl rfl ?_
  refine s_ildn (p' := 6) rfl rfl rfl ?_
  refine s_if (p' := 13) true rfl (by decide +kernel) rfl ?_
  refine s_con (p' := 14) rfl rfl ?_
  refine c_iret rfl (by decide +kernel) ?_
  refine s_if (p' := 21) true rfl (by decide +kernel) rfl ?_
  refine s_aldn (p' := 22) rfl rfl rfl ?_
  refine s_gf (p' := 25) rfl (rd_ss rfl (rd_sn rfl (rd_sn rfl H400))) rfl rfl ?_
  refine s_gf (p' := 28) rfl (rd_sn rfl (rd_sn rfl (rd_sn rfl H402))) rfl rfl ?_
  refine s_ildn (p' := 29) rfl rfl rfl ?_
  refine s_bip (p' := 31) rfl rfl ?_
  refine s_bz (p' := 32) (z := (nI 7)) rfl rfl rfl (by decide +kernel) ?_
  refine s_ialz (p' := 33) (m := 7) (v := (nI 0)) rfl (rd_sn rfl (rd_sn rfl (rd_sn rfl H403))) (by decide +kernel) rfl (by decide +kernel) rfl ?_
  refine s_istn (p' := 34) (ls' := [_, _, _, _]) rfl rfl rfl rfl ?_
  refine s_aldn (p' := 35) rfl rfl rfl ?_
  refine s_gf (p' := 38) rfl (rd_ss rfl (rd_sn rfl (rd_sn rfl H400))) rfl rfl ?_
  refine s_gf (p' := 41) rfl (rd_sn rfl (rd_sn rfl (rd_sn rfl H402))) rfl rfl ?_
  refine s_ildn (p' := 42) rfl rfl rfl ?_
  refine s_bip (p' := 44) rfl rfl ?_
  refine s_bz (p' := 45) (z := (nI 7)) rfl rfl rfl (by decide +kernel) ?_
  refine s_ildn (p' := 46) rfl rfl rfl ?_
  refine s_iasz (p' := 47) (m := 7) rfl rfl (rd_sn rfl (rd_sn rfl (rd_sn rfl H403))) (by decide +kernel) rfl rfl rfl ?_
  refine s_ildn (p' := 48) rfl rfl rfl ?_
  refine k_iret rfl rfl ?_
  refine l_ist (p' := 806) (ls' := [_, _, _, _, _, _, _, _, _, _]) rfl rfl rfl rfl rfl ?_
  refine l_aldn (p' := 807) rfl rfl rfl rfl ?_
  refine l_call (p' := 810) (kc := 99) (ls0 := [_]) rfl rfl rfl rfl rfl rfl (mj_rcv_is (rd_sn rfl (rd_ss rfl (rd_sn rfl (rd_sn rfl H400))))) rfl rfl rfl ?_
  refine s_aldn (p' := 1) rfl rfl rfl ?_
  refine s_gf (p' := 4) rfl (rd_sn rfl (rd_ss rfl (rd_sn rfl (rd_sn rfl H400)))) rfl rfl ?_
  refine k_iret rfl rfl ?_
  refine l_ild (p' := 812) rfl rfl rfl rfl ?_
  refine l_icmp (p' := 817) true rfl rfl (by decide +kernel) rfl ?_
  refine l_ild (p' := 819) rfl rfl rfl rfl ?_
  refine l_if (p' := 822) false rfl rfl (by decide +kernel) rfl ?_
  refine l_aldn (p' := 823) rfl rfl rfl rfl ?_
  refine l_con (p' := 824) rfl rfl rfl ?_
  refine l_lalz (p' := 825) (m := 0) (v := (lN 0)) rfl rfl (rd_sn rfl (rd_sn rfl (rd_ss rfl (rd_sn rfl H412)))) (by decide +kernel) rfl (by decide +kernel) rfl ?_
  refine l_ild (p' := 827) rfl rfl rfl rfl ?_
  refine l_bzL (p' := 828) (z := (lN 0)) rfl rfl rfl rfl rfl (by decide +kernel) ?_
  refine l_bz (p' := 829) (z := (nI 0)) rfl rfl rfl rfl rfl (by decide +kernel) ?_
  refine l_if (p' := 834) true rfl rfl (by decide +kernel) rfl ?_
  refine l_goto (p' := 2541) rfl rfl rfl ?_
  refine l_incz (p' := 2544) (w := (nI 4)) (ls' := [_, _, _, _, _, _, _, _, _, _]) rfl rfl rfl rfl (by decide +kernel) rfl rfl ?_
  refine l_goto (p' := 28) rfl rfl rfl ?_
  refine l_ild (p' := 30) rfl rfl rfl rfl ?_
  refine l_alds (p' := 31) rfl rfl rfl rfl ?_
  refine l_lens (p' := 32) rfl rfl rfl ?_
  refine l_con (p' := 33) rfl rfl rfl ?_
  refine l_bz (p' := 34) (z := (nI 0)) rfl rfl rfl rfl rfl (by decide +kernel) ?_
  refine l_icmp (p' := 2547) true rfl rfl (by decide +kernel) rfl ?_
  refine l_con (p' := 2548) rfl rfl rfl ?_
  refine l_end rfl rfl ?_
  exact ⟨Nat.le_trans (Nat.le_of_eq (len_s (len_s (len_s (len_s HL))))) (Nat.le_of_ble_eq_true rfl), Nat.le_trans (sz_sA rfl (rd_sn rfl (rd_sn rfl (rd_sn rfl H403))) (sz_s rfl (rd_sn rfl (rd_sn rfl H400)) rfl (sz_sA rfl (rd_sn rfl H412) (sz_sA rfl H376 HZ)))) (Nat.le_of_ble_eq_true rfl)⟩
theorem p1_10_n {xs : Nat → Int32} {h : mj_H} (hk : xs 0 &&& nI 63 = nI 10)  {c : Int32} (hc : ((xs 1).toUInt32 % 65536).toInt32 = c) (hcc : c.toInt < 97) (HL : h.length = 414) (HZ : mj_sz h ≤ 20000) (H0 : mj_rd h 0 = some (.inr (0, [.ref 1, .ref 38, .ref 299, .ref 336, .ref 373, .ref 375, .ref 378, .ref 381, .ref 387, .ref 393, .null, .null, .ref 397, .ref 398, .ref 399, .long (lN 0), .long (lN 0)]))) (H400 : mj_rd h 400 = some (.inr (17, [.int (nI 0), .ref 401, .ref 402, .ref 1000300, .long (lN 0), .long (lN 0), .ref 410, .null, .null, .null, .ref 411]))) : mj_fin 4 xs h := by
  unfold mj_fin
  refine l_ild (p' := 30) rfl rfl rfl rfl ?_
  refine l_alds (p' := 31) rfl rfl rfl rfl ?_
  refine l_lens (p' := 32) rfl rfl rfl ?_
  refine l_con (p' := 33) rfl rfl rfl ?_
  refine l_bz (p' := 34) (z := (nI 0)) rfl rfl rfl rfl rfl (by decide +kernel) ?_
  refine l_icmp (p' := 37) false rfl rfl (by decide +kernel) rfl ?_
  refine l_alds (p' := 38) rfl rfl rfl rfl ?_
  refine l_ild (p' := 40) rfl rfl rfl rfl ?_
  refine l_ialz (p' := 41) (m := 0) (z := (xs 0)) rfl rfl (by decide +kernel) rfl rfl rfl ?_
  refine l_bip (p' := 43) rfl rfl rfl ?_
  refine l_bz (p' := 44) (z := (nI 10)) rfl rfl rfl rfl rfl hk ?_
  refine l_sp (p' := 767) (ls' := _) rfl rfl rfl rfl rfl ?_
  refine l_aldn (p' := 768) rfl rfl rfl rfl ?_
  refine l_alds (p' := 769) rfl rfl rfl rfl ?_
  refine l_ild (p' := 771) rfl rfl rfl rfl ?_
  refine l_con (p' := 772) rfl rfl rfl ?_
  refine l_bz (p' := 773) (z := (nI 1)) rfl rfl rfl rfl rfl (by decide +kernel) ?_
  refine l_ialz (p' := 774) (m := 1) (z := (xs 1)) rfl rfl (by decide +kernel) rfl rfl rfl ?_
  refine l_bz (p' := 775) (z := c) rfl rfl rfl rfl rfl hc ?_
  refine l_alds (p' := 776) rfl rfl rfl rfl ?_
  refine l_ild (p' := 778) rfl rfl rfl rfl ?_
  refine l_con (p' := 779) rfl rfl rfl ?_
  refine l_bz (p' := 780) (z := (nI 2)) rfl rfl rfl rfl rfl (by decide +kernel) ?_
  refine l_ialz (p' := 781) (m := 2) (z := (xs 2)) rfl rfl (by decide +kernel) rfl rfl rfl ?_
  refine l_aldn (p' := 782) rfl rfl rfl rfl ?_
  refine l_call (p' := 785) (kc := 99) (ls0 := [_, _, _, _, _]) rfl rfl rfl rfl rfl rfl rfl rfl rfl rfl ?_
  refine s_aldn (p' := 1) rfl rfl rfl ?_
  refine s_con (p' := 2) rfl rfl ?_
  refine s_aldn (p' := 3) rfl rfl rfl ?_
  refine s_ildn (p' := 4) rfl rfl rfl ?_
  refine s_ildn (p' := 5) rfl rfl rfl ?_
  refine c_call (p' := 8) (kc := 98) (ls0 := [_, _, _, _]) rfl rfl rfl rfl rfl (mj_rcv_is H0) rfl rfl rfl ?_
  refine s_ildn (p' := 1) rfl rfl rfl ?_
  refine c_call (p' := 4) (kc := 97) (ls0 := [_]) rfl rfl rfl rfl rfl rfl rfl rfl rfl ?_
  refine s_ildn (p' := 1) rfl rfl rfl ?_
  refine s_bip (p' := 3) rfl rfl ?_
  refine s_icmp (p' := 16) true rfl ((cg_lt (w := 97) (by decide +kernel)).trans (decide_eq_true (by omega))) rfl ?_
  refine s_con (p' := 17) rfl rfl ?_
  refine c_iret rfl (by decide +kernel) ?_
  refine s_if (p' := 7) false rfl (by decide +kernel) rfl ?_
  refine s_thrz (q := 414) rfl HL rfl ?_
  refine K_c (hp := 13) rfl (mj_ocl_is (rd_nw rfl HL)) rfl ?_
  refine s_ast (p' := 15) (ls' := [_, _, _, _, _]) rfl rfl rfl rfl ?_
  refine s_con (p' := 16) rfl rfl ?_
  refine k_iret rfl rfl ?_
  refine l_ist (p' := 787) (ls' := [_, _, _, _, _, _, _, _, _, _]) rfl rfl rfl rfl rfl ?_
  refine l_aldn (p' := 788) rfl rfl rfl rfl ?_
  refine l_alds (p' := 789) rfl rfl rfl rfl ?_
  refine l_ild (p' := 791) rfl rfl rfl rfl ?_
  refine l_con (p' := 792) rfl rfl rfl ?_
  refine l_bz (p' := 793) (z := (nI 1)) rfl rfl rfl rfl rfl (by decide +kernel) ?_
  refine l_ialz (p' := 794) (m := 1) (z := (xs 1)) rfl rfl (by decide +kernel) rfl rfl rfl ?_
  refine l_bz (p' := 795) (z := c) rfl rfl rfl rfl rfl hc ?_
  refine l_alds (p' := 796) rfl rfl rfl rfl ?_
  refine l_ild (p' := 798) rfl rfl rfl rfl ?_
  refine l_con (p' := 799) rfl rfl rfl ?_
  refine l_bz (p' := 800) (z := (nI 2)) rfl rfl rfl rfl rfl (by decide +kernel) ?_
  refine l_ialz (p' := 801) (m := 2) (z := (xs 2)) rfl rfl (by decide +kernel) rfl rfl rfl ?_
  refine l_call (p' := 804) (kc := 99) (ls0 := [_, _, _, _]) rfl rfl rfl rfl rfl rfl (mj_rcv_is (rd_app H400)) rfl rfl rfl ?_
  refine s_aldn (p' := 1) rfl rfl rfl ?_
  refine s_ildn (p' := 2) rfl rfl rfl ?_
  refine c_call (p' := 5) (kc := 98) (ls0 := [_]) rfl rfl rfl rfl rfl rfl rfl rfl rfl ?_
  refine s_ildn (p' := 1) rfl rfl rfl ?_
  refine s_bip (p' := 3) rfl rfl ?_
  refine s_bip (p' := 5) rfl rfl ?_
  refine c_call (p' := 8) (kc := 97) (ls0 := [_, _, _]) rfl rfl rfl rfl rfl rfl rfl rfl rfl ?_
  refine s_ildn (p' := 1) rfl rfl rfl ?_
  refine s_ildn (p' := 2) rfl rfl rfl ?_
  refine s_icmp (p' := 14) true rfl ((ch_gt (w := 97) (by decide +kernel)).trans (decide_eq_true (by omega))) rfl ?_
  refine s_con (p' := 15) rfl rfl ?_
  refine c_iret rfl (by decide +kernel) ?_
  refine c_iret rfl (by decide +kernel) ?_
  refine s_if (p' := 12) true rfl (by decide +kernel) rfl ?_
  refine s_con (p' := 13) rfl rfl ?_
  refine c_call (p' := 16) (kc := 98) (ls0 := [_, _]) rfl rfl rfl rfl rfl (mj_rcv_is (rd_app H400)) rfl rfl rfl ?_
  refine s_aldn (p' := 1) rfl rfl rfl ?_
  refine s_ildn (p' := 2) rfl rfl rfl ?_
  refine s_pfz (p' := 5) (fs' := [_, _, _, _, _, _, _, _, _, _, _]) rfl rfl (rd_app H400) rfl rfl rfl rfl ?_
  refine s_ildn (p' := 6) rfl rfl rfl ?_
  refine s_if (p' := 9) false rfl (by decide +kernel) rfl ?_
  refine s_con (p' := 10) rfl rfl ?_
  refine s_goto (p' := 14) rfl rfl ?_
  refine c_iret rfl (by decide +kernel) ?_
  refine s_if (p' := 19) false rfl (by decide +kernel) rfl ?_
  refine s_con (p' := 20) rfl rfl ?_
  refine k_iret rfl rfl ?_
  refine l_ist (p' := 806) (ls' := [_, _, _, _, _, _, _, _, _, _]) rfl rfl rfl rfl rfl ?_
  refine l_aldn (p' := 807) rfl rfl rfl rfl ?_
  refine l_call (p' := 810) (kc := 99) (ls0 := [_]) rfl rfl rfl rfl rfl rfl (mj_rcv_is (rd_ss rfl (rd_app H400))) rfl rfl rfl ?_
  refine s_aldn (p' := 1) rfl rfl rfl ?_
  refine s_gf (p' := 4) rfl (rd_ss rfl (rd_app H400)) rfl rfl ?_
  refine k_iret rfl rfl ?_
  refine l_ild (p' := 812) rfl rfl rfl rfl ?_
  refine l_icmp (p' := 817) true rfl rfl (by decide +kernel) rfl ?_
  refine l_ild (p' := 819) rfl rfl rfl rfl ?_
  refine l_if (p' := 834) true rfl rfl (by decide +kernel) rfl ?_
  refine l_goto (p' := 2541) rfl rfl rfl ?_
  refine l_incz (p' := 2544) (w := (nI 4)) (ls' := [_, _, _, _, _, _, _, _, _, _]) rfl rfl rfl rfl (by decide +kernel) rfl rfl ?_
  refine l_goto (p' := 28) rfl rfl rfl ?_
  refine l_ild (p' := 30) rfl rfl rfl rfl ?_
  refine l_alds (p' := 31) rfl rfl rfl rfl ?_
  refine l_lens (p' := 32) rfl rfl rfl ?_
  refine l_con (p' := 33) rfl rfl rfl ?_
  refine l_bz (p' := 34) (z := (nI 0)) rfl rfl rfl rfl rfl (by decide +kernel) ?_
  refine l_icmp (p' := 2547) true rfl rfl (by decide +kernel) rfl ?_
  refine l_con (p' := 2548) rfl rfl rfl ?_
  refine l_end rfl rfl ?_
  exact ⟨Nat.le_trans (Nat.le_of_eq (len_s (len_a HL rfl))) (Nat.le_of_ble_eq_true rfl), Nat.le_trans (sz_s rfl (rd_app H400) rfl (sz_aa (k := 6) (m := 20006) rfl rfl HZ)) (Nat.le_of_ble_eq_true rfl)⟩
theorem p1_10_m {xs : Nat → Int32} {h : mj_H} (hk : xs 0 &&& nI 63 = nI 10)  {c : Int32} (hc : ((xs 1).toUInt32 % 65536).toInt32 = c) (hcc : 104 < c.toInt) (HL : h.length = 414) (HZ : mj_sz h ≤ 20000) (H0 : mj_rd h 0 = some (.inr (0, [.ref 1, .ref 38, .ref 299, .ref 336, .ref 373, .ref 375, .ref 378, .ref 381, .ref 387, .ref 393, .null, .null, .ref 397, .ref 398, .ref 399, .long (lN 0), .long (lN 0)]))) (H400 : mj_rd h 400 = some (.inr (17, [.int (nI 0), .ref 401, .ref 402, .ref 1000300, .long (lN 0), .long (lN 0), .ref 410, .null, .null, .null, .ref 411]))) : mj_fin 4 xs h := by
  unfold mj_fin
  refine l_ild (p' := 30) rfl rfl rfl rfl ?_
  refine l_alds (p' := 31) rfl rfl rfl rfl ?_
  refine l_lens (p' := 32) rfl rfl rfl ?_
  refine l_con (p' := 33) rfl rfl rfl ?_
  refine l_bz (p' := 34) (z := (nI 0)) rfl rfl rfl rfl rfl (by decide +kernel) ?_
  refine l_icmp (p' := 37) false rfl rfl (by decide +kernel) rfl ?_
  refine l_alds (p' := 38) rfl rfl rfl rfl ?_
  refine l_ild (p' := 40) rfl rfl rfl rfl ?_
  refine l_ialz (p' := 41) (m := 0) (z := (xs 0)) rfl rfl (by decide +kernel) rfl rfl rfl ?_
  refine l_bip (p' := 43) rfl rfl rfl ?_
  refine l_bz (p' := 44) (z := (nI 10)) rfl rfl rfl rfl rfl hk ?_
  refine l_sp (p' := 767) (ls' := _) rfl rfl rfl rfl rfl ?_
  refine l_aldn (p' := 768) rfl rfl rfl rfl ?_
  refine l_alds (p' := 769) rfl rfl rfl rfl ?_
  refine l_ild (p' := 771) rfl rfl rfl rfl ?_
  refine l_con (p' := 772) rfl rfl rfl ?_
  refine l_bz (p' := 773) (z := (nI 1)) rfl rfl rfl rfl rfl (by decide +kernel) ?_
  refine l_ialz (p' := 774) (m := 1) (z := (xs 1)) rfl rfl (by decide +kernel) rfl rfl rfl ?_
  refine l_bz (p' := 775) (z := c) rfl rfl rfl rfl rfl hc ?_
  refine l_alds (p' := 776) rfl rfl rfl rfl ?_
  refine l_ild (p' := 778) rfl rfl rfl rfl ?_
  refine l_con (p' := 779) rfl rfl rfl ?_
  refine l_bz (p' := 780) (z := (nI 2)) rfl rfl rfl rfl rfl (by decide +kernel) ?_
  refine l_ialz (p' := 781) (m := 2) (z := (xs 2)) rfl rfl (by decide +kernel) rfl rfl rfl ?_
  refine l_aldn (p' := 782) rfl rfl rfl rfl ?_
  refine l_call (p' := 785) (kc := 99) (ls0 := [_, _, _, _, _]) rfl rfl rfl rfl rfl rfl rfl rfl rfl rfl ?_
  refine s_aldn (p' := 1) rfl rfl rfl ?_
  refine s_con (p' := 2) rfl rfl ?_
  refine s_aldn (p' := 3) rfl rfl rfl ?_
  refine s_ildn (p' := 4) rfl rfl rfl ?_
  refine s_ildn (p' := 5) rfl rfl rfl ?_
  refine c_call (p' := 8) (kc := 98) (ls0 := [_, _, _, _]) rfl rfl rfl rfl rfl (mj_rcv_is H0) rfl rfl rfl ?_
  refine s_ildn (p' := 1) rfl rfl rfl ?_
  refine c_call (p' := 4) (kc := 97) (ls0 := [_]) rfl rfl rfl rfl rfl rfl rfl rfl rfl ?_
  refine s_ildn (p' := 1) rfl rfl rfl ?_
  refine s_bip (p' := 3) rfl rfl ?_
  refine s_icmp (p' := 6) false rfl ((cg_lt (w := 97) (by decide +kernel)).trans (decide_eq_false (by omega))) rfl ?_
  refine s_ildn (p' := 7) rfl rfl rfl ?_
  refine s_bip (p' := 9) rfl rfl ?_
  refine s_icmp (p' := 16) true rfl ((cg_gt (w := 104) (by decide +kernel)).trans (decide_eq_true (by omega))) rfl ?_
  refine s_con (p' := 17) rfl rfl ?_
  refine c_iret rfl (by decide +kernel) ?_
  refine s_if (p' := 7) false rfl (by decide +kernel) rfl ?_
  refine s_thrz (q := 414) rfl HL rfl ?_
  refine K_c (hp := 13) rfl (mj_ocl_is (rd_nw rfl HL)) rfl ?_
  refine s_ast (p' := 15) (ls' := [_, _, _, _, _]) rfl rfl rfl rfl ?_
  refine s_con (p' := 16) rfl rfl ?_
  refine k_iret rfl rfl ?_
  refine l_ist (p' := 787) (ls' := [_, _, _, _, _, _, _, _, _, _]) rfl rfl rfl rfl rfl ?_
  refine l_aldn (p' := 788) rfl rfl rfl rfl ?_
  refine l_alds (p' := 789) rfl rfl rfl rfl ?_
  refine l_ild (p' := 791) rfl rfl rfl rfl ?_
  refine l_con (p' := 792) rfl rfl rfl ?_
  refine l_bz (p' := 793) (z := (nI 1)) rfl rfl rfl rfl rfl (by decide +kernel) ?_
  refine l_ialz (p' := 794) (m := 1) (z := (xs 1)) rfl rfl (by decide +kernel) rfl rfl rfl ?_
  refine l_bz (p' := 795) (z := c) rfl rfl rfl rfl rfl hc ?_
  refine l_alds (p' := 796) rfl rfl rfl rfl ?_
  refine l_ild (p' := 798) rfl rfl rfl rfl ?_
  refine l_con (p' := 799) rfl rfl rfl ?_
  refine l_bz (p' := 800) (z := (nI 2)) rfl rfl rfl rfl rfl (by decide +kernel) ?_
  refine l_ialz (p' := 801) (m := 2) (z := (xs 2)) rfl rfl (by decide +kernel) rfl rfl rfl ?_
  refine l_call (p' := 804) (kc := 99) (ls0 := [_, _, _, _]) rfl rfl rfl rfl rfl rfl (mj_rcv_is (rd_app H400)) rfl rfl rfl ?_
  refine s_aldn (p' := 1) rfl rfl rfl ?_
  refine s_ildn (p' := 2) rfl rfl rfl ?_
  refine c_call (p' := 5) (kc := 98) (ls0 := [_]) rfl rfl rfl rfl rfl rfl rfl rfl rfl ?_
  refine s_ildn (p' := 1) rfl rfl rfl ?_
  refine s_bip (p' := 3) rfl rfl ?_
  refine s_bip (p' := 5) rfl rfl ?_
  refine c_call (p' := 8) (kc := 97) (ls0 := [_, _, _]) rfl rfl rfl rfl rfl rfl rfl rfl rfl ?_
  refine s_ildn (p' := 1) rfl rfl rfl ?_
  refine s_ildn (p' := 2) rfl rfl rfl ?_
  refine s_icmp (p' := 5) false rfl ((ch_gt (w := 97) (by decide +kernel)).trans (decide_eq_false (by omega))) rfl ?_
  refine s_ildn (p' := 6) rfl rfl rfl ?_
  refine s_ildn (p' := 7) rfl rfl rfl ?_
  refine s_icmp (p' := 14) true rfl ((cg_gt (w := 104) (by decide +kernel)).trans (decide_eq_true (by omega))) rfl ?_
  refine s_con (p' := 15) rfl rfl ?_
  refine c_iret rfl (by decide +kernel) ?_
  refine c_iret rfl (by decide +kernel) ?_
  refine s_if (p' := 12) true rfl (by decide +kernel) rfl ?_
  refine s_con (p' := 13) rfl rfl ?_
  refine c_call (p' := 16) (kc := 98) (ls0 := [_, _]) rfl rfl rfl rfl rfl (mj_rcv_is (rd_app H400)) rfl rfl rfl ?_
  refine s_aldn (p' := 1) rfl rfl rfl ?_
  refine s_ildn (p' := 2) rfl rfl rfl ?_
  refine s_pfz (p' := 5) (fs' := [_, _, _, _, _, _, _, _, _, _, _]) rfl rfl (rd_app H400) rfl rfl rfl rfl ?_
  refine s_ildn (p' := 6) rfl rfl rfl ?_
  refine s_if (p' := 9) false rfl (by decide +kernel) rfl ?_
  refine s_con (p' := 10) rfl rfl ?_
  refine s_goto (p' := 14) rfl rfl ?_
  refine c_iret rfl (by decide +kernel) ?_
  refine s_if (p' := 19) false rfl (by decide +kernel) rfl ?_
  refine s_con (p' := 20) rfl rfl ?_
  refine k_iret rfl rfl ?_
  refine l_ist (p' := 806) (ls' := [_, _, _, _, _, _, _, _, _, _]) rfl rfl rfl rfl rfl ?_
  refine l_aldn (p' := 807) rfl rfl rfl rfl ?_
  refine l_call (p' := 810) (kc := 99) (ls0 := [_]) rfl rfl rfl rfl rfl rfl (mj_rcv_is (rd_ss rfl (rd_app H400))) rfl rfl rfl ?_
  refine s_aldn (p' := 1) rfl rfl rfl ?_
  refine s_gf (p' := 4) rfl (rd_ss rfl (rd_app H400)) rfl rfl ?_
  refine k_iret rfl rfl ?_
  refine l_ild (p' := 812) rfl rfl rfl rfl ?_
  refine l_icmp (p' := 817) true rfl rfl (by decide +kernel) rfl ?_
  refine l_ild (p' := 819) rfl rfl rfl rfl ?_
  refine l_if (p' := 834) true rfl rfl (by decide +kernel) rfl ?_
  refine l_goto (p' := 2541) rfl rfl rfl ?_
  refine l_incz (p' := 2544) (w := (nI 4)) (ls' := [_, _, _, _, _, _, _, _, _, _]) rfl rfl rfl rfl (by decide +kernel) rfl rfl ?_
  refine l_goto (p' := 28) rfl rfl rfl ?_
  refine l_ild (p' := 30) rfl rfl rfl rfl ?_
  refine l_alds (p' := 31) rfl rfl rfl rfl ?_
  refine l_lens (p' := 32) rfl rfl rfl ?_
  refine l_con (p' := 33) rfl rfl rfl ?_
  refine l_bz (p' := 34) (z := (nI 0)) rfl rfl rfl rfl rfl (by decide +kernel) ?_
  refine l_icmp (p' := 2547) true rfl rfl (by decide +kernel) rfl ?_
  refine l_con (p' := 2548) rfl rfl rfl ?_
  refine l_end rfl rfl ?_
  exact ⟨Nat.le_trans (Nat.le_of_eq (len_s (len_a HL rfl))) (Nat.le_of_ble_eq_true rfl), Nat.le_trans (sz_s rfl (rd_app H400) rfl (sz_aa (k := 6) (m := 20006) rfl rfl HZ)) (Nat.le_of_ble_eq_true rfl)⟩
theorem p1_11_0 {xs : Nat → Int32} {h : mj_H} (hk : xs 0 &&& nI 63 = nI 11)  (hc : ((xs 1).toUInt32 % 65536).toInt32 = nI 97) (HL : h.length = 414) (HZ : mj_sz h ≤ 20000) (H0 : mj_rd h 0 = some (.inr (0, [.ref 1, .ref 38, .ref 299, .ref 336, .ref 373, .ref 375, .ref 378, .ref 381, .ref 387, .ref 393, .null, .null, .ref 397, .ref 398, .ref 399, .long (lN 0), .long (lN 0)]))) (H375 : mj_rd h 375 = some (.inr (7, [.ref 376, .ref 377, .int (nI 0)]))) (H376 : mj_rd h 376 = some (.inl (0, (8, .inl (fun _ => 0))))) (H400 : mj_rd h 400 = some (.inr (17, [.int (nI 0), .ref 401, .ref 402, .ref 1000300, .long (lN 0), .long (lN 0), .ref 410, .null, .null, .null, .ref 411]))) (H402 : mj_rd h 402 = some (.inr (19, [.ref 403, .ref 404, .ref 405, .ref 406, .ref 407, .ref 408, .ref 409, .int (nI 0), .int (nI 4294967295), .int (nI 0), .ref 400]))) (H403 : mj_rd h 403 = some (.inl (0, (8, .inl (fun _ => 0))))) (H412 : mj_rd h 412 = some (.inl (4, (1, .inr (.inl (fun _ => 0)))))) : mj_fin 4 xs h := by
  unfold mj_fin
  refine l_ild (p' := 30) rfl rfl rfl rfl ?_
  refine l_alds (p' := 31) rfl rfl rfl rfl ?_
  refine l_lens (p' := 32) rfl rfl rfl ?_
  refine l_con (p' := 33) rfl rfl rfl ?_
  refine l_bz (p' := 34) (z := (nI 0)) rfl rfl rfl rfl rfl (by decide +kernel) ?_
  refine l_icmp (p' := 37) false rfl rfl (by decide +kernel) rfl ?_
  refine l_alds (p' := 38) rfl rfl rfl rfl ?_
  refine l_ild (p' := 40) rfl rfl rfl rfl ?_
  refine l_ialz (p' := 41) (m := 0) (z := (xs 0)) rfl rfl (by decide +kernel) rfl rfl rfl ?_
  refine l_bip (p' := 43) rfl rfl rfl ?_
  refine l_bz (p' := 44) (z := (nI 11)) rfl rfl rfl rfl rfl hk ?_
  refine l_sp (p' := 837) (ls' := _) rfl rfl rfl rfl rfl ?_
  refine l_aldn (p' := 838) rfl rfl rfl rfl ?_
  refine l_alds (p' := 839) rfl rfl rfl rfl ?_
  refine l_ild (p' := 841) rfl rfl rfl rfl ?_
  refine l_con (p' := 842) rfl rfl rfl ?_
  refine l_bz (p' := 843) (z := (nI 1)) rfl rfl rfl rfl rfl (by decide +kernel) ?_
  refine l_ialz (p' := 844) (m := 1) (z := (xs 1)) rfl rfl (by decide +kernel) rfl rfl rfl ?_
  refine l_bz (p' := 845) (z := (nI 97)) rfl rfl rfl rfl rfl hc ?_
  refine l_aldn (p' := 846) rfl rfl rfl rfl ?_
  refine l_call (p' := 849) (kc := 99) (ls0 := [_, _, _, _]) rfl rfl rfl rfl rfl rfl rfl rfl rfl rfl ?_
  refine s_aldn (p' := 1) rfl rfl rfl ?_
  refine s_con (p' := 2) rfl rfl ?_
  refine s_aldn (p' := 3) rfl rfl rfl ?_
  refine s_ildn (p' := 4) rfl rfl rfl ?_
  refine c_call (p' := 7) (kc := 98) (ls0 := [_, _]) rfl rfl rfl rfl rfl (mj_rcv_is H0) rfl rfl rfl ?_
  refine s_ildn (p' := 1) rfl rfl rfl ?_
  refine c_call (p' := 4) (kc := 97) (ls0 := [_]) rfl rfl rfl rfl rfl rfl rfl rfl rfl ?_
  refine s_ildn (p' := 1) rfl rfl rfl ?_
  refine s_bip (p' := 3) rfl rfl ?_
  refine s_icmp (p' := 6) false rfl (by decide +kernel) rfl ?_
  refine s_ildn (p' := 7) rfl rfl rfl ?_
  refine s_bip (p' := 9) rfl rfl ?_
  refine s_icmp (p' := 12) false rfl (by decide +kernel) rfl ?_
  refine s_con (p' := 13) rfl rfl ?_
  refine s_goto (p' := 17) rfl rfl ?_
  refine c_iret rfl (by decide +kernel) ?_
  refine s_if (p' := 17) true rfl (by decide +kernel) rfl ?_
  refine s_aldn (p' := 18) rfl rfl rfl ?_
  refine s_gf (p' := 21) rfl H0 rfl rfl ?_
  refine s_ildn (p' := 22) rfl rfl rfl ?_
  refine s_bip (p' := 24) rfl rfl ?_
  refine s_bz (p' := 25) (z := (nI 0)) rfl rfl rfl (by decide +kernel) ?_
  refine c_call (p' := 28) (kc := 97) (ls0 := [_, _]) rfl rfl rfl rfl rfl (mj_rcv_is H375) rfl rfl rfl ?_
  refine s_ildn (p' := 1) rfl rfl rfl ?_
  refine s_if (p' := 4) false rfl (by decide +kernel) rfl ?_
  refine s_ildn (p' := 5) rfl rfl rfl ?_
  refine s_aldn (p' := 6) rfl rfl rfl ?_
  refine s_gf (p' := 9) rfl H375 rfl rfl ?_
  refine s_lenz (p' := 10) rfl (mj_rdA_is H376 (by decide)) rfl rfl ?_
  refine s_icmp (p' := 13) false rfl (by decide +kernel) rfl ?_
  refine s_aldn (p' := 14) rfl rfl rfl ?_
  refine s_gf (p' := 17) rfl H375 rfl rfl ?_
  refine s_ildn (p' := 18) rfl rfl rfl ?_
  refine s_ialz (p' := 19) (m := 0) (v := (nI 0)) rfl H376 (by decide +kernel) rfl (by decide +kernel) rfl ?_
  refine s_goto (p' := 23) rfl rfl ?_
  refine c_iret rfl rfl ?_
  refine c_iret rfl rfl ?_
  refine s_bzL (p' := 8) (z := (lN 0)) rfl rfl rfl (by decide +kernel) ?_
  refine s_lasz (p' := 9) (m := 0) rfl rfl H412 (by decide +kernel) rfl rfl rfl ?_
  refine s_goto (p' := 15) rfl rfl ?_
  refine s_con (p' := 16) rfl rfl ?_
  refine k_iret rfl rfl ?_
  refine l_ist (p' := 851) (ls' := [_, _, _, _, _, _, _, _, _, _]) rfl rfl rfl rfl rfl ?_
  refine l_aldn (p' := 852) rfl rfl rfl rfl ?_
  refine l_alds (p' := 853) rfl rfl rfl rfl ?_
  refine l_ild (p' := 855) rfl rfl rfl rfl ?_
  refine l_con (p' := 856) rfl rfl rfl ?_
  refine l_bz (p' := 857) (z := (nI 1)) rfl rfl rfl rfl rfl (by decide +kernel) ?_
  refine l_ialz (p' := 858) (m := 1) (z := (xs 1)) rfl rfl (by decide +kernel) rfl rfl rfl ?_
  refine l_bz (p' := 859) (z := (nI 97)) rfl rfl rfl rfl rfl hc ?_
  refine l_call (p' := 862) (kc := 99) (ls0 := [_, _]) rfl rfl rfl rfl rfl rfl (mj_rcv_is (rd_sn rfl H400)) rfl rfl rfl ?_
  refine s_aldn (p' := 1) rfl rfl rfl ?_
  refine s_ildn (p' := 2) rfl rfl rfl ?_
  refine c_call (p' := 5) (kc := 98) (ls0 := [_]) rfl rfl rfl rfl rfl rfl rfl rfl rfl ?_
  refine s_ildn (p' := 1) rfl rfl rfl ?_
  refine s_bip (p' := 3) rfl rfl ?_
  refine s_bip (p' := 5) rfl rfl ?_
  refine c_call (p' := 8) (kc := 97) (ls0 := [_, _, _]) rfl rfl rfl rfl rfl rfl rfl rfl rfl ?_
  refine s_ildn (p' := 1) rfl rfl rfl ?_
  refine s_ildn (p' := 2) rfl rfl rfl ?_
  refine s_icmp (p' := 5) false rfl (by decide +kernel) rfl ?_
  refine s_ildn (p' := 6) rfl rfl rfl ?_
  refine s_ildn (p' := 7) rfl rfl rfl ?_
  refine s_icmp (p' := 10) false rfl (by decide +kernel) rfl ?_
  refine s_con (p' := 11) rfl rfl ?_
  refine s_goto (p' := 15) rfl rfl ?_
  refine c_iret rfl (by decide +kernel) ?_
  refine c_iret rfl (by decide +kernel) ?_
  refine s_if (p' := 8) false rfl (by decide +kernel) rfl ?_
  refine s_con (p' := 9) rfl rfl ?_
  refine s_goto (p' := 13) rfl rfl ?_
  refine c_call (p' := 16) (kc := 98) (ls0 := [_, _]) rfl rfl rfl rfl rfl (mj_rcv_is (rd_sn rfl H400)) rfl rfl rfl ?_
  refine s_aldn (p' := 1) rfl rfl rfl ?_
  refine s_ildn (p' := 2) rfl rfl rfl ?_
  refine s_pfz (p' := 5) (fs' := [_, _, _, _, _, _, _, _, _, _, _]) rfl rfl (rd_sn rfl H400) rfl rfl rfl rfl ?_
  refine s_ildn (p' := 6) rfl rfl rfl ?_
  refine s_if (p' := 13) true rfl (by decide +kernel) rfl ?_
  refine s_con (p' := 14) rfl rfl ?_
  refine c_iret rfl (by decide +kernel) ?_
  refine s_if (p' := 23) true rfl (by decide +kernel) rfl ?_
  refine s_aldn (p' := 24) rfl rfl rfl ?_
  refine s_gf (p' := 27) rfl (rd_ss rfl (rd_sn rfl H400)) rfl rfl ?_
  refine s_gf (p' := 30) rfl (rd_sn rfl (rd_sn rfl H402)) rfl rfl ?_
  refine s_ildn (p' := 31) rfl rfl rfl ?_
  refine s_bip (p' := 33) rfl rfl ?_
  refine s_bz (p' := 34) (z := (nI 0)) rfl rfl rfl (by decide +kernel) ?_
  refine s_ialz (p' := 35) (m := 0) (v := (nI 0)) rfl (rd_sn rfl (rd_sn rfl H403)) (by decide +kernel) rfl (by decide +kernel) rfl ?_
  refine k_iret rfl rfl ?_
  refine l_ist (p' := 864) (ls' := [_, _, _, _, _, _, _, _, _, _]) rfl rfl rfl rfl rfl ?_
  refine l_aldn (p' := 865) rfl rfl rfl rfl ?_
  refine l_call (p' := 868) (kc := 99) (ls0 := [_]) rfl rfl rfl rfl rfl rfl (mj_rcv_is (rd_ss rfl (rd_sn rfl H400))) rfl rfl rfl ?_
  refine s_aldn (p' := 1) rfl rfl rfl ?_
  refine s_gf (p' := 4) rfl (rd_ss rfl (rd_sn rfl H400)) rfl rfl ?_
  refine k_iret rfl rfl ?_
  refine l_ild (p' := 870) rfl rfl rfl rfl ?_
  refine l_icmp (p' := 875) true rfl rfl (by decide +kernel) rfl ?_
  refine l_ild (p' := 877) rfl rfl rfl rfl ?_
  refine l_if (p' := 880) false rfl rfl (by decide +kernel) rfl ?_
  refine l_aldn (p' := 881) rfl rfl rfl rfl ?_
  refine l_con (p' := 882) rfl rfl rfl ?_
  refine l_lalz (p' := 883) (m := 0) (v := (lN 0)) rfl rfl (rd_sn rfl (rd_ss rfl H412)) (by decide +kernel) rfl (by decide +kernel) rfl ?_
  refine l_ild (p' := 885) rfl rfl rfl rfl ?_
  refine l_bzL (p' := 886) (z := (lN 0)) rfl rfl rfl rfl rfl (by decide +kernel) ?_
  refine l_bz (p' := 887) (z := (nI 0)) rfl rfl rfl rfl rfl (by decide +kernel) ?_
  refine l_if (p' := 892) true rfl rfl (by decide +kernel) rfl ?_
  refine l_goto (p' := 2541) rfl rfl rfl ?_
  refine l_incz (p' := 2544) (w := (nI 4)) (ls' := [_, _, _, _, _, _, _, _, _, _]) rfl rfl rfl rfl (by decide +kernel) rfl rfl ?_
  refine l_goto (p' := 28) rfl rfl rfl ?_
  refine l_ild (p' := 30) rfl rfl rfl rfl ?_
  refine l_alds (p' := 31) rfl rfl rfl rfl ?_
  refine l_lens (p' := 32) rfl rfl rfl ?_
  refine l_con (p' := 33) rfl rfl rfl ?_
  refine l_bz (p' := 34) (z := (nI 0)) rfl rfl rfl rfl rfl (by decide +kernel) ?_
  refine l_icmp (p' := 2547) true rfl rfl (by decide +kernel) rfl ?_
  refine l_con (p' := 2548) rfl rfl rfl ?_
  refine l_end rfl rfl ?_
  exact ⟨Nat.le_trans (Nat.le_of_eq (len_s (len_s HL))) (Nat.le_of_ble_eq_true rfl), Nat.le_trans (sz_s rfl (rd_sn rfl H400) rfl (sz_sA rfl H412 HZ)) (Nat.le_of_ble_eq_true rfl)⟩
theorem p1_11_1 {xs : Nat → Int32} {h : mj_H} (hk : xs 0 &&& nI 63 = nI 11)  (hc : ((xs 1).toUInt32 % 65536).toInt32 = nI 98) (HL : h.length = 414) (HZ : mj_sz h ≤ 20000) (H0 : mj_rd h 0 = some (.inr (0, [.ref 1, .ref 38, .ref 299, .ref 336, .ref 373, .ref 375, .ref 378, .ref 381, .ref 387, .ref 393, .null, .null, .ref 397, .ref 398, .ref 399, .long (lN 0), .long (lN 0)]))) (H375 : mj_rd h 375 = some (.inr (7, [.ref 376, .ref 377, .int (nI 0)]))) (H376 : mj_rd h 376 = some (.inl (0, (8, .inl (fun _ => 0))))) (H400 : mj_rd h 400 = some (.inr (17, [.int (nI 0), .ref 401, .ref 402, .ref 1000300, .long (lN 0), .long (lN 0), .ref 410, .null, .null, .null, .ref 411]))) (H402 : mj_rd h 402 = some (.inr (19, [.ref 403, .ref 404, .ref 405, .ref 406, .ref 407, .ref 408, .ref 409, .int (nI 0), .int (nI 4294967295), .int (nI 0), .ref 400]))) (H403 : mj_rd h 403 = some (.inl (0, (8, .inl (fun _ => 0))))) (H412 : mj_rd h 412 = some (.inl (4, (1, .inr (.inl (fun _ => 0)))))) : mj_fin 4 xs h := by
  unfold mj_fin
  refine l_ild (p' := 30) rfl rfl rfl rfl ?_
  refine l_alds (p' := 31) rfl rfl rfl rfl ?_
  refine l_lens (p' := 32) rfl rfl rfl ?_
  refine l_con (p' := 33) rfl rfl rfl ?_
  refine l_bz (p' := 34) (z := (nI 0)) rfl rfl rfl rfl rfl (by decide +kernel) ?_
  refine l_icmp (p' := 37) false rfl rfl (by decide +kernel) rfl ?_
  refine l_alds (p' := 38) rfl rfl rfl rfl ?_
  refine l_ild (p' := 40) rfl rfl rfl rfl ?_
  refine l_ialz (p' := 41) (m := 0) (z := (xs 0)) rfl rfl (by decide +kernel) rfl rfl rfl ?_
  refine l_bip (p' := 43) rfl rfl rfl ?_
  refine l_bz (p' := 44) (z := (nI 11)) rfl rfl rfl rfl rfl hk ?_
  refine l_sp (p' := 837) (ls' := _) rfl rfl rfl rfl rfl ?_
  refine l_aldn (p' := 838) rfl rfl rfl rfl ?_
  refine l_alds (p' := 839) rfl rfl rfl rfl ?_
  refine l_ild (p' := 841) rfl rfl rfl rfl ?_
  refine l_con (p' := 842) rfl rfl rfl ?_
  refine l_bz (p' := 843) (z := (nI 1)) rfl rfl rfl rfl rfl (by decide +kernel) ?_
  refine l_ialz (p' := 844) (m := 1) (z := (xs 1)) rfl rfl (by decide +kernel) rfl rfl rfl ?_
  refine l_bz (p' := 845) (z := (nI 98)) rfl rfl rfl rfl rfl hc ?_
  refine l_aldn (p' := 846) rfl rfl rfl rfl ?_
  refine l_call (p' := 849) (kc := 99) (ls0 := [_, _, _, _]) rfl rfl rfl rfl rfl rfl rfl rfl rfl rfl ?_
  refine s_aldn (p' := 1) rfl rfl rfl ?_
  refine s_con (p' := 2) rfl rfl ?_
  refine s_aldn (p' := 3) rfl rfl rfl ?_
  refine s_ildn (p' := 4) rfl rfl rfl ?_
  refine c_call (p' := 7) (kc := 98) (ls0 := [_, _]) rfl rfl rfl rfl rfl (mj_rcv_is H0) rfl rfl rfl ?_
  refine s_ildn (p' := 1) rfl rfl rfl ?_
  refine c_call (p' := 4) (kc := 97) (ls0 := [_]) rfl rfl rfl rfl rfl rfl rfl rfl rfl ?_
  refine s_ildn (p' := 1) rfl rfl rfl ?_
  refine s_bip (p' := 3) rfl rfl ?_
  refine s_icmp (p' := 6) false rfl (by decide +kernel) rfl ?_
  refine s_ildn (p' := 7) rfl rfl rfl ?_
  refine s_bip (p' := 9) rfl rfl ?_
  refine s_icmp (p' := 12) false rfl (by decide +kernel) rfl ?_
  refine s_con (p' := 13) rfl rfl ?_
  refine s_goto (p' := 17) rfl rfl ?_
  refine c_iret rfl (by decide +kernel) ?_
  refine s_if (p' := 17) true rfl (by decide +kernel) rfl ?_
  refine s_aldn (p' := 18) rfl rfl rfl ?_
  refine s_gf (p' := 21) rfl H0 rfl rfl ?_
  refine s_ildn (p' := 22) rfl rfl rfl ?_
  refine s_bip (p' := 24) rfl rfl ?_
  refine s_bz (p' := 25) (z := (nI 1)) rfl rfl rfl (by decide +kernel) ?_
  refine c_call (p' := 28) (kc := 97) (ls0 := [_, _]) rfl rfl rfl rfl rfl (mj_rcv_is H375) rfl rfl rfl ?_
  refine s_ildn (p' := 1) rfl rfl rfl ?_
  refine s_if (p' := 4) false rfl (by decide +kernel) rfl ?_
  refine s_ildn (p' := 5) rfl rfl rfl ?_
  refine s_aldn (p' := 6) rfl rfl rfl ?_
  refine s_gf (p' := 9) rfl H375 rfl rfl ?_
  refine s_lenz (p' := 10) rfl (mj_rdA_is H376 (by decide)) rfl rfl ?_
  refine s_icmp (p' := 13) false rfl (by decide +kernel) rfl ?_
  refine s_aldn (p' := 14) rfl rfl rfl ?_
  refine s_gf (p' := 17) rfl H375 rfl rfl ?_
  refine s_ildn (p' := 18) rfl rfl rfl ?_
  refine s_ialz (p' := 19) (m := 1) (v := (nI 0)) rfl H376 (by decide +kernel) rfl (by decide +kernel) rfl ?_
  refine s_goto (p' := 23) rfl rfl ?_
  refine c_iret rfl rfl ?_
  refine c_iret rfl rfl ?_
  refine s_bzL (p' := 8) (z := (lN 0)) rfl rfl rfl (by decide +kernel) ?_
  refine s_lasz (p' := 9) (m := 0) rfl rfl H412 (by decide +kernel) rfl rfl rfl ?_
  refine s_goto (p' := 15) rfl rfl ?_
  refine s_con (p' := 16) rfl rfl ?_
  refine k_iret rfl rfl ?_
  refine l_ist (p' := 851) (ls' := [_, _, _, _, _, _, _, _, _, _]) rfl rfl rfl rfl rfl ?_
  refine l_aldn (p' := 852) rfl rfl rfl rfl ?_
  refine l_alds (p' := 853) rfl rfl rfl rfl ?_
  refine l_ild (p' := 855) rfl rfl rfl rfl ?_
  refine l_con (p' := 856) rfl rfl rfl ?_
  refine l_bz (p' := 857) (z := (nI 1)) rfl rfl rfl rfl rfl (by decide +kernel) ?_
  refine l_ialz (p' := 858) (m := 1) (z := (xs 1)) rfl rfl (by decide +kernel) rfl rfl rfl ?_
  refine l_bz (p' := 859) (z := (nI 98)) rfl rfl rfl rfl rfl hc ?_
  refine l_call (p' := 862) (kc := 99) (ls0 := [_, _]) rfl rfl rfl rfl rfl rfl (mj_rcv_is (rd_sn rfl H400)) rfl rfl rfl ?_
  refine s_aldn (p' := 1) rfl rfl rfl ?_
  refine s_ildn (p' := 2) rfl rfl rfl ?_
  refine c_call (p' := 5) (kc := 98) (ls0 := [_]) rfl rfl rfl rfl rfl rfl rfl rfl rfl ?_
  refine s_ildn (p' := 1) rfl rfl rfl ?_
  refine s_bip (p' := 3) rfl rfl ?_
  refine s_bip (p' := 5) rfl rfl ?_
  refine c_call (p' := 8) (kc := 97) (ls0 := [_, _, _]) rfl rfl rfl rfl rfl rfl rfl rfl rfl ?_
  refine s_ildn (p' := 1) rfl rfl rfl ?_
  refine s_ildn (p' := 2) rfl rfl rfl ?_
  refine s_icmp (p' := 5) false rfl (by decide +kernel) rfl ?_
  refine s_ildn (p' := 6) rfl rfl rfl ?_
  refine s_ildn (p' := 7) rfl rfl rfl ?_
  refine s_icmp (p' := 10) false rfl (by decide +kernel) rfl ?_
  refine s_con (p' := 11) rfl rfl ?_
  refine s_goto (p' := 15) rfl rfl ?_
  refine c_iret rfl (by decide +kernel) ?_
  refine c_iret rfl (by decide +kernel) ?_
  refine s_if (p' := 8) false rfl (by decide +kernel) rfl ?_
  refine s_con (p' := 9) rfl rfl ?_
  refine s_goto (p' := 13) rfl rfl ?_
  refine c_call (p' := 16) (kc := 98) (ls0 := [_, _]) rfl rfl rfl rfl rfl (mj_rcv_is (rd_sn rfl H400)) rfl rfl rfl ?_
  refine s_aldn (p' := 1) rfl rfl rfl ?_
  refine s_ildn (p' := 2) rfl rfl rfl ?_
  refine s_pfz (p' := 5) (fs' := [_, _, _, _, _, _, _, _, _, _, _]) rfl rfl (rd_sn rfl H400) rfl rfl rfl rfl ?_
  refine s_ildn (p' := 6) rfl rfl rfl ?_
  refine s_if (p' := 13) true rfl (by decide +kernel) rfl ?_
  refine s_con (p' := 14) rfl rfl ?_
  refine c_iret rfl (by decide +kernel) ?_
  refine s_if (p' := 23) true rfl (by decide +kernel) rfl ?_
  refine s_aldn (p' := 24) rfl rfl rfl ?_
  refine s_gf (p' := 27) rfl (rd_ss rfl (rd_sn rfl H400)) rfl rfl ?_
  refine s_gf (p' := 30) rfl (rd_sn rfl (rd_sn rfl H402)) rfl rfl ?_
  refine s_ildn (p' := 31) rfl rfl rfl ?_
  refine s_bip (p' := 33) rfl rfl ?_
  refine s_bz (p' := 34) (z := (nI 1)) rfl rfl rfl (by decide +kernel) ?_
  refine s_ialz (p' := 35) (m := 1) (v := (nI 0)) rfl (rd_sn rfl (rd_sn rfl H403)) (by decide +kernel) rfl (by decide +kernel) rfl ?_
  refine k_iret rfl rfl ?_
  refine l_ist (p' := 864) (ls' := [_, _, _, _, _, _, _, _, _, _]) rfl rfl rfl rfl rfl ?_
  refine l_aldn (p' := 865) rfl rfl rfl rfl ?_
  refine l_call (p' := 868) (kc := 99) (ls0 := [_]) rfl rfl rfl rfl rfl rfl (mj_rcv_is (rd_ss rfl (rd_sn rfl H400))) rfl rfl rfl ?_
  refine s_aldn (p' := 1) rfl rfl rfl ?_
  refine s_gf (p' := 4) rfl (rd_ss rfl (rd_sn rfl H400)) rfl rfl ?_
  refine k_iret rfl rfl ?_
  refine l_ild (p' := 870) rfl rfl rfl rfl ?_
  refine l_icmp (p' := 875) true rfl rfl (by decide +kernel) rfl ?_
  refine l_ild (p' := 877) rfl rfl rfl rfl ?_
  refine l_if (p' := 880) false rfl rfl (by decide +kernel) rfl ?_
  refine l_aldn (p' := 881) rfl rfl rfl rfl ?_
  refine l_con (p' := 882) rfl rfl rfl ?_
  refine l_lalz (p' := 883) (m := 0) (v := (lN 0)) rfl rfl (rd_sn rfl (rd_ss rfl H412)) (by decide +kernel) rfl (by decide +kernel) rfl ?_
  refine l_ild (p' := 885) rfl rfl rfl rfl ?_
  refine l_bzL (p' := 886) (z := (lN 0)) rfl rfl rfl rfl rfl (by decide +kernel) ?_
  refine l_bz (p' := 887) (z := (nI 0)) rfl rfl rfl rfl rfl (by decide +kernel) ?_
  refine l_if (p' := 892) true rfl rfl (by decide +kernel) rfl ?_
  refine l_goto (p' := 2541) rfl rfl rfl ?_
  refine l_incz (p' := 2544) (w := (nI 4)) (ls' := [_, _, _, _, _, _, _, _, _, _]) rfl rfl rfl rfl (by decide +kernel) rfl rfl ?_
  refine l_goto (p' := 28) rfl rfl rfl ?_
  refine l_ild (p' := 30) rfl rfl rfl rfl ?_
  refine l_alds (p' := 31) rfl rfl rfl rfl ?_
  refine l_lens (p' := 32) rfl rfl rfl ?_
  refine l_con (p' := 33) rfl rfl rfl ?_
  refine l_bz (p' := 34) (z := (nI 0)) rfl rfl rfl rfl rfl (by decide +kernel) ?_
  refine l_icmp (p' := 2547) true rfl rfl (by decide +kernel) rfl ?_
  refine l_con (p' := 2548) rfl rfl rfl ?_
  refine l_end rfl rfl ?_
  exact ⟨Nat.le_trans (Nat.le_of_eq (len_s (len_s HL))) (Nat.le_of_ble_eq_true rfl), Nat.le_trans (sz_s rfl (rd_sn rfl H400) rfl (sz_sA rfl H412 HZ)) (Nat.le_of_ble_eq_true rfl)⟩
theorem p1_11_2 {xs : Nat → Int32} {h : mj_H} (hk : xs 0 &&& nI 63 = nI 11)  (hc : ((xs 1).toUInt32 % 65536).toInt32 = nI 99) (HL : h.length = 414) (HZ : mj_sz h ≤ 20000) (H0 : mj_rd h 0 = some (.inr (0, [.ref 1, .ref 38, .ref 299, .ref 336, .ref 373, .ref 375, .ref 378, .ref 381, .ref 387, .ref 393, .null, .null, .ref 397, .ref 398, .ref 399, .long (lN 0), .long (lN 0)]))) (H375 : mj_rd h 375 = some (.inr (7, [.ref 376, .ref 377, .int (nI 0)]))) (H376 : mj_rd h 376 = some (.inl (0, (8, .inl (fun _ => 0))))) (H400 : mj_rd h 400 = some (.inr (17, [.int (nI 0), .ref 401, .ref 402, .ref 1000300, .long (lN 0), .long (lN 0), .ref 410, .null, .null, .null, .ref 411]))) (H402 : mj_rd h 402 = some (.inr (19, [.ref 403, .ref 404, .ref 405, .ref 406, .ref 407, .ref 408, .ref 409, .int (nI 0), .int (nI 4294967295), .int (nI 0), .ref 400]))) (H403 : mj_rd h 403 = some (.inl (0, (8, .inl (fun _ => 0))))) (H412 : mj_rd h 412 = some (.inl (4, (1, .inr (.inl (fun _ => 0)))))) : mj_fin 4 xs h := by
  unfold mj_fin
  refine l_ild (p' := 30) rfl rfl rfl rfl ?_
  refine l_alds (p' := 31) rfl rfl rfl rfl ?_
  refine l_lens (p' := 32) rfl rfl rfl ?_
  refine l_con (p' := 33) rfl rfl rfl ?_
  refine l_bz (p' := 34) (z := (nI 0)) rfl rfl rfl rfl rfl (by decide +kernel) ?_
  refine l_icmp (p' := 37) false rfl rfl (by decide +kernel) rfl ?_
  refine l_alds (p' := 38) rfl rfl rfl rfl ?_
  refine l_ild (p' := 40) rfl rfl rfl rfl ?_
  refine l_ialz (p' := 41) (m := 0) (z := (xs 0)) rfl rfl (by decide +kernel) rfl rfl rfl ?_
  refine l_bip (p' := 43) rfl rfl rfl ?_
  refine l_bz (p' := 44) (z := (nI 11)) rfl rfl rfl rfl rfl hk ?_
  refine l_sp (p' := 837) (ls' := _) rfl rfl rfl rfl rfl ?_
  refine l_aldn (p' := 838) rfl rfl rfl rfl ?_
  refine l_alds (p' := 839) rfl rfl rfl rfl ?_
  refine l_ild (p' := 841) rfl rfl rfl rfl ?_
  refine l_con (p' := 842) rfl rfl rfl ?_
  refine l_bz (p' := 843) (z := (nI 1)) rfl rfl rfl rfl rfl (by decide +kernel) ?_
  refine l_ialz (p' := 844) (m := 1) (z := (xs 1)) rfl rfl (by decide +kernel) rfl rfl rfl ?_
  refine l_bz (p' := 845) (z := (nI 99)) rfl rfl rfl rfl rfl hc ?_
  refine l_aldn (p' := 846) rfl rfl rfl rfl ?_
  refine l_call (p' := 849) (kc := 99) (ls0 := [_, _, _, _]) rfl rfl rfl rfl rfl rfl rfl rfl rfl rfl ?_
  refine s_aldn (p' := 1) rfl rfl rfl ?_
  refine s_con (p' := 2) rfl rfl ?_
  refine s_aldn (p' := 3) rfl rfl rfl ?_
  refine s_ildn (p' := 4) rfl rfl rfl ?_
  refine c_call (p' := 7) (kc := 98) (ls0 := [_, _]) rfl rfl rfl rfl rfl (mj_rcv_is H0) rfl rfl rfl ?_
  refine s_ildn (p' := 1) rfl rfl rfl ?_
  refine c_call (p' := 4) (kc := 97) (ls0 := [_]) rfl rfl rfl rfl rfl rfl rfl rfl rfl ?_
  refine s_ildn (p' := 1) rfl rfl rfl ?_
  refine s_bip (p' := 3) rfl rfl ?_
  refine s_icmp (p' := 6) false rfl (by decide +kernel) rfl ?_
  refine s_ildn (p' := 7) rfl rfl rfl ?_
  refine s_bip (p' := 9) rfl rfl ?_
  refine s_icmp (p' := 12) false rfl (by decide +kernel) rfl ?_
  refine s_con (p' := 13) rfl rfl ?_
  refine s_goto (p' := 17) rfl rfl ?_
  refine c_iret rfl (by decide +kernel) ?_
  refine s_if (p' := 17) true rfl (by decide +kernel) rfl ?_
  refine s_aldn (p' := 18) rfl rfl rfl ?_
  refine s_gf (p' := 21) rfl H0 rfl rfl ?_
  refine s_ildn (p' := 22) rfl rfl rfl ?_
  refine s_bip (p' := 24) rfl rfl ?_
  refine s_bz (p' := 25) (z := (nI 2)) rfl rfl rfl (by decide +kernel) ?_
  refine c_call (p' := 28) (kc := 97) (ls0 := [_, _]) rfl rfl rfl rfl rfl (mj_rcv_is H375) rfl rfl rfl ?_
  refine s_ildn (p' := 1) rfl rfl rfl ?_
  refine s_if (p' := 4) false rfl (by decide +kernel) rfl ?_
  refine s_ildn (p' := 5) rfl rfl rfl ?_
  refine s_aldn (p' := 6) rfl rfl rfl ?_
  refine s_gf (p' := 9) rfl H375 rfl rfl ?_
  refine s_lenz (p' := 10) rfl (mj_rdA_is H376 (by decide)) rfl rfl ?_
  refine s_icmp (p' := 13) false rfl (by decide +kernel) rfl ?_
  refine s_aldn (p' := 14) rfl rfl rfl ?_
  refine s_gf (p' := 17) rfl H375 rfl rfl ?_
  refine s_ildn (p' := 18) rfl rfl rfl ?_
  refine s_ialz (p' := 19) (m := 2) (v := (nI 0)) rfl H376 (by decide +kernel) rfl (by decide +kernel) rfl ?_
  refine s_goto (p' := 23) rfl rfl ?_
  refine c_iret rfl rfl ?_
  refine c_iret rfl rfl ?_
  refine s_bzL (p' := 8) (z := (lN 0)) rfl rfl rfl (by decide +kernel) ?_
  refine s_lasz (p' := 9) (m := 0) rfl rfl H412 (by decide +kernel) rfl rfl rfl ?_
  refine s_goto (p' := 15) rfl rfl ?_
  refine s_con (p' := 16) rfl rfl ?_
  refine k_iret rfl rfl ?_
  refine l_ist (p' := 851) (ls' := [_, _, _, _, _, _, _, _, _, _]) rfl rfl rfl rfl rfl ?_
  refine l_aldn (p' := 852) rfl rfl rfl rfl ?_
  refine l_alds (p' := 853) rfl rfl rfl rfl ?_
  refine l_ild (p' := 855) rfl rfl rfl rfl ?_
  refine l_con (p' := 856) rfl rfl rfl ?_
  refine l_bz (p' := 857) (z := (nI 1)) rfl rfl rfl rfl rfl (by decide +kernel) ?_
  refine l_ialz (p' := 858) (m := 1) (z := (xs 1)) rfl rfl (by decide +kernel) rfl rfl rfl ?_
  refine l_bz (p' := 859) (z := (nI 99)) rfl rfl rfl rfl rfl hc ?_
  refine l_call (p' := 862) (kc := 99) (ls0 := [_, _]) rfl rfl rfl rfl rfl rfl (mj_rcv_is (rd_sn rfl H400)) rfl rfl rfl ?_
  refine s_aldn (p' := 1) rfl rfl rfl ?_
  refine s_ildn (p' := 2) rfl rfl rfl ?_
  refine c_call (p' := 5) (kc := 98) (ls0 := [_]) rfl rfl rfl rfl rfl rfl rfl rfl rfl ?_
  refine s_ildn (p' := 1) rfl rfl rfl ?_
  refine s_bip (p' := 3) rfl rfl ?_
  refine s_bip (p' := 5) rfl rfl ?_
  refine c_call (p' := 8) (kc := 97) (ls0 := [_, _, _]) rfl rfl rfl rfl rfl rfl rfl rfl rfl ?_
  refine s_ildn (p' := 1) rfl rfl rfl ?_
  refine s_ildn (p' := 2) rfl rfl rfl ?_
  refine s_icmp (p' := 5) false rfl (by decide +kernel) rfl ?_
  refine s_ildn (p' := 6) rfl rfl rfl ?_
  refine s_ildn (p' := 7) rfl rfl rfl ?_
  refine s_icmp (p' := 10) false rfl (by decide +kernel) rfl ?_
  refine s_con (p' := 11) rfl rfl ?_
  refine s_goto (p' := 15) rfl rfl ?_
  refine c_iret rfl (by decide +kernel) ?_
  refine c_iret rfl (by decide +kernel) ?_
  refine s_if (p' := 8) false rfl (by decide +kernel) rfl ?_
  refine s_con (p' := 9) rfl rfl ?_
  refine s_goto (p' := 13) rfl rfl ?_
  refine c_call (p' := 16) (kc := 98) (ls0 := [_, _]) rfl rfl rfl rfl rfl (mj_rcv_is (rd_sn rfl H400)) rfl rfl rfl ?_
  refine s_aldn (p' := 1) rfl rfl rfl ?_
  refine s_ildn (p' := 2) rfl rfl rfl ?_
  refine s_pfz (p' := 5) (fs' := [_, _, _, _, _, _, _, _, _, _, _]) rfl rfl (rd_sn rfl H400) rfl rfl rfl rfl ?_
  refine s_ildn (p' := 6) rfl rfl rfl ?_
  refine s_if (p' := 13) true rfl (by decide +kernel) rfl ?_
  refine s_con (p' := 14) rfl rfl ?_
  refine c_iret rfl (by decide +kernel) ?_
  refine s_if (p' := 23) true rfl (by decide +kernel) rfl ?_
  refine s_aldn (p' := 24) rfl rfl rfl ?_
  refine s_gf (p' := 27) rfl (rd_ss rfl (rd_sn rfl H400)) rfl rfl ?_
  refine s_gf (p' := 30) rfl (rd_sn rfl (rd_sn rfl H402)) rfl rfl ?_
  refine s_ildn (p' := 31) rfl rfl rfl ?_
  refine s_bip (p' := 33) rfl rfl ?_
  refine s_bz (p' := 34) (z := (nI 2)) rfl rfl rfl (by decide +kernel) ?_
  refine s_ialz (p' := 35) (m := 2) (v := (nI 0)) rfl (rd_sn rfl (rd_sn rfl H403)) (by decide +kernel) rfl (by decide +kernel) rfl ?_
  refine k_iret rfl rfl ?_
  refine l_ist (p' := 864) (ls' := [_, _, _, _, _, _, _, _, _, _]) rfl rfl rfl rfl rfl ?_
  refine l_aldn (p' := 865) rfl rfl rfl rfl ?_
  refine l_call (p' := 868) (kc := 99) (ls0 := [_]) rfl rfl rfl rfl rfl rfl (mj_rcv_is (rd_ss rfl (rd_sn rfl H400))) rfl rfl rfl ?_
  refine s_aldn (p' := 1) rfl rfl rfl ?_
  refine s_gf (p' := 4) rfl (rd_ss rfl (rd_sn rfl H400)) rfl rfl ?_
  refine k_iret rfl rfl ?_
  refine l_ild (p' := 870) rfl rfl rfl rfl ?_
  refine l_icmp (p' := 875) true rfl rfl (by decide +kernel) rfl ?_
  refine l_ild (p' := 877) rfl rfl rfl rfl ?_
  refine l_if (p' := 880) false rfl rfl (by decide +kernel) rfl ?_
  refine l_aldn (p' := 881) rfl rfl rfl rfl ?_
  refine l_con (p' := 882) rfl rfl rfl ?_
  refine l_lalz (p' := 883) (m := 0) (v := (lN 0)) rfl rfl (rd_sn rfl (rd_ss rfl H412)) (by decide +kernel) rfl (by decide +kernel) rfl ?_
  refine l_ild (p' := 885) rfl rfl rfl rfl ?_
  refine l_bzL (p' := 886) (z := (lN 0)) rfl rfl rfl rfl rfl (by decide +kernel) ?_
  refine l_bz (p' := 887) (z := (nI 0)) rfl rfl rfl rfl rfl (by decide +kernel) ?_
  refine l_if (p' := 892) true rfl rfl (by decide +kernel) rfl ?_
  refine l_goto (p' := 2541) rfl rfl rfl ?_
  refine l_incz (p' := 2544) (w := (nI 4)) (ls' := [_, _, _, _, _, _, _, _, _, _]) rfl rfl rfl rfl (by decide +kernel) rfl rfl ?_
  refine l_goto (p' := 28) rfl rfl rfl ?_
  refine l_ild (p' := 30) rfl rfl rfl rfl ?_
  refine l_alds (p' := 31) rfl rfl rfl rfl ?_
  refine l_lens (p' := 32) rfl rfl rfl ?_
  refine l_con (p' := 33) rfl rfl rfl ?_
  refine l_bz (p' := 34) (z := (nI 0)) rfl rfl rfl rfl rfl (by decide +kernel) ?_
  refine l_icmp (p' := 2547) true rfl rfl (by decide +kernel) rfl ?_
  refine l_con (p' := 2548) rfl rfl rfl ?_
  refine l_end rfl rfl ?_
  exact ⟨Nat.le_trans (Nat.le_of_eq (len_s (len_s HL))) (Nat.le_of_ble_eq_true rfl), Nat.le_trans (sz_s rfl (rd_sn rfl H400) rfl (sz_sA rfl H412 HZ)) (Nat.le_of_ble_eq_true rfl)⟩
theorem p1_11_3 {xs : Nat → Int32} {h : mj_H} (hk : xs 0 &&& nI 63 = nI 11)  (hc : ((xs 1).toUInt32 % 65536).toInt32 = nI 100) (HL : h.length = 414) (HZ : mj_sz h ≤ 20000) (H0 : mj_rd h 0 = some (.inr (0, [.ref 1, .ref 38, .ref 299, .ref 336, .ref 373, .ref 375, .ref 378, .ref 381, .ref 387, .ref 393, .null, .null, .ref 397, .ref 398, .ref 399, .long (lN 0), .long (lN 0)]))) (H375 : mj_rd h 375 = some (.inr (7, [.ref 376, .ref 377, .int (nI 0)]))) (H376 : mj_rd h 376 = some (.inl (0, (8, .inl (fun _ => 0))))) (H400 : mj_rd h 400 = some (.inr (17, [.int (nI 0), .ref 401, .ref 402, .ref 1000300, .long (lN 0), .long (lN 0), .ref 410, .null, .null, .null, .ref 411]))) (H402 : mj_rd h 402 = some (.inr (19, [.ref 403, .ref 404, .ref 405, .ref 406, .ref 407, .ref 408, .ref 409, .int (nI 0), .int (nI 4294967295), .int (nI 0), .ref 400]))) (H403 : mj_rd h 403 = some (.inl (0, (8, .inl (fun _ => 0))))) (H412 : mj_rd h 412 = some (.inl (4, (1, .inr (.inl (fun _ => 0)))))) : mj_fin 4 xs h := by
  unfold mj_fin
  refine l_ild (p' := 30) rfl rfl rfl rfl ?_
  refine l_alds (p' := 31) rfl rfl rfl rfl ?_
  refine l_lens (p' := 32) rfl rfl rfl ?_
  refine l_con (p' := 33) rfl rfl rfl ?_
  refine l_bz (p' := 34) (z := (nI 0)) rfl rfl rfl rfl rfl (by decide +kernel) ?_
  refine l_icmp (p' := 37) false rfl rfl (by decide +kernel) rfl ?_
  refine l_alds (p' := 38) rfl rfl rfl rfl ?_
  refine l_ild (p' := 40) rfl rfl rfl rfl ?_
  refine l_ialz (p' := 41) (m := 0) (z := (xs 0)) rfl rfl (by decide +kernel) rfl rfl rfl ?_
  refine l_bip (p' := 43) rfl rfl rfl ?_
  refine l_bz (p' := 44) (z := (nI 11)) rfl rfl rfl rfl rfl hk ?_
  refine l_sp (p' := 837) (ls' := _) rfl rfl rfl rfl rfl ?_
  refine l_aldn (p' := 838) rfl rfl rfl rfl ?_
  refine l_alds (p' := 839) rfl rfl rfl rfl ?_
  refine l_ild (p' := 841) rfl rfl rfl rfl ?_
  refine l_con (p' := 842) rfl rfl rfl ?_
  refine l_bz (p' := 843) (z := (nI 1)) rfl rfl rfl rfl rfl (by decide +kernel) ?_
  refine l_ialz (p' := 844) (m := 1) (z := (xs 1)) rfl rfl (by decide +kernel) rfl rfl rfl ?_
  refine l_bz (p' := 845) (z := (nI 100)) rfl rfl rfl rfl rfl hc ?_
  refine l_aldn (p' := 846) rfl rfl rfl rfl ?_
  refine l_call (p' := 849) (kc := 99) (ls0 := [_, _, _, _]) rfl rfl rfl rfl rfl rfl rfl rfl rfl rfl ?_
  refine s_aldn (p' := 1) rfl rfl rfl ?_
  refine s_con (p' := 2) rfl rfl ?_
  refine s_aldn (p' := 3) rfl rfl rfl ?_
  refine s_ildn (p' := 4) rfl rfl rfl ?_
  refine c_call (p' := 7) (kc := 98) (ls0 := [_, _]) rfl rfl rfl rfl rfl (mj_rcv_is H0) rfl rfl rfl ?_
  refine s_ildn (p' := 1) rfl rfl rfl ?_
  refine c_call (p' := 4) (kc := 97) (ls0 := [_]) rfl rfl rfl rfl rfl rfl rfl rfl rfl ?_
  refine s_ildn (p' := 1) rfl rfl rfl ?_
  refine s_bip (p' := 3) rfl rfl ?_
  refine s_icmp (p' := 6) false rfl (by decide +kernel) rfl ?_
  refine s_ildn (p' := 7) rfl rfl rfl ?_
  refine s_bip (p' := 9) rfl rfl ?_
  refine s_icmp (p' := 12) false rfl (by decide +kernel) rfl ?_
  refine s_con (p' := 13) rfl rfl ?_
  refine s_goto (p' := 17) rfl rfl ?_
  refine c_iret rfl (by decide +kernel) ?_
  refine s_if (p' := 17) true rfl (by decide +kernel) rfl ?_
  refine s_aldn (p' := 18) rfl rfl rfl ?_
  refine s_gf (p' := 21) rfl H0 rfl rfl ?_
  refine s_ildn (p' := 22) rfl rfl rfl ?_
  refine s_bip (p' := 24) rfl rfl ?_
  refine s_bz (p' := 25) (z := (nI 3)) rfl rfl rfl (by decide +kernel) ?_
  refine c_call (p' := 28) (kc := 97) (ls0 := [_, _]) rfl rfl rfl rfl rfl (mj_rcv_is H375) rfl rfl rfl ?_
  refine s_ildn (p' := 1) rfl rfl rfl ?_
  refine s_if (p' := 4) false rfl (by decide +kernel) rfl ?_
  refine s_ildn (p' := 5) rfl rfl rfl ?_
  refine s_aldn (p' := 6) rfl rfl rfl ?_
  refine s_gf (p' := 9) rfl H375 rfl rfl ?_
  refine s_lenz (p' := 10) rfl (mj_rdA_is H376 (by decide)) rfl rfl ?_
  refine s_icmp (p' := 13) false rfl (by decide +kernel) rfl ?_
  refine s_aldn (p' := 14) rfl rfl rfl ?_
  refine s_gf (p' := 17) rfl H375 rfl rfl ?_
  refine s_ildn (p' := 18) rfl rfl rfl ?_
  refine s_ialz (p' := 19) (m := 3) (v := (nI 0)) rfl H376 (by decide +kernel) rfl (by decide +kernel) rfl ?_
  refine s_goto (p' := 23) rfl rfl ?_
  refine c_iret rfl rfl ?_
  refine c_iret rfl rfl ?_
  refine s_bzL (p' := 8) (z := (lN 0)) rfl rfl rfl (by decide +kernel) ?_
  refine s_lasz (p' := 9) (m := 0) rfl rfl H412 (by decide +kernel) rfl rfl rfl ?_
  refine s_goto (p' := 15) rfl rfl ?_
  refine s_con (p' := 16) rfl rfl ?_
  refine k_iret rfl rfl ?_
  refine l_ist (p' := 851) (ls' := [_, _, _, _, _, _, _, _, _, _]) rfl rfl rfl rfl rfl ?_
  refine l_aldn (p' := 852) rfl rfl rfl rfl ?_
  refine l_alds (p' := 853) rfl rfl rfl rfl ?_
  refine l_ild (p' := 855) rfl rfl rfl rfl ?_
  refine l_con (p' := 856) rfl rfl rfl ?_
  refine l_bz (p' := 857) (z := (nI 1)) rfl rfl rfl rfl rfl (by decide +kernel) ?_
  refine l_ialz (p' := 858) (m := 1) (z := (xs 1)) rfl rfl (by decide +kernel) rfl rfl rfl ?_
  refine l_bz (p' := 859) (z := (nI 100)) rfl rfl rfl rfl rfl hc ?_
  refine l_call (p' := 862) (kc := 99) (ls0 := [_, _]) rfl rfl rfl rfl rfl rfl (mj_rcv_is (rd_sn rfl H400)) rfl rfl rfl ?_
  refine s_aldn (p' := 1) rfl rfl rfl ?_
  refine s_ildn (p' := 2) rfl rfl rfl ?_
  refine c_call (p' := 5) (kc := 98) (ls0 := [_]) rfl rfl rfl rfl rfl rfl rfl rfl rfl ?_
  refine s_ildn (p' := 1) rfl rfl rfl ?_
  refine s_bip (p' := 3) rfl rfl ?_
  refine s_bip (p' := 5) rfl rfl ?_
  refine c_call (p' := 8) (kc := 97) (ls0 := [_, _, _]) rfl rfl rfl rfl rfl rfl rfl rfl rfl ?_
  refine s_ildn (p' := 1) rfl rfl rfl ?_
  refine s_ildn (p' := 2) rfl rfl rfl ?_
  refine s_icmp (p' := 5) false rfl (by decide +kernel) rfl ?_
  refine s_ildn (p' := 6) rfl rfl rfl ?_
  refine s_ildn (p' := 7) rfl rfl rfl ?_
  refine s_icmp (p' := 10) false rfl (by decide +kernel) rfl ?_
  refine s_con (p' := 11) rfl rfl ?_
  refine s_goto (p' := 15) rfl rfl ?_
  refine c_iret rfl (by decide +kernel) ?_
  refine c_iret rfl (by decide +kernel) ?_
  refine s_if (p' := 8) false rfl (by decide +kernel) rfl ?_
  refine s_con (p' := 9) rfl rfl ?_
  refine s_goto (p' := 13) rfl rfl ?_
  refine c_call (p' := 16) (kc := 98) (ls0 := [_, _]) rfl rfl rfl rfl rfl (mj_rcv_is (rd_sn rfl H400)) rfl rfl rfl ?_
  refine s_aldn (p' := 1) rfl rfl rfl ?_
  refine s_ildn (p' := 2) rfl rfl rfl ?_
  refine s_pfz (p' := 5) (fs' := [_, _, _, _, _, _, _, _, _, _, _]) rfl rfl (rd_sn rfl H400) rfl rfl rfl rfl ?_
  refine s_ildn (p' := 6) rfl rfl rfl ?_
  refine s_if (p' := 13) true rfl (by decide +kernel) rfl ?_
  refine s_con (p' := 14) rfl rfl ?_
  refine c_iret rfl (by decide +kernel) ?_
  refine s_if (p' := 23) true rfl (by decide +kernel) rfl ?_
  refine s_aldn (p' := 24) rfl rfl rfl ?_
  refine s_gf (p' := 27) rfl (rd_ss rfl (rd_sn rfl H400)) rfl rfl ?_
  refine s_gf (p' := 30) rfl (rd_sn rfl (rd_sn rfl H402)) rfl rfl ?_
  refine s_ildn (p' := 31) rfl rfl rfl ?_
  refine s_bip (p' := 33) rfl rfl ?_
  refine s_bz (p' := 34) (z := (nI 3)) rfl rfl rfl (by decide +kernel) ?_
  refine s_ialz (p' := 35) (m := 3) (v := (nI 0)) rfl (rd_sn rfl (rd_sn rfl H403)) (by decide +kernel) rfl (by decide +kernel) rfl ?_
  refine k_iret rfl rfl ?_
  refine l_ist (p' := 864) (ls' := [_, _, _, _, _, _, _, _, _, _]) rfl rfl rfl rfl rfl ?_
  refine l_aldn (p' := 865) rfl rfl rfl rfl ?_
  refine l_call (p' := 868) (kc := 99) (ls0 := [_]) rfl rfl rfl rfl rfl rfl (mj_rcv_is (rd_ss rfl (rd_sn rfl H400))) rfl rfl rfl ?_
  refine s_aldn (p' := 1) rfl rfl rfl ?_
  refine s_gf (p' := 4) rfl (rd_ss rfl (rd_sn rfl H400)) rfl rfl ?_
  refine k_iret rfl rfl ?_
  refine l_ild (p' := 870) rfl rfl rfl rfl ?_
  refine l_icmp (p' := 875) true rfl rfl (by decide +kernel) rfl ?_
  refine l_ild (p' := 877) rfl rfl rfl rfl ?_
  refine l_if (p' := 880) false rfl rfl (by decide +kernel) rfl ?_
  refine l_aldn (p' := 881) rfl rfl rfl rfl ?_
  refine l_con (p' := 882) rfl rfl rfl ?_
  refine l_lalz (p' := 883) (m := 0) (v := (lN 0)) rfl rfl (rd_sn rfl (rd_ss rfl H412)) (by decide +kernel) rfl (by decide +kernel) rfl ?_
  refine l_ild (p' := 885) rfl rfl rfl rfl ?_
  refine l_bzL (p' := 886) (z := (lN 0)) rfl rfl rfl rfl rfl (by decide +kernel) ?_
  refine l_bz (p' := 887) (z := (nI 0)) rfl rfl rfl rfl rfl (by decide +kernel) ?_
  refine l_if (p' := 892) true rfl rfl (by decide +kernel) rfl ?_
  refine l_goto (p' := 2541) rfl rfl rfl ?_
  refine l_incz (p' := 2544) (w := (nI 4)) (ls' := [_, _, _, _, _, _, _, _, _, _]) rfl rfl rfl rfl (by decide +kernel) rfl rfl ?_
  refine l_goto (p' := 28) rfl rfl rfl ?_
  refine l_ild (p' := 30) rfl rfl rfl rfl ?_
  refine l_alds (p' := 31) rfl rfl rfl rfl ?_
  refine l_lens (p' := 32) rfl rfl rfl ?_
  refine l_con (p' := 33) rfl rfl rfl ?_
  refine l_bz (p' := 34) (z := (nI 0)) rfl rfl rfl rfl rfl (by decide +kernel) ?_
  refine l_icmp (p' := 2547) true rfl rfl (by decide +kernel) rfl ?_
  refine l_con (p' := 2548) rfl rfl rfl ?_
  refine l_end rfl rfl ?_
  exact ⟨Nat.le_trans (Nat.le_of_eq (len_s (len_s HL))) (Nat.le_of_ble_eq_true rfl), Nat.le_trans (sz_s rfl (rd_sn rfl H400) rfl (sz_sA rfl H412 HZ)) (Nat.le_of_ble_eq_true rfl)⟩
theorem p1_11_4 {xs : Nat → Int32} {h : mj_H} (hk : xs 0 &&& nI 63 = nI 11)  (hc : ((xs 1).toUInt32 % 65536).toInt32 = nI 101) (HL : h.length = 414) (HZ : mj_sz h ≤ 20000) (H0 : mj_rd h 0 = some (.inr (0, [.ref 1, .ref 38, .ref 299, .ref 336, .ref 373, .ref 375, .ref 378, .ref 381, .ref 387, .ref 393, .null, .null, .ref 397, .ref 398, .ref 399, .long (lN 0), .long (lN 0)]))) (H375 : mj_rd h 375 = some (.inr (7, [.ref 376, .ref 377, .int (nI 0)]))) (H376 : mj_rd h 376 = some (.inl (0, (8, .inl (fun _ => 0))))) (H400 : mj_rd h 400 = some (.inr (17, [.int (nI 0), .ref 401, .ref 402, .ref 1000300, .long (lN 0), .long (lN 0), .ref 410, .null, .null, .null, .ref 411]))) (H402 : mj_rd h 402 = some (.inr (19, [.ref 403, .ref 404, .ref 405, .ref 406, .ref 407, .ref 408, .ref 409, .int (nI 0), .int (nI 4294967295), .int (nI 0), .ref 400]))) (H403 : mj_rd h 403 = some (.inl (0, (8, .inl (fun _ => 0))))) (H412 : mj_rd h 412 = some (.inl (4, (1, .inr (.inl (fun _ => 0)))))) : mj_fin 4 xs h := by
  unfold mj_fin
  refine l_ild (p' := 30) rfl rfl rfl rfl ?_
  refine l_alds (p' := 31) rfl rfl rfl rfl ?_
  refine l_lens (p' := 32) rfl rfl rfl ?_
  refine l_con (p' := 33) rfl rfl rfl ?_
  refine l_bz (p' := 34) (z := (nI 0)) rfl rfl rfl rfl rfl (by decide +kernel) ?_
  refine l_icmp (p' := 37) false rfl rfl (by decide +kernel) rfl ?_
  refine l_alds (p' := 38) rfl rfl rfl rfl ?_
  refine l_ild (p' := 40) rfl rfl rfl rfl ?_
  refine l_ialz (p' := 41) (m := 0) (z := (xs 0)) rfl rfl (by decide +kernel) rfl rfl rfl ?_
  refine l_bip (p' := 43) rfl rfl rfl ?_
  refine l_bz (p' := 44) (z := (nI 11)) rfl rfl rfl rfl rfl hk ?_
  refine l_sp (p' := 837) (ls' := _) rfl rfl rfl rfl rfl ?_
  refine l_aldn (p' := 838) rfl rfl rfl rfl ?_
  refine l_alds (p' := 839) rfl rfl rfl rfl ?_
  refine l_ild (p' := 841) rfl rfl rfl rfl ?_
  refine l_con (p' := 842) rfl rfl rfl ?_
  refine l_bz (p' := 843) (z := (nI 1)) rfl rfl rfl rfl rfl (by decide +kernel) ?_
  refine l_ialz (p' := 844) (m := 1) (z := (xs 1)) rfl rfl (by decide +kernel) rfl rfl rfl ?_
  refine l_bz (p' := 845) (z := (nI 101)) rfl rfl rfl rfl rfl hc ?_
  refine l_aldn (p' := 846) rfl rfl rfl rfl ?_
  refine l_call (p' := 849) (kc := 99) (ls0 := [_, _, _, _]) rfl rfl rfl rfl rfl rfl rfl rfl rfl rfl ?_
  refine s_aldn (p' := 1) rfl rfl rfl ?_
  refine s_con (p' := 2) rfl rfl ?_
  refine s_aldn (p' := 3) rfl rfl rfl ?_
  refine s_ildn (p' := 4) rfl rfl rfl ?_
  refine c_call (p' := 7) (kc := 98) (ls0 := [_, _]) rfl rfl rfl rfl rfl (mj_rcv_is H0) rfl rfl rfl ?_
  refine s_ildn (p' := 1) rfl rfl rfl ?_
  refine c_call (p' := 4) (kc := 97) (ls0 := [_]) rfl rfl rfl rfl rfl rfl rfl rfl rfl ?_
  refine s_ildn (p' := 1) rfl rfl rfl ?_
  refine s_bip (p' := 3) rfl rfl ?_
  refine s_icmp (p' := 6) false rfl (by decide +kernel) rfl ?_
  refine s_ildn (p' := 7) rfl rfl rfl ?_
  refine s_bip (p' := 9) rfl rfl ?_
  refine s_icmp (p' := 12) false rfl (by decide +kernel) rfl ?_
  refine s_con (p' := 13) rfl rfl ?_
  refine s_goto (p' := 17) rfl rfl ?_
  refine c_iret rfl (by decide +kernel) ?_
  refine s_if (p' := 17) true rfl (by decide +kernel) rfl ?_
  refine s_aldn (p' := 18) rfl rfl rfl ?_
  refine s_gf (p' := 21) rfl H0 rfl rfl ?_
  refine s_ildn (p' := 22) rfl rfl rfl ?_
  refine s_bip (p' := 24) rfl rfl ?_
  refine s_bz (p' := 25) (z := (nI 4)) rfl rfl rfl (by decide +kernel) ?_
  refine c_call (p' := 28) (kc := 97) (ls0 := [_, _]) rfl rfl rfl rfl rfl (mj_rcv_is H375) rfl rfl rfl ?_
  refine s_ildn (p' := 1) rfl rfl rfl ?_
  refine s_if (p' := 4) false rfl (by decide +kernel) rfl ?_
  refine s_ildn (p' := 5) rfl rfl rfl ?_
  refine s_aldn (p' := 6) rfl rfl rfl ?_
  refine s_gf (p' := 9) rfl H375 rfl rfl ?_
  refine s_lenz (p' := 10) rfl (mj_rdA_is H376 (by decide)) rfl rfl ?_
  refine s_icmp (p' := 13) false rfl (by decide +kernel) rfl ?_
  refine s_aldn (p' := 14) rfl rfl rfl ?_
  refine s_gf (p' := 17) rfl H375 rfl rfl ?_
  refine s_ildn (p' := 18) rfl rfl rfl ?_
  refine s_ialz (p' := 19) (m := 4) (v := (nI 0)) rfl H376 (by decide +kernel) rfl (by decide +kernel) rfl ?_
  refine s_goto (p' := 23) rfl rfl ?_
  refine c_iret rfl rfl ?_
  refine c_iret rfl rfl ?_
  refine s_bzL (p' := 8) (z := (lN 0)) rfl rfl rfl (by decide +kernel) ?_
  refine s_lasz (p' := 9) (m := 0) rfl rfl H412 (by decide +kernel) rfl rfl rfl ?_
  refine s_goto (p' := 15) rfl rfl ?_
  refine s_con (p' := 16) rfl rfl ?_
  refine k_iret rfl rfl ?_
  refine l_ist (p' := 851) (ls' := [_, _, _, _, _, _, _, _, _, _]) rfl rfl rfl rfl rfl ?_
  refine l_aldn (p' := 852) rfl rfl rfl rfl ?_
  refine l_alds (p' := 853) rfl rfl rfl rfl ?_
  refine l_ild (p' := 855) rfl rfl rfl rfl ?_
  refine l_con (p' := 856) rfl rfl rfl ?_
  refine l_bz (p' := 857) (z := (nI 1)) rfl rfl rfl rfl rfl (by decide +kernel) ?_
  refine l_ialz (p' := 858) (m := 1) (z := (xs 1)) rfl rfl (by decide +kernel) rfl rfl rfl ?_
  refine l_bz (p' := 859) (z := (nI 101)) rfl rfl rfl rfl rfl hc ?_
  refine l_call (p' := 862) (kc := 99) (ls0 := [_, _]) rfl rfl rfl rfl rfl rfl (mj_rcv_is (rd_sn rfl H400)) rfl rfl rfl ?_
  refine s_aldn (p' := 1) rfl rfl rfl ?_
  refine s_ildn (p' := 2) rfl rfl rfl ?_
  refine c_call (p' := 5) (kc := 98) (ls0 := [_]) rfl rfl rfl rfl rfl rfl rfl rfl rfl ?_
  refine s_ildn (p' := 1) rfl rfl rfl ?_
  refine s_bip (p' := 3) rfl rfl ?_
  refine s_bip (p' := 5) rfl rfl ?_
  refine c_call (p' := 8) (kc := 97) (ls0 := [_, _, _]) rfl rfl rfl rfl rfl rfl rfl rfl rfl ?_
  refine s_ildn (p' := 1) rfl rfl rfl ?_
  refine s_ildn (p' := 2) rfl rfl rfl ?_
  refine s_icmp (p' := 5) false rfl (by decide +kernel) rfl ?_
  refine s_ildn (p' := 6) rfl rfl rfl ?_
  refine s_ildn (p' := 7) rfl rfl rfl ?_
  refine s_icmp (p' := 10) false rfl (by decide +kernel) rfl ?_
  refine s_con (p' := 11) rfl rfl ?_
  refine s_goto (p' := 15) rfl rfl ?_
  refine c_iret rfl (by decide +kernel) ?_
  refine c_iret rfl (by decide +kernel) ?_
  refine s_if (p' := 8) false rfl (by decide +kernel) rfl ?_
  refine s_con (p' := 9) rfl rfl ?_
  refine s_goto (p' := 13) rfl rfl ?_
  refine c_call (p' := 16) (kc := 98) (ls0 := [_, _]) rfl rfl rfl rfl rfl (mj_rcv_is (rd_sn rfl H400)) rfl rfl rfl ?_
  refine s_aldn (p' := 1) rfl rfl rfl ?_
  refine s_ildn (p' := 2) rfl rfl rfl ?_
  refine s_pfz (p' := 5) (fs' := [_, _, _, _, _, _, _, _, _, _, _]) rfl rfl (rd_sn rfl H400) rfl rfl rfl rfl ?_
  refine s_ildn (p' := 6) rfl rfl rfl ?_
  refine s_if (p' := 13) true rfl (by decide +kernel) rfl ?_
  refine s_con (p' := 14) rfl rfl ?_
  refine c_iret rfl (by decide +kernel) ?_
  refine s_if (p' := 23) true rfl (by decide +kernel) rfl ?_
  refine s_aldn (p' := 24) rfl rfl rfl ?_
  refine s_gf (p' := 27) rfl (rd_ss rfl (rd_sn rfl H400)) rfl rfl ?_
  refine s_gf (p' := 30) rfl (rd_sn rfl (rd_sn rfl H402)) rfl rfl ?_
  refine s_ildn (p' := 31) rfl rfl rfl ?_
  refine s_bip (p' := 33) rfl rfl ?_
  refine s_bz (p' := 34) (z := (nI 4)) rfl rfl rfl (by decide +kernel) ?_
  refine s_ialz (p' := 35) (m := 4) (v := (nI 0)) rfl (rd_sn rfl (rd_sn rfl H403)) (by decide +kernel) rfl (by decide +kernel) rfl ?_
  refine k_iret rfl rfl ?_
  refine l_ist (p' := 864) (ls' := [_, _, _, _, _, _, _, _, _, _]) rfl rfl rfl rfl rfl ?_
  refine l_aldn (p' := 865) rfl rfl rfl rfl ?_
  refine l_call (p' := 868) (kc := 99) (ls0 := [_]) rfl rfl rfl rfl rfl rfl (mj_rcv_is (rd_ss rfl (rd_sn rfl H400))) rfl rfl rfl ?_
  refine s_aldn (p' := 1) rfl rfl rfl ?_
  refine s_gf (p' := 4) rfl (rd_ss rfl (rd_sn rfl H400)) rfl rfl ?_
  refine k_iret rfl rfl ?_
  refine l_ild (p' := 870) rfl rfl rfl rfl ?_
  refine l_icmp (p' := 875) true rfl rfl (by decide +kernel) rfl ?_
  refine l_ild (p' := 877) rfl rfl rfl rfl ?_
  refine l_if (p' := 880) false rfl rfl (by decide +kernel) rfl ?_
  refine l_aldn (p' := 881) rfl rfl rfl rfl ?_
  refine l_con (p' := 882) rfl rfl rfl ?_
  refine l_lalz (p' := 883) (m := 0) (v := (lN 0)) rfl rfl (rd_sn rfl (rd_ss rfl H412)) (by decide +kernel) rfl (by decide +kernel) rfl ?_
  refine l_ild (p' := 885) rfl rfl rfl rfl ?_
  refine l_bzL (p' := 886) (z := (lN 0)) rfl rfl rfl rfl rfl (by decide +kernel) ?_
  refine l_bz (p' := 887) (z := (nI 0)) rfl rfl rfl rfl rfl (by decide +kernel) ?_
  refine l_if (p' := 892) true rfl rfl (by decide +kernel) rfl ?_
  refine l_goto (p' := 2541) rfl rfl rfl ?_
  refine l_incz (p' := 2544) (w := (nI 4)) (ls' := [_, _, _, _, _, _, _, _, _, _]) rfl rfl rfl rfl (by decide +kernel) rfl rfl ?_
  refine l_goto (p' := 28) rfl rfl rfl ?_
  refine l_ild (p' := 30) rfl rfl rfl rfl ?_
  refine l_alds (p' := 31) rfl rfl rfl rfl ?_
  refine l_lens (p' := 32) rfl rfl rfl ?_
  refine l_con (p' := 33) rfl rfl rfl ?_
  refine l_bz (p' := 34) (z := (nI 0)) rfl rfl rfl rfl rfl (by decide +kernel) ?_
  refine l_icmp (p' := 2547) true rfl rfl (by decide +kernel) rfl ?_
  refine l_con (p' := 2548) rfl rfl rfl ?_
  refine l_end rfl rfl ?_
  exact ⟨Nat.le_trans (Nat.le_of_eq (len_s (len_s HL))) (Nat.le_of_ble_eq_true rfl), Nat.le_trans (sz_s rfl (rd_sn rfl H400) rfl (sz_sA rfl H412 HZ)) (Nat.le_of_ble_eq_true rfl)⟩
theorem p1_11_5 {xs : Nat → Int32} {h : mj_H} (hk : xs 0 &&& nI 63 = nI 11)  (hc : ((xs 1).toUInt32 % 65536).toInt32 = nI 102) (HL : h.length = 414) (HZ : mj_sz h ≤ 20000) (H0 : mj_rd h 0 = some (.inr (0, [.ref 1, .ref 38, .ref 299, .ref 336, .ref 373, .ref 375, .ref 378, .ref 381, .ref 387, .ref 393, .null, .null, .ref 397, .ref 398, .ref 399, .long (lN 0), .long (lN 0)]))) (H375 : mj_rd h 375 = some (.inr (7, [.ref 376, .ref 377, .int (nI 0)]))) (H376 : mj_rd h 376 = some (.inl (0, (8, .inl (fun _ => 0))))) (H400 : mj_rd h 400 = some (.inr (17, [.int (nI 0), .ref 401, .ref 402, .ref 1000300, .long (lN 0), .long (lN 0), .ref 410, .null, .null, .null, .ref 411]))) (H402 : mj_rd h 402 = some (.inr (19, [.ref 403, .ref 404, .ref 405, .ref 406, .ref 407, .ref 408, .ref 409, .int (nI 0), .int (nI 4294967295), .int (nI 0), .ref 400]))) (H403 : mj_rd h 403 = some (.inl (0, (8, .inl (fun _ => 0))))) (H412 : mj_rd h 412 = some (.inl (4, (1, .inr (.inl (fun _ => 0)))))) : mj_fin 4 xs h := by
  unfold mj_fin
  refine l_ild (p' := 30) rfl rfl rfl rfl ?_
  refine l_alds (p' := 31) rfl rfl rfl rfl ?_
  refine l_lens (p' := 32) rfl rfl rfl ?_
  refine l_con (p' := 33) rfl rfl rfl ?_
  refine l_bz (p' := 34) (z := (nI 0)) rfl rfl rfl rfl rfl (by decide +kernel) ?_
  refine l_icmp (p' := 37) false rfl rfl (by decide +kernel) rfl ?_
  refine l_alds (p' := 38) rfl rfl rfl rfl ?_
  refine l_ild (p' := 40) rfl rfl rfl rfl ?_
  refine l_ialz (p' := 41) (m := 0) (z := (xs 0)) rfl rfl (by decide +kernel) rfl rfl rfl ?_
  refine l_bip (p' := 43) rfl rfl rfl ?_
  refine l_bz (p' := 44) (z := (nI 11)) rfl rfl rfl rfl rfl hk ?_
  refine l_sp (p' := 837) (ls' := _) rfl rfl rfl rfl rfl ?_
  refine l_aldn (p' := 838) rfl rfl rfl rfl ?_
  refine l_alds (p' := 839) rfl rfl rfl rfl ?_
  refine l_ild (p' := 841) rfl rfl rfl rfl ?_
  refine l_con (p' := 842) rfl rfl rfl ?_
  refine l_bz (p' := 843) (z := (nI 1)) rfl rfl rfl rfl rfl (by decide +kernel) ?_
  refine l_ialz (p' := 844) (m := 1) (z := (xs 1)) rfl rfl (by decide +kernel) rfl rfl rfl ?_
  refine l_bz (p' := 845) (z := (nI 102)) rfl rfl rfl rfl rfl hc ?_
  refine l_aldn (p' := 846) rfl rfl rfl rfl ?_
  refine l_call (p' := 849) (kc := 99) (ls0 := [_, _, _, _]) rfl rfl rfl rfl rfl rfl rfl rfl rfl rfl ?_
  refine s_aldn (p' := 1) rfl rfl rfl ?_
  refine s_con (p' := 2) rfl rfl ?_
  refine s_aldn (p' := 3) rfl rfl rfl ?_
  refine s_ildn (p' := 4) rfl rfl rfl ?_
  refine c_call (p' := 7) (kc := 98) (ls0 := [_, _]) rfl rfl rfl rfl rfl (mj_rcv_is H0) rfl rfl rfl ?_
  refine s_ildn (p' := 1) rfl rfl rfl ?_
  refine c_call (p' := 4) (kc := 97) (ls0 := [_]) rfl rfl rfl rfl rfl rfl rfl rfl rfl ?_
  refine s_ildn (p' := 1) rfl rfl rfl ?_
  refine s_bip (p' := 3) rfl rfl ?_
  refine s_icmp (p' := 6) false rfl (by decide +kernel) rfl ?_
  refine s_ildn (p' := 7) rfl rfl rfl ?_
  refine s_bip (p' := 9) rfl rfl ?_
  refine s_icmp (p' := 12) false rfl (by decide +kernel) rfl ?_
  refine s_con (p' := 13) rfl rfl ?_
  refine s_goto (p' := 17) rfl rfl ?_
  refine c_iret rfl (by decide +kernel) ?_
  refine s_if (p' := 17) true rfl (by decide +kernel) rfl ?_
  refine s_aldn (p' := 18) rfl rfl rfl ?_
  refine s_gf (p' := 21) rfl H0 rfl rfl ?_
  refine s_ildn (p' := 22) rfl rfl rfl ?_
  refine s_bip (p' := 24) rfl rfl ?_
  refine s_bz (p' := 25) (z := (nI 5)) rfl rfl rfl (by decide +kernel) ?_
  refine c_call (p' := 28) (kc := 97) (ls0 := [_, _]) rfl rfl rfl rfl rfl (mj_rcv_is H375) rfl rfl rfl ?_
  refine s_ildn (p' := 1) rfl rfl rfl ?_
  refine s_if (p' := 4) false rfl (by decide +kernel) rfl ?_
  refine s_ildn (p' := 5) rfl rfl rfl ?_
  refine s_aldn (p' := 6) rfl rfl rfl ?_
  refine s_gf (p' := 9) rfl H375 rfl rfl ?_
  refine s_lenz (p' := 10) rfl (mj_rdA_is H376 (by decide)) rfl rfl ?_
  refine s_icmp (p' := 13) false rfl (by decide +kernel) rfl ?_
  refine s_aldn (p' := 14) rfl rfl rfl ?_
  refine s_gf (p' := 17) rfl H375 rfl rfl ?_
  refine s_ildn (p' := 18) rfl rfl rfl ?_
  refine s_ialz (p' := 19) (m := 5) (v := (nI 0)) rfl H376 (by decide +kernel) rfl (by decide +kernel) rfl ?_
  refine s_goto (p' := 23) rfl rfl ?_
  refine c_iret rfl rfl ?_
  refine c_iret rfl rfl ?_
  refine s_bzL (p' := 8) (z := (lN 0)) rfl rfl rfl (by decide +kernel) ?_
  refine s_lasz (p' := 9) (m := 0) rfl rfl H412 (by decide +kernel) rfl rfl rfl ?_
  refine s_goto (p' := 15) rfl rfl ?_
  refine s_con (p' := 16) rfl rfl ?_
  refine k_iret rfl rfl ?_
  refine l_ist (p' := 851) (ls' := [_, _, _, _, _, _, _, _, _, _]) rfl rfl rfl rfl rfl ?_
  refine l_aldn (p' := 852) rfl rfl rfl rfl ?_
  refine l_alds (p' := 853) rfl rfl rfl rfl ?_
  refine l_ild (p' := 855) rfl rfl rfl rfl ?_
  refine l_con (p' := 856) rfl rfl rfl ?_
  refine l_bz (p' := 857) (z := (nI 1)) rfl rfl rfl rfl rfl (by decide +kernel) ?_
  refine l_ialz (p' := 858) (m := 1) (z := (xs 1)) rfl rfl (by decide +kernel) rfl rfl rfl ?_
  refine l_bz (p' := 859) (z := (nI 102)) rfl rfl rfl rfl rfl hc ?_
  refine l_call (p' := 862) (kc := 99) (ls0 := [_, _]) rfl rfl rfl rfl rfl rfl (mj_rcv_is (rd_sn rfl H400)) rfl rfl rfl ?_
  refine s_aldn (p' := 1) rfl rfl rfl ?_
  refine s_ildn (p' := 2) rfl rfl rfl ?_
  refine c_call (p' := 5) (kc := 98) (ls0 := [_]) rfl rfl rfl rfl rfl rfl rfl rfl rfl ?_
  refine s_ildn (p' := 1) rfl rfl rfl ?_
  refine s_bip (p' := 3) rfl rfl ?_
  refine s_bip (p' := 5) rfl rfl ?_
  refine c_call (p' := 8) (kc := 97) (ls0 := [_, _, _]) rfl rfl rfl rfl rfl rfl rfl rfl rfl ?_
  refine s_ildn (p' := 1) rfl rfl rfl ?_
  refine s_ildn (p' := 2) rfl rfl rfl ?_
  refine s_icmp (p' := 5) false rfl (by decide +kernel) rfl ?_
  refine s_ildn (p' := 6) rfl rfl rfl ?_
  refine s_ildn (p' := 7) rfl rfl rfl ?_
  refine s_icmp (p' := 10) false rfl (by decide +kernel) rfl ?_
  refine s_con (p' := 11) rfl rfl ?_
  refine s_goto (p' := 15) rfl rfl ?_
  refine c_iret rfl (by decide +kernel) ?_
  refine c_iret rfl (by decide +kernel) ?_
  refine s_if (p' := 8) false rfl (by decide +kernel) rfl ?_
  refine s_con (p' := 9) rfl rfl ?_
  refine s_goto (p' := 13) rfl rfl ?_
  refine c_call (p' := 16) (kc := 98) (ls0 := [_, _]) rfl rfl rfl rfl rfl (mj_rcv_is (rd_sn rfl H400)) rfl rfl rfl ?_
  refine s_aldn (p' := 1) rfl rfl rfl ?_
  refine s_ildn (p' := 2) rfl rfl rfl ?_
  refine s_pfz (p' := 5) (fs' := [_, _, _, _, _, _, _, _, _, _, _]) rfl rfl (rd_sn rfl H400) rfl rfl rfl rfl ?_
  refine s_ildn (p' := 6) rfl rfl rfl ?_
  refine s_if (p' := 13) true rfl (by decide +kernel) rfl ?_
  refine s_con (p' := 14) rfl rfl ?_
  refine c_iret rfl (by decide +kernel) ?_
  refine s_if (p' := 23) true rfl (by decide +kernel) rfl ?_
  refine s_aldn (p' := 24) rfl rfl rfl ?_
  refine s_gf (p' := 27) rfl (rd_ss rfl (rd_sn rfl H400)) rfl rfl ?_
  refine s_gf (p' := 30) rfl (rd_sn rfl (rd_sn rfl H402)) rfl rfl ?_
  refine s_ildn (p' := 31) rfl rfl rfl ?_
  refine s_bip (p' := 33) rfl rfl ?_
  refine s_bz (p' := 34) (z := (nI 5)) rfl rfl rfl (by decide +kernel) ?_
  refine s_ialz (p' := 35) (m := 5) (v := (nI 0)) rfl (rd_sn rfl (rd_sn rfl H403)) (by decide +kernel) rfl (by decide +kernel) rfl ?_
  refine k_iret rfl rfl ?_
  refine l_ist (p' := 864) (ls' := [_, _, _, _, _, _, _, _, _, _]) rfl rfl rfl rfl rfl ?_
  refine l_aldn (p' := 865) rfl rfl rfl rfl ?_
  refine l_call (p' := 868) (kc := 99) (ls0 := [_]) rfl rfl rfl rfl rfl rfl (mj_rcv_is (rd_ss rfl (rd_sn rfl H400))) rfl rfl rfl ?_
  refine s_aldn (p' := 1) rfl rfl rfl ?_
  refine s_gf (p' := 4) rfl (rd_ss rfl (rd_sn rfl H400)) rfl rfl ?_
  refine k_iret rfl rfl ?_
  refine l_ild (p' := 870) rfl rfl rfl rfl ?_
  refine l_icmp (p' := 875) true rfl rfl (by decide +kernel) rfl ?_
  refine l_ild (p' := 877) rfl rfl rfl rfl ?_
  refine l_if (p' := 880) false rfl rfl (by decide +kernel) rfl ?_
  refine l_aldn (p' := 881) rfl rfl rfl rfl ?_
  refine l_con (p' := 882) rfl rfl rfl ?_
  refine l_lalz (p' := 883) (m := 0) (v := (lN 0)) rfl rfl (rd_sn rfl (rd_ss rfl H412)) (by decide +kernel) rfl (by decide +kernel) rfl ?_
  refine l_ild (p' := 885) rfl rfl rfl rfl ?_
  refine l_bzL (p' := 886) (z := (lN 0)) rfl rfl rfl rfl rfl (by decide +kernel) ?_
  refine l_bz (p' := 887) (z := (nI 0)) rfl rfl rfl rfl rfl (by decide +kernel) ?_
  refine l_if (p' := 892) true rfl rfl (by decide +kernel) rfl ?_
  refine l_goto (p' := 2541) rfl rfl rfl ?_
  refine l_incz (p' := 2544) (w := (nI 4)) (ls' := [_, _, _, _, _, _, _, _, _, _]) rfl rfl rfl rfl (by decide +kernel) rfl rfl ?_
  refine l_goto (p' := 28) rfl rfl rfl ?_
  refine l_ild (p' := 30) rfl rfl rfl rfl ?_
  refine l_alds (p' := 31) rfl rfl rfl rfl ?_
  refine l_lens (p' := 32) rfl rfl rfl ?_
  refine l_con (p' := 33) rfl rfl rfl ?_
  refine l_bz (p' := 34) (z := (nI 0)) rfl rfl rfl rfl rfl (by decide +kernel) ?_
  refine l_icmp (p' := 2547) true rfl rfl (by decide +kernel) rfl ?_
  refine l_con (p' := 2548) rfl rfl rfl ?_
  refine l_end rfl rfl ?_
  exact ⟨Nat.le_trans (Nat.le_of_eq (len_s (len_s HL))) (Nat.le_of_ble_eq_true rfl), Nat.le_trans (sz_s rfl (rd_sn rfl H400) rfl (sz_sA rfl H412 HZ)) (Nat.le_of_ble_eq_true rfl)⟩
