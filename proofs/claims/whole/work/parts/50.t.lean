theorem p1_get_0 {xs : Nat → Int32} {h : mj_H} (hc : ((xs 1).toUInt32 % 65536).toInt32 = nI 97) (hk : xs 0 &&& nI 63 = nI 11)  (HL : h.length = 414) (HZ : mj_sz h ≤ 20000) (H0 : mj_rd h 0 = some (.inr (0, [.ref 1, .ref 38, .ref 299, .ref 336, .ref 373, .ref 375, .ref 378, .ref 381, .ref 387, .ref 393, .null, .null, .ref 397, .ref 398, .ref 399, .long (lN 0), .long (lN 0)]))) (H375 : mj_rd h 375 = some (.inr (7, [.ref 376, .ref 377, .int (nI 0)]))) (H376 : mj_rd h 376 = some (.inl (0, (8, .inl (fun _ => 0))))) (H400 : mj_rd h 400 = some (.inr (17, [.int (nI 0), .ref 401, .ref 402, .ref 1000300, .long (lN 0), .long (lN 0), .ref 410, .null, .null, .null, .ref 411]))) (H402 : mj_rd h 402 = some (.inr (19, [.ref 403, .ref 404, .ref 405, .ref 406, .ref 407, .ref 408, .ref 409, .int (nI 0), .int (nI 4294967295), .int (nI 0), .ref 400]))) (H403 : mj_rd h 403 = some (.inl (0, (8, .inl (fun _ => 0))))) (H412 : mj_rd h 412 = some (.inl (4, (1, .inr (.inl (fun _ => 0)))))) : mj_fin xs h := by
  unfold mj_fin
  refine l_ild (p' := 30) rfl rfl rfl rfl ?_
  refine l_alds (p' := 31) rfl rfl rfl rfl ?_
  refine l_lens (p' := 32) rfl rfl rfl ?_
  refine l_con (p' := 33) rfl rfl rfl ?_
  refine l_bz (p' := 34) (z := (nI 0)) rfl rfl rfl rfl rfl (by decide +kernel) ?_
  refine l_icmp (p' := 37) false rfl rfl (by decide +kernel) rfl ?_
  refine l_alds (p' := 38) rfl rfl rfl rfl ?_
  refine l_ild (p' := 40) rfl rfl rfl rfl ?_
  refine l_ialz (p' := 41) (m := 0) (z := (xs 0)) rfl rfl (by decide +kernel) rfl rfl rfl ?_
  refine l_bip (p' := 43) rfl rfl rfl ?_
  refine l_bz (p' := 44) (z := (nI 11)) rfl rfl rfl rfl rfl hk ?_
  refine l_sp (p' := 837) (ls' := _) rfl rfl rfl rfl rfl ?_
  refine l_aldn (p' := 838) rfl rfl rfl rfl ?_
  refine l_alds (p' := 839) rfl rfl rfl rfl ?_
  refine l_ild (p' := 841) rfl rfl rfl rfl ?_
  refine l_con (p' := 842) rfl rfl rfl ?_
  refine l_bz (p' := 843) (z := (nI 1)) rfl rfl rfl rfl rfl (by decide +kernel) ?_
  refine l_ialz (p' := 844) (m := 1) (z := (xs 1)) rfl rfl (by decide +kernel) rfl rfl rfl ?_
  refine l_bz (p' := 845) (z := (nI 97)) rfl rfl rfl rfl rfl hc ?_
  refine l_aldn (p' := 846) rfl rfl rfl rfl ?_
  refine l_call (p' := 849) (kc := 99) (ls0 := [_, _, _, _]) rfl rfl rfl rfl rfl rfl rfl rfl rfl rfl ?_
  refine s_aldn (p' := 1) rfl rfl rfl ?_
  refine s_con (p' := 2) rfl rfl ?_
  refine s_aldn (p' := 3) rfl rfl rfl ?_
  refine s_ildn (p' := 4) rfl rfl rfl ?_
  refine c_call (p' := 7) (kc := 98) (ls0 := [_, _]) rfl rfl rfl rfl rfl (mj_rcv_is H0) rfl rfl rfl ?_
  refine s_ildn (p' := 1) rfl rfl rfl ?_
  refine c_call (p' := 4) (kc := 97) (ls0 := [_]) rfl rfl rfl rfl rfl rfl rfl rfl rfl ?_
  refine s_ildn (p' := 1) rfl rfl rfl ?_
  refine s_bip (p' := 3) rfl rfl ?_
  refine s_icmp (p' := 6) false rfl (by decide +kernel) rfl ?_
  refine s_ildn (p' := 7) rfl rfl rfl ?_
  refine s_bip (p' := 9) rfl rfl ?_
  refine s_icmp (p' := 12) false rfl (by decide +kernel) rfl ?_
  refine s_con (p' := 13) rfl rfl ?_
  refine s_goto (p' := 17) rfl rfl ?_
  refine c_iret rfl (by decide +kernel) ?_
  refine s_if (p' := 17) true rfl (by decide +kernel) rfl ?_
  refine s_aldn (p' := 18) rfl rfl rfl ?_
  refine s_gf (p' := 21) rfl H0 rfl rfl ?_
  refine s_ildn (p' := 22) rfl rfl rfl ?_
  refine s_bip (p' := 24) rfl rfl ?_
  refine s_bz (p' := 25) (z := (nI 0)) rfl rfl rfl (by decide +kernel) ?_
  refine c_call (p' := 28) (kc := 97) (ls0 := [_, _]) rfl rfl rfl rfl rfl (mj_rcv_is H375) rfl rfl rfl ?_
  refine s_ildn (p' := 1) rfl rfl rfl ?_
  refine s_if (p' := 4) false rfl (by decide +kernel) rfl ?_
  refine s_ildn (p' := 5) rfl rfl rfl ?_
  refine s_aldn (p' := 6) rfl rfl rfl ?_
  refine s_gf (p' := 9) rfl H375 rfl rfl ?_
  refine s_lenz (p' := 10) rfl (mj_rdA_is H376 (by decide)) rfl rfl ?_
  refine s_icmp (p' := 13) false rfl (by decide +kernel) rfl ?_
  refine s_aldn (p' := 14) rfl rfl rfl ?_
  refine s_gf (p' := 17) rfl H375 rfl rfl ?_
  refine s_ildn (p' := 18) rfl rfl rfl ?_
  refine s_ialz (p' := 19) (m := 0) (v := (nI 0)) rfl H376 (by decide +kernel) rfl (by decide +kernel) rfl ?_
  refine s_goto (p' := 23) rfl rfl ?_
  refine c_iret rfl rfl ?_
  refine c_iret rfl rfl ?_
  refine s_bzL (p' := 8) (z := (lN 0)) rfl rfl rfl (by decide +kernel) ?_
  refine s_lasz (p' := 9) (m := 0) rfl rfl H412 (by decide +kernel) rfl rfl rfl ?_
  refine s_goto (p' := 15) rfl rfl ?_
  refine s_con (p' := 16) rfl rfl ?_
  refine k_iret rfl rfl ?_
  refine l_ist (p' := 851) (ls' := [_, _, _, _, _, _, _, _, _, _]) rfl rfl rfl rfl rfl ?_
  refine l_aldn (p' := 852) rfl rfl rfl rfl ?_
  refine l_alds (p' := 853) rfl rfl rfl rfl ?_
  refine l_ild (p' := 855) rfl rfl rfl rfl ?_
  refine l_con (p' := 856) rfl rfl rfl ?_
  refine l_bz (p' := 857) (z := (nI 1)) rfl rfl rfl rfl rfl (by decide +kernel) ?_
  refine l_ialz (p' := 858) (m := 1) (z := (xs 1)) rfl rfl (by decide +kernel) rfl rfl rfl ?_
  refine l_bz (p' := 859) (z := (nI 97)) rfl rfl rfl rfl rfl hc ?_
  refine l_call (p' := 862) (kc := 99) (ls0 := [_, _]) rfl rfl rfl rfl rfl rfl (mj_rcv_is (rd_sn rfl H400)) rfl rfl rfl ?_
  refine s_aldn (p' := 1) rfl rfl rfl ?_
  refine s_ildn (p' := 2) rfl rfl rfl ?_
  refine c_call (p' := 5) (kc := 98) (ls0 := [_]) rfl rfl rfl rfl rfl rfl rfl rfl rfl ?_
  refine s_ildn (p' := 1) rfl rfl rfl ?_
  refine s_bip (p' := 3) rfl rfl ?_
  refine s_bip (p' := 5) rfl rfl ?_
  refine c_call (p' := 8) (kc := 97) (ls0 := [_, _, _]) rfl rfl rfl rfl rfl rfl rfl rfl rfl ?_
  refine s_ildn (p' := 1) rfl rfl rfl ?_
  refine s_ildn (p' := 2) rfl rfl rfl ?_
  refine s_icmp (p' := 5) false rfl (by decide +kernel) rfl ?_
  refine s_ildn (p' := 6) rfl rfl rfl ?_
  refine s_ildn (p' := 7) rfl rfl rfl ?_
  refine s_icmp (p' := 10) false rfl (by decide +kernel) rfl ?_
  refine s_con (p' := 11) rfl rfl ?_
  refine s_goto (p' := 15) rfl rfl ?_
  refine c_iret rfl (by decide +kernel) ?_
  refine c_iret rfl (by decide +kernel) ?_
  refine s_if (p' := 8) false rfl (by decide +kernel) rfl ?_
  refine s_con (p' := 9) rfl rfl ?_
  refine s_goto (p' := 13) rfl rfl ?_
  refine c_call (p' := 16) (kc := 98) (ls0 := [_, _]) rfl rfl rfl rfl rfl (mj_rcv_is (rd_sn rfl H400)) rfl rfl rfl ?_
  refine s_aldn (p' := 1) rfl rfl rfl ?_
  refine s_ildn (p' := 2) rfl rfl rfl ?_
  refine s_pfz (p' := 5) (fs' := [_, _, _, _, _, _, _, _, _, _, _]) rfl rfl (rd_sn rfl H400) rfl rfl rfl rfl ?_
  refine s_ildn (p' := 6) rfl rfl rfl ?_
  refine s_if (p' := 13) true rfl (by decide +kernel) rfl ?_
  refine s_con (p' := 14) rfl rfl ?_
  refine c_iret rfl (by decide +kernel) ?_
  refine s_if (p' := 23) true rfl (by decide +kernel) rfl ?_
  refine s_aldn (p' := 24) rfl rfl rfl ?_
  refine s_gf (p' := 27) rfl (rd_ss rfl (rd_sn rfl H400)) rfl rfl ?_
  refine s_gf (p' := 30) rfl (rd_sn rfl (rd_sn rfl H402)) rfl rfl ?_
  refine s_ildn (p' := 31) rfl rfl rfl ?_
  refine s_bip (p' := 33) rfl rfl ?_
  refine s_bz (p' := 34) (z := (nI 0)) rfl rfl rfl (by decide +kernel) ?_
  refine s_ialz (p' := 35) (m := 0) (v := (nI 0)) rfl (rd_sn rfl (rd_sn rfl H403)) (by decide +kernel) rfl (by decide +kernel) rfl ?_
  refine k_iret rfl rfl ?_
  refine l_ist (p' := 864) (ls' := [_, _, _, _, _, _, _, _, _, _]) rfl rfl rfl rfl rfl ?_
  refine l_aldn (p' := 865) rfl rfl rfl rfl ?_
  refine l_call (p' := 868) (kc := 99) (ls0 := [_]) rfl rfl rfl rfl rfl rfl (mj_rcv_is (rd_ss rfl (rd_sn rfl H400))) rfl rfl rfl ?_
  refine s_aldn (p' := 1) rfl rfl rfl ?_
  refine s_gf (p' := 4) rfl (rd_ss rfl (rd_sn rfl H400)) rfl rfl ?_
  refine k_iret rfl rfl ?_
  refine l_ild (p' := 870) rfl rfl rfl rfl ?_
  refine l_icmp (p' := 875) true rfl rfl (by decide +kernel) rfl ?_
  refine l_ild (p' := 877) rfl rfl rfl rfl ?_
  refine l_if (p' := 880) false rfl rfl (by decide +kernel) rfl ?_
  refine l_aldn (p' := 881) rfl rfl rfl rfl ?_
  refine l_con (p' := 882) rfl rfl rfl ?_
  refine l_lalz (p' := 883) (m := 0) (v := (lN 0)) rfl rfl (rd_sn rfl (rd_ss rfl H412)) (by decide +kernel) rfl (by decide +kernel) rfl ?_
  refine l_ild (p' := 885) rfl rfl rfl rfl ?_
  refine l_bzL (p' := 886) (z := (lN 0)) rfl rfl rfl rfl rfl (by decide +kernel) ?_
  refine l_bz (p' := 887) (z := (nI 0)) rfl rfl rfl rfl rfl (by decide +kernel) ?_
  refine l_if (p' := 892) true rfl rfl (by decide +kernel) rfl ?_
  refine l_goto (p' := 2541) rfl rfl rfl ?_
  refine l_incz (p' := 2544) (w := (nI 4)) (ls' := [_, _, _, _, _, _, _, _, _, _]) rfl rfl rfl rfl (by decide +kernel) rfl rfl ?_
  refine l_goto (p' := 28) rfl rfl rfl ?_
  refine l_ild (p' := 30) rfl rfl rfl rfl ?_
  refine l_alds (p' := 31) rfl rfl rfl rfl ?_
  refine l_lens (p' := 32) rfl rfl rfl ?_
  refine l_con (p' := 33) rfl rfl rfl ?_
  refine l_bz (p' := 34) (z := (nI 0)) rfl rfl rfl rfl rfl (by decide +kernel) ?_
  refine l_icmp (p' := 2547) true rfl rfl (by decide +kernel) rfl ?_
  refine l_con (p' := 2548) rfl rfl rfl ?_
  refine l_end rfl rfl ?_
  exact ⟨Nat.le_trans (Nat.le_of_eq (len_s (len_s HL))) (Nat.le_of_ble_eq_true rfl), Nat.le_trans (sz_s rfl (rd_sn rfl H400) rfl (sz_s rfl H412 rfl HZ)) (Nat.le_of_ble_eq_true rfl)⟩
